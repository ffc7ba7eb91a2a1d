set_option maxRecDepth 100000 in
theorem iX6_tapeAt_X6 : ∀ w ∈ wsX60, w ∈ wsX6_tapeAt := fun w h => (goodIn_r (big := wsX6_tapeAt) wsX60 [2, 3, 4, 5] rfl (by decide +kernel) w h).1
set_option maxRecDepth 100000 in
set_option maxHeartbeats 4000000 in
theorem g_tapeAt (l : Launch) (D : va_G) (cI cL cB cZ cT : ClassId) (sz : Nat) (aU bT aD : Nat) (ch ww : Int32) (t0 t1 t2 t3 : Nat) (t : Int32) : kM (S := Unit) l yX6_tapeAt wsX6_tapeAt ({ frames := 0, cells := 0, slots := 0, locals := 0 }) D (kT cI cL cB cZ cT) [.ref aU, .int t] [(aU, .inr (6, [.ref bT, .ref aD, .int ch, .int ww])), (bT, .inl (cT, 4, .inr (.inr (.inr (.inr (k4 t0 t1 t2 t3))))))] sz eR (fun r _ => kAny t0 t1 t2 t3 r) (fun _ => [(aU, .inr (6, [.ref bT, .ref aD, .int ch, .int ww])), (bT, .inl (cT, 4, .inr (.inr (.inr (.inr (k4 t0 t1 t2 t3))))))]) 0 0 := by
  refine kStart (cc := cX6_tapeAt) (maxL := 2) (ret := (some (.object "TapeCalculator$Tape"))) (own := RX6) (by decide) rfl rfl (Nat.le_of_ble_eq_true rfl) ?_
  intro p e s m args below meth c A ls hx hb hr hml hown hts hlocks hnm hsz hA hG hP hD hS hl
  have hK := hG.1
  have hl : lv_has ls 2 [(0, .ref aU), (1, .int t)] := hl
  refine lv_iload_n hx hb dX6_tapeAt_0 rfl (lv_at hl 1 rfl) ?_
  refine lv_if_lt (tgt := 22) hx hb dX6_tapeAt_1 (by decide) (fun c_1_0 => ?_) (fun c_1_0 => ?_)
  · have t_1_0 := c_1_0
    try simp only [kb_eq0, kb_ne0, lg_cmp_lt, lg_cmp_le, lg_cmp_gt, lg_cmp_ge, lg_cmp_eq] at t_1_0
    try simp only [Int32.lt_iff_toInt_lt, Int32.le_iff_toInt_le, ← Int32.toInt_inj, Int64.lt_iff_toInt_lt, Int64.le_iff_toInt_le, ← Int64.toInt_inj, Int32.toInt_toInt64, Int32.reduceToInt, Int64.reduceToInt] at t_1_0
    refine lv_null hx hb dX6_tapeAt_22 ?_
    refine kAret (u := ()) (v := none) hx hb hr (Or.inl ⟨_, rfl⟩) hlocks hS dX6_tapeAt_23 ?_ (hP.sub [0, 1] rfl) (hD.sub [0, 1] (by decide) rfl)
    first
      | exact Or.inl rfl
      | (have hk := kTp_any t0 t1 t2 t3 t; rw [show kTp (k4 t0 t1 t2 t3) t = k4 t0 t1 t2 t3 t.toNatClampNeg from if_pos (by omega)] at hk; exact hk)
  · have t_1_0 := c_1_0
    try simp only [kb_eq0, kb_ne0, lg_cmp_lt, lg_cmp_le, lg_cmp_gt, lg_cmp_ge, lg_cmp_eq] at t_1_0
    try simp only [Int32.lt_iff_toInt_lt, Int32.le_iff_toInt_le, ← Int32.toInt_inj, Int64.lt_iff_toInt_lt, Int64.le_iff_toInt_le, ← Int64.toInt_inj, Int32.toInt_toInt64, Int32.reduceToInt, Int64.reduceToInt] at t_1_0
    refine lv_iload_n hx hb dX6_tapeAt_4 rfl (lv_at hl 1 rfl) ?_
    refine lv_aload_n hx hb dX6_tapeAt_5 rfl (lv_at hl 0 rfl) ?_
    refine va_get (D := D) (ci := 6) (v := .ref bT) (C := RX6) (T := TX6) (N := 4) hx hb hts iX6_tapeAt_X6 hown hK hP 0 rfl rfl 0 (by decide) (hts (.fieldLink RX6 11 "TapeCalculator$Units" "tapes" "[LTapeCalculator$Tape;") (List.mem_of_getElem? (i := 1) rfl)) (fun _ h9 => h9) rfl dX6_tapeAt_6 ?_
    refine va_alen hx hb hK hP 1 4 rfl rfl (v := 4) rfl dX6_tapeAt_9 ?_
    refine lv_icmp_ge (tgt := 22) hx hb dX6_tapeAt_10 (by decide) (fun c_10_1 => ?_) (fun c_10_1 => ?_)
    · have t_10_1 := c_10_1
      try simp only [kb_eq0, kb_ne0, lg_cmp_lt, lg_cmp_le, lg_cmp_gt, lg_cmp_ge, lg_cmp_eq] at t_10_1
      try simp only [Int32.lt_iff_toInt_lt, Int32.le_iff_toInt_le, ← Int32.toInt_inj, Int64.lt_iff_toInt_lt, Int64.le_iff_toInt_le, ← Int64.toInt_inj, Int32.toInt_toInt64, Int32.reduceToInt, Int64.reduceToInt] at t_10_1
      refine lv_null hx hb dX6_tapeAt_22 ?_
      refine kAret (u := ()) (v := none) hx hb hr (Or.inl ⟨_, rfl⟩) hlocks hS dX6_tapeAt_23 ?_ (hP.sub [0, 1] rfl) (hD.sub [0, 1] (by decide) rfl)
      first
        | exact Or.inl rfl
        | (have hk := kTp_any t0 t1 t2 t3 t; rw [show kTp (k4 t0 t1 t2 t3) t = k4 t0 t1 t2 t3 t.toNatClampNeg from if_pos (by omega)] at hk; exact hk)
    · have t_10_1 := c_10_1
      try simp only [kb_eq0, kb_ne0, lg_cmp_lt, lg_cmp_le, lg_cmp_gt, lg_cmp_ge, lg_cmp_eq] at t_10_1
      try simp only [Int32.lt_iff_toInt_lt, Int32.le_iff_toInt_le, ← Int32.toInt_inj, Int64.lt_iff_toInt_lt, Int64.le_iff_toInt_le, ← Int64.toInt_inj, Int32.toInt_toInt64, Int32.reduceToInt, Int64.reduceToInt] at t_10_1
      refine lv_aload_n hx hb dX6_tapeAt_13 rfl (lv_at hl 0 rfl) ?_
      refine va_get (D := D) (ci := 6) (v := .ref bT) (C := RX6) (T := TX6) (N := 4) hx hb hts iX6_tapeAt_X6 hown hK hP 0 rfl rfl 0 (by decide) (hts (.fieldLink RX6 11 "TapeCalculator$Units" "tapes" "[LTapeCalculator$Tape;") (List.mem_of_getElem? (i := 1) rfl)) (fun _ h9 => h9) rfl dX6_tapeAt_14 ?_
      refine lv_iload_n hx hb dX6_tapeAt_17 rfl (lv_at hl 1 rfl) ?_
      refine va_aldq hx hb hK hP 1 4 rfl rfl (vp_in_iff.mpr (by omega)) dX6_tapeAt_18 ?_
      refine lv_goto (tgt := 23) hx hb dX6_tapeAt_19 (by decide) ?_
      refine kAret (u := ()) (v := ((k4 t0 t1 t2 t3) t.toNatClampNeg)) hx hb hr (Or.inl ⟨_, rfl⟩) hlocks hS dX6_tapeAt_23 ?_ (hP.sub [0, 1] rfl) (hD.sub [0, 1] (by decide) rfl)
      first
        | exact Or.inl rfl
        | (have hk := kTp_any t0 t1 t2 t3 t; rw [show kTp (k4 t0 t1 t2 t3) t = k4 t0 t1 t2 t3 t.toNatClampNeg from if_pos (by omega)] at hk; exact hk)
set_option maxRecDepth 100000 in
theorem iX6_writtenTape_X6 : ∀ w ∈ wsX60, w ∈ wsX6_writtenTape := fun w h => (goodIn_r (big := wsX6_writtenTape) wsX60 [8, 9, 10, 11] rfl (by decide +kernel) w h).1
set_option maxRecDepth 100000 in
set_option maxHeartbeats 4000000 in
theorem g_writtenTape (l : Launch) (D : va_G) (cI cL cB cZ cT : ClassId) (sz : Nat) (aU bT aD : Nat) (ch ww : Int32) (t0 t1 t2 t3 : Nat) : kM (S := Unit) l yX6_writtenTape wsX6_writtenTape ({ frames := 1, cells := 0, slots := 0, locals := 21 }) D (kT cI cL cB cZ cT) [.ref aU] [(aU, .inr (6, [.ref bT, .ref aD, .int ch, .int ww])), (bT, .inl (cT, 4, .inr (.inr (.inr (.inr (k4 t0 t1 t2 t3))))))] sz eR (fun r _ => kAny t0 t1 t2 t3 r) (fun _ => [(aU, .inr (6, [.ref bT, .ref aD, .int ch, .int ww])), (bT, .inl (cT, 4, .inr (.inr (.inr (.inr (k4 t0 t1 t2 t3))))))]) 0 0 := by
  refine kStart (cc := cX6_writtenTape) (maxL := 1) (ret := (some (.object "TapeCalculator$Tape"))) (own := RX6) (by decide) rfl rfl (Nat.le_of_ble_eq_true rfl) ?_
  intro p e s m args below meth c A ls hx hb hr hml hown hts hlocks hnm hsz hA hG hP hD hS hl
  have hK := hG.1
  have hl : lv_has ls 1 [(0, .ref aU)] := hl
  refine lv_aload_n hx hb dX6_writtenTape_0 rfl (lv_at hl 0 rfl) ?_
  refine va_get (D := D) (ci := 6) (v := .int ch) (C := RX6) (T := TX6) (N := 4) hx hb hts iX6_writtenTape_X6 hown hK hP 0 rfl rfl 2 (by decide) (hts (.fieldLink RX6 36 "TapeCalculator$Units" "chosen" "I") (List.mem_of_getElem? (i := 1) rfl)) (fun _ h9 => h9) rfl dX6_writtenTape_1 ?_
  refine lv_bipush (v := 13) hx hb dX6_writtenTape_4 (by decide) ?_
  refine lv_icmp_ge (tgt := 23) hx hb dX6_writtenTape_6 (by decide) (fun c_6_0 => ?_) (fun c_6_0 => ?_)
  · have t_6_0 := c_6_0
    try simp only [kb_eq0, kb_ne0, lg_cmp_lt, lg_cmp_le, lg_cmp_gt, lg_cmp_ge, lg_cmp_eq] at t_6_0
    try simp only [Int32.lt_iff_toInt_lt, Int32.le_iff_toInt_le, ← Int32.toInt_inj, Int64.lt_iff_toInt_lt, Int64.le_iff_toInt_le, ← Int64.toInt_inj, Int32.toInt_toInt64, Int32.reduceToInt, Int64.reduceToInt] at t_6_0
    refine lv_null hx hb dX6_writtenTape_23 ?_
    refine kAret (u := ()) (v := none) hx hb hr (Or.inl ⟨_, rfl⟩) hlocks hS dX6_writtenTape_24 ?_ (hP.sub [0, 1] rfl) (hD.sub [0, 1] (by decide) rfl)
    first
      | exact Or.inl rfl
      | assumption
  · have t_6_0 := c_6_0
    try simp only [kb_eq0, kb_ne0, lg_cmp_lt, lg_cmp_le, lg_cmp_gt, lg_cmp_ge, lg_cmp_eq] at t_6_0
    try simp only [Int32.lt_iff_toInt_lt, Int32.le_iff_toInt_le, ← Int32.toInt_inj, Int64.lt_iff_toInt_lt, Int64.le_iff_toInt_le, ← Int64.toInt_inj, Int32.toInt_toInt64, Int32.reduceToInt, Int64.reduceToInt] at t_6_0
    refine lv_aload_n hx hb dX6_writtenTape_9 rfl (lv_at hl 0 rfl) ?_
    refine lv_aload_n hx hb dX6_writtenTape_10 rfl (lv_at hl 0 rfl) ?_
    refine va_get (D := D) (ci := 6) (v := .int ch) (C := RX6) (T := TX6) (N := 4) hx hb hts iX6_writtenTape_X6 hown hK hP 0 rfl rfl 2 (by decide) (hts (.fieldLink RX6 36 "TapeCalculator$Units" "chosen" "I") (List.mem_of_getElem? (i := 1) rfl)) (fun _ h9 => h9) rfl dX6_writtenTape_11 ?_
    refine lv_bipush (v := 9) hx hb dX6_writtenTape_14 (by decide) ?_
    refine lv_isub hx hb dX6_writtenTape_16 ?_
    refine kCallR (wr := []) (va_runV (As := [.int (ch - 9)]) (rest := []) ⟨hx, hb, hml, hown, hts⟩ (g_tapeAt l D cI cL cB cZ cT _ aU bT aD ch ww t0 t1 t2 t3 (ch - 9)) (cwV 1 hts gX6_writtenTape_X6_tapeAt rfl rfl rfl (by decide +kernel) ⟨Nat.le_of_ble_eq_true rfl, Nat.le_of_ble_eq_true rfl⟩) (kPreV hG hP hD [0, 1] rfl (by decide) 0 6 rfl rfl rfl) rfl rfl hl.1 rfl (lv_room (Nat.le_of_ble_eq_true rfl)) dX6_writtenTape_17 ⟨Nat.le_of_ble_eq_true rfl, Nat.le_of_ble_eq_true rfl⟩) hA hP hD hS [0, 1] [] rfl rfl (by decide) (by decide) (fun r_2 u_r_2 H locs wr_2 hP hD hS => ?_)
    have hP : va_P D vwCl [(aU, .inr (6, [.ref bT, .ref aD, .int ch, .int ww])), (bT, .inl (cT, 4, .inr (.inr (.inr (.inr (k4 t0 t1 t2 t3))))))] H := hP
    have hD : va_D A [(aU, .inr (6, [.ref bT, .ref aD, .int ch, .int ww])), (bT, .inl (cT, 4, .inr (.inr (.inr (.inr (k4 t0 t1 t2 t3))))))] := hD
    try dsimp only at wr_2
    refine lv_goto (tgt := 24) hx hb dX6_writtenTape_20 (by decide) ?_
    refine kAret (u := ()) (v := r_2) hx hb hr (Or.inl ⟨_, rfl⟩) hlocks hS dX6_writtenTape_24 ?_ (hP.sub [0, 1] rfl) (hD.sub [0, 1] (by decide) rfl)
    first
      | exact Or.inl rfl
      | assumption
set_option maxRecDepth 100000 in
theorem iX6_clearTape_X4 : ∀ w ∈ wsX40, w ∈ wsX6_clearTape := fun w h => (goodIn_r (big := wsX6_clearTape) wsX40 [17, 18, 19] rfl (by decide +kernel) w h).1
set_option maxRecDepth 100000 in
theorem iX6_clearTape_X6 : ∀ w ∈ wsX60, w ∈ wsX6_clearTape := fun w h => (goodIn_r (big := wsX6_clearTape) wsX60 [20, 21, 22, 23] rfl (by decide +kernel) w h).1
set_option maxRecDepth 100000 in
set_option maxHeartbeats 4000000 in
theorem g_clearTape (l : Launch) (D : va_G) (cI cL cB cZ cT : ClassId) (sz : Nat) (aU bT aD : Nat) (ch ww : Int32) (t0 t1 t2 t3 : Nat) (i0 i1 i2 i3 : Nat) (n0 n1 n2 n3 p0 p1 p2 p3 : Int32) (f0 f1 f2 f3 : Nat → Int64) (t : Int32) : kM (S := (Int32 × Int32 × Int32 × Int32 × Int32 × Int32 × Int32 × Int32 × Int32 × Int32 × (Nat → Int64) × (Nat → Int64) × (Nat → Int64) × (Nat → Int64))) l yX6_clearTape wsX6_clearTape ({ frames := 1, cells := 0, slots := 0, locals := 21 }) D (kT cI cL cB cZ cT) [.ref aU, .int t] [(aU, .inr (6, [.ref bT, .ref aD, .int ch, .int ww])), (bT, .inl (cT, 4, .inr (.inr (.inr (.inr (k4 t0 t1 t2 t3)))))), (t0, .inr (4, [.ref i0, .int n0, .int p0])), (i0, .inl (cL, 300, .inr (.inl f0))), (t1, .inr (4, [.ref i1, .int n1, .int p1])), (i1, .inl (cL, 300, .inr (.inl f1))), (t2, .inr (4, [.ref i2, .int n2, .int p2])), (i2, .inl (cL, 300, .inr (.inl f2))), (t3, .inr (4, [.ref i3, .int n3, .int p3])), (i3, .inl (cL, 300, .inr (.inl f3)))] sz eI (fun _ _ => True) (fun u => [(aU, .inr (6, [.ref bT, .ref aD, .int u.1, .int u.2.1])), (bT, .inl (cT, 4, .inr (.inr (.inr (.inr (k4 t0 t1 t2 t3)))))), (t0, .inr (4, [.ref i0, .int u.2.2.1, .int u.2.2.2.2.2.2.1])), (i0, .inl (cL, 300, .inr (.inl u.2.2.2.2.2.2.2.2.2.2.1))), (t1, .inr (4, [.ref i1, .int u.2.2.2.1, .int u.2.2.2.2.2.2.2.1])), (i1, .inl (cL, 300, .inr (.inl u.2.2.2.2.2.2.2.2.2.2.2.1))), (t2, .inr (4, [.ref i2, .int u.2.2.2.2.1, .int u.2.2.2.2.2.2.2.2.1])), (i2, .inl (cL, 300, .inr (.inl u.2.2.2.2.2.2.2.2.2.2.2.2.1))), (t3, .inr (4, [.ref i3, .int u.2.2.2.2.2.1, .int u.2.2.2.2.2.2.2.2.2.1])), (i3, .inl (cL, 300, .inr (.inl u.2.2.2.2.2.2.2.2.2.2.2.2.2)))]) 0 0 := by
  refine kStart (cc := cX6_clearTape) (maxL := 4) (ret := (some .int)) (own := RX6) (by decide) rfl rfl (Nat.le_of_ble_eq_true rfl) ?_
  intro p e s m args below meth c A ls hx hb hr hml hown hts hlocks hnm hsz hA hG hP hD hS hl
  have hK := hG.1
  have hl : lv_has ls 4 [(0, .ref aU), (1, .int t)] := hl
  refine lv_aload_n hx hb dX6_clearTape_0 rfl (lv_at hl 0 rfl) ?_
  refine lv_iload_n hx hb dX6_clearTape_1 rfl (lv_at hl 1 rfl) ?_
  refine kCallR (wr := [(t0, .inr (4, [.ref i0, .int n0, .int p0])), (i0, .inl (cL, 300, .inr (.inl f0))), (t1, .inr (4, [.ref i1, .int n1, .int p1])), (i1, .inl (cL, 300, .inr (.inl f1))), (t2, .inr (4, [.ref i2, .int n2, .int p2])), (i2, .inl (cL, 300, .inr (.inl f2))), (t3, .inr (4, [.ref i3, .int n3, .int p3])), (i3, .inl (cL, 300, .inr (.inl f3)))]) (va_runV (As := [.int t]) (rest := []) ⟨hx, hb, hml, hown, hts⟩ (g_tapeAt l D cI cL cB cZ cT _ aU bT aD ch ww t0 t1 t2 t3 t) (cwV 1 hts gX6_clearTape_X6_tapeAt rfl rfl rfl (by decide +kernel) ⟨Nat.le_of_ble_eq_true rfl, Nat.le_of_ble_eq_true rfl⟩) (kPreV hG hP hD [0, 1] rfl (by decide) 0 6 rfl rfl rfl) rfl rfl hl.1 rfl (lv_room (Nat.le_of_ble_eq_true rfl)) dX6_clearTape_2 ⟨Nat.le_of_ble_eq_true rfl, Nat.le_of_ble_eq_true rfl⟩) hA hP hD hS [0, 1] [2, 3, 4, 5, 6, 7, 8, 9] rfl rfl (by decide) (by decide) (fun r_1 u_r_1 H locs wr_1 hP hD hS => ?_)
  have hP : va_P D vwCl [(t0, .inr (4, [.ref i0, .int n0, .int p0])), (i0, .inl (cL, 300, .inr (.inl f0))), (t1, .inr (4, [.ref i1, .int n1, .int p1])), (i1, .inl (cL, 300, .inr (.inl f1))), (t2, .inr (4, [.ref i2, .int n2, .int p2])), (i2, .inl (cL, 300, .inr (.inl f2))), (t3, .inr (4, [.ref i3, .int n3, .int p3])), (i3, .inl (cL, 300, .inr (.inl f3))), (aU, .inr (6, [.ref bT, .ref aD, .int ch, .int ww])), (bT, .inl (cT, 4, .inr (.inr (.inr (.inr (k4 t0 t1 t2 t3))))))] H := hP
  have hD : va_D A [(t0, .inr (4, [.ref i0, .int n0, .int p0])), (i0, .inl (cL, 300, .inr (.inl f0))), (t1, .inr (4, [.ref i1, .int n1, .int p1])), (i1, .inl (cL, 300, .inr (.inl f1))), (t2, .inr (4, [.ref i2, .int n2, .int p2])), (i2, .inl (cL, 300, .inr (.inl f2))), (t3, .inr (4, [.ref i3, .int n3, .int p3])), (i3, .inl (cL, 300, .inr (.inl f3))), (aU, .inr (6, [.ref bT, .ref aD, .int ch, .int ww])), (bT, .inl (cT, 4, .inr (.inr (.inr (.inr (k4 t0 t1 t2 t3))))))] := hD
  try dsimp only at wr_1
  rcases wr_1 with rfl | rfl | rfl | rfl | rfl
  · show W _ _ _ _ _ _ _ _ _ _ _ _ _ _ _ (F0 _ _ _ (Value.null :: _))
    refine lv_astore_nN (lv' := [(2, .null), (0, .ref aU), (1, .int t)]) hx hb dX6_clearTape_5 rfl hl (by decide) rfl (fun ls hl => ?_)
    refine lv_aload_nN hx hb dX6_clearTape_6 rfl (lv_at hl 0 rfl) ?_
    refine lv_ifnonnullN hx hb dX6_clearTape_7 ?_
    refine lv_iconst (v := (-1)) hx hb dX6_clearTape_10 (by decide) ?_
    refine kIret (u := (ch, ww, n0, n1, n2, n3, p0, p1, p2, p3, f0, f1, f2, f3)) hx hb hr rfl hlocks hS dX6_clearTape_11 ?_ (hP.sub [8, 9, 0, 1, 2, 3, 4, 5, 6, 7] rfl) (hD.sub [8, 9, 0, 1, 2, 3, 4, 5, 6, 7] (by decide) rfl)
    exact trivial
  · show W _ _ _ _ _ _ _ _ _ _ _ _ _ _ _ (F0 _ _ _ (Value.ref t0 :: _))
    refine lv_astore_n (lv' := [(2, .ref t0), (0, .ref aU), (1, .int t)]) hx hb dX6_clearTape_5 rfl hl (by decide) rfl (fun ls hl => ?_)
    refine lv_aload_n hx hb dX6_clearTape_6 rfl (lv_at hl 0 rfl) ?_
    refine lv_ifnonnull (tgt := 12) hx hb dX6_clearTape_7 (by decide) ?_
    refine lv_aload_n hx hb dX6_clearTape_12 rfl (lv_at hl 0 rfl) ?_
    refine va_get (D := D) (ci := 4) (v := .int n0) (C := RX4) (T := TX4) (N := 3) hx hb hts iX6_clearTape_X4 hown hK hP 0 rfl rfl 1 (by decide) (hts (.fieldLink RX6 29 "TapeCalculator$Tape" "count" "I") (List.mem_of_getElem? (i := 1) rfl)) (fun _ h9 => h9) rfl dX6_clearTape_13 ?_
    refine lv_istore_n (lv' := [(3, .int n0), (2, .ref t0), (0, .ref aU), (1, .int t)]) hx hb dX6_clearTape_16 rfl hl (by decide) rfl (fun ls hl => ?_)
    refine lv_aload_n hx hb dX6_clearTape_17 rfl (lv_at hl 1 rfl) ?_
    refine kCallVd (wr := [(t1, .inr (4, [.ref i1, .int n1, .int p1])), (i1, .inl (cL, 300, .inr (.inl f1))), (t2, .inr (4, [.ref i2, .int n2, .int p2])), (i2, .inl (cL, 300, .inr (.inl f2))), (t3, .inr (4, [.ref i3, .int n3, .int p3])), (i3, .inl (cL, 300, .inr (.inl f3))), (aU, .inr (6, [.ref bT, .ref aD, .int ch, .int ww])), (bT, .inl (cT, 4, .inr (.inr (.inr (.inr (k4 t0 t1 t2 t3))))))]) (va_runV (As := []) (rest := []) ⟨hx, hb, hml, hown, hts⟩ (g_clear l D cI cL cB cZ cT _ t0 i0 n0 p0 f0) (cwV 0 hts gX6_clearTape_X4_clear rfl rfl rfl (by decide +kernel) ⟨Nat.le_of_ble_eq_true rfl, Nat.le_of_ble_eq_true rfl⟩) (kPreV hG hP hD [0, 1] rfl (by decide) 0 4 rfl rfl rfl) rfl rfl hl.1 rfl (lv_room (Nat.le_of_ble_eq_true rfl)) dX6_clearTape_18 ⟨Nat.le_of_ble_eq_true rfl, Nat.le_of_ble_eq_true rfl⟩) hA hP hD hS [0, 1] [2, 3, 4, 5, 6, 7, 8, 9] rfl rfl (by decide) (by decide) (fun _ u_r_2 H locs wr_2 hP hD hS => ?_)
    have hP : va_P D vwCl [(t1, .inr (4, [.ref i1, .int n1, .int p1])), (i1, .inl (cL, 300, .inr (.inl f1))), (t2, .inr (4, [.ref i2, .int n2, .int p2])), (i2, .inl (cL, 300, .inr (.inl f2))), (t3, .inr (4, [.ref i3, .int n3, .int p3])), (i3, .inl (cL, 300, .inr (.inl f3))), (aU, .inr (6, [.ref bT, .ref aD, .int ch, .int ww])), (bT, .inl (cT, 4, .inr (.inr (.inr (.inr (k4 t0 t1 t2 t3)))))), (t0, .inr (4, [.ref i0, .int u_r_2.1, .int u_r_2.2])), (i0, .inl (cL, 300, .inr (.inl f0)))] H := hP
    have hD : va_D A [(t1, .inr (4, [.ref i1, .int n1, .int p1])), (i1, .inl (cL, 300, .inr (.inl f1))), (t2, .inr (4, [.ref i2, .int n2, .int p2])), (i2, .inl (cL, 300, .inr (.inl f2))), (t3, .inr (4, [.ref i3, .int n3, .int p3])), (i3, .inl (cL, 300, .inr (.inl f3))), (aU, .inr (6, [.ref bT, .ref aD, .int ch, .int ww])), (bT, .inl (cT, 4, .inr (.inr (.inr (.inr (k4 t0 t1 t2 t3)))))), (t0, .inr (4, [.ref i0, .int u_r_2.1, .int u_r_2.2])), (i0, .inl (cL, 300, .inr (.inl f0)))] := hD
    try dsimp only at wr_2
    refine lv_aload_n hx hb dX6_clearTape_21 rfl (lv_at hl 2 rfl) ?_
    refine va_get (D := D) (ci := 6) (v := .int ch) (C := RX6) (T := TX6) (N := 4) hx hb hts iX6_clearTape_X6 hown hK hP 6 rfl rfl 2 (by decide) (hts (.fieldLink RX6 36 "TapeCalculator$Units" "chosen" "I") (List.mem_of_getElem? (i := 2) rfl)) (fun _ h9 => h9) rfl dX6_clearTape_22 ?_
    refine lv_bipush (v := 9) hx hb dX6_clearTape_25 (by decide) ?_
    refine lv_iload_n hx hb dX6_clearTape_27 rfl (lv_at hl 3 rfl) ?_
    refine lv_iadd hx hb dX6_clearTape_28 ?_
    refine lv_icmp_ne (tgt := 37) hx hb dX6_clearTape_29 (by decide) (fun c_29_2 => ?_) (fun c_29_2 => ?_)
    · have t_29_2 := c_29_2
      try simp only [kb_eq0, kb_ne0, lg_cmp_lt, lg_cmp_le, lg_cmp_gt, lg_cmp_ge, lg_cmp_eq] at t_29_2
      try simp only [Int32.lt_iff_toInt_lt, Int32.le_iff_toInt_le, ← Int32.toInt_inj, Int64.lt_iff_toInt_lt, Int64.le_iff_toInt_le, ← Int64.toInt_inj, Int32.toInt_toInt64, Int32.reduceToInt, Int64.reduceToInt] at t_29_2
      refine lv_iload_n hx hb dX6_clearTape_37 rfl (lv_at hl 0 rfl) ?_
      refine kIret (u := (ch, ww, u_r_2.1, n1, n2, n3, u_r_2.2, p1, p2, p3, f0, f1, f2, f3)) hx hb hr rfl hlocks hS dX6_clearTape_38 ?_ (hP.sub [6, 7, 8, 9, 0, 1, 2, 3, 4, 5] rfl) (hD.sub [6, 7, 8, 9, 0, 1, 2, 3, 4, 5] (by decide) rfl)
      exact trivial
    · have t_29_2 := c_29_2
      try simp only [kb_eq0, kb_ne0, lg_cmp_lt, lg_cmp_le, lg_cmp_gt, lg_cmp_ge, lg_cmp_eq] at t_29_2
      try simp only [Int32.lt_iff_toInt_lt, Int32.le_iff_toInt_le, ← Int32.toInt_inj, Int64.lt_iff_toInt_lt, Int64.le_iff_toInt_le, ← Int64.toInt_inj, Int32.toInt_toInt64, Int32.reduceToInt, Int64.reduceToInt] at t_29_2
      refine lv_aload_n hx hb dX6_clearTape_32 rfl (lv_at hl 2 rfl) ?_
      refine lv_iconst (v := 0) hx hb dX6_clearTape_33 (by decide) ?_
      refine va_put (D := D) (ci := 6) (v := .int 0) (ty := .boolean) (C := RX6) (T := TX6) (N := 4) hx hb hts iX6_clearTape_X6 tyX6 tyX6_ok nmX6 hown hK hP hD hS 6 rfl rfl 3 (by decide) (hts (.fieldLink RX6 39 "TapeCalculator$Units" "wordWritten" "Z") (List.mem_of_getElem? (i := 3) rfl)) (fun _ h9 => h9) rfl (by decide +kernel) rfl rfl (Nat.le_of_ble_eq_true rfl) dX6_clearTape_34 (fun H locs hP hD hS => ?_)
      have hP : va_P D vwCl [(t1, .inr (4, [.ref i1, .int n1, .int p1])), (i1, .inl (cL, 300, .inr (.inl f1))), (t2, .inr (4, [.ref i2, .int n2, .int p2])), (i2, .inl (cL, 300, .inr (.inl f2))), (t3, .inr (4, [.ref i3, .int n3, .int p3])), (i3, .inl (cL, 300, .inr (.inl f3))), (aU, .inr (6, [.ref bT, .ref aD, .int ch, .int 0])), (bT, .inl (cT, 4, .inr (.inr (.inr (.inr (k4 t0 t1 t2 t3)))))), (t0, .inr (4, [.ref i0, .int u_r_2.1, .int u_r_2.2])), (i0, .inl (cL, 300, .inr (.inl f0)))] H := hP
      have hD : va_D A [(t1, .inr (4, [.ref i1, .int n1, .int p1])), (i1, .inl (cL, 300, .inr (.inl f1))), (t2, .inr (4, [.ref i2, .int n2, .int p2])), (i2, .inl (cL, 300, .inr (.inl f2))), (t3, .inr (4, [.ref i3, .int n3, .int p3])), (i3, .inl (cL, 300, .inr (.inl f3))), (aU, .inr (6, [.ref bT, .ref aD, .int ch, .int 0])), (bT, .inl (cT, 4, .inr (.inr (.inr (.inr (k4 t0 t1 t2 t3)))))), (t0, .inr (4, [.ref i0, .int u_r_2.1, .int u_r_2.2])), (i0, .inl (cL, 300, .inr (.inl f0)))] := hD
      refine lv_iload_n hx hb dX6_clearTape_37 rfl (lv_at hl 0 rfl) ?_
      refine kIret (u := (ch, 0, u_r_2.1, n1, n2, n3, u_r_2.2, p1, p2, p3, f0, f1, f2, f3)) hx hb hr rfl hlocks hS dX6_clearTape_38 ?_ (hP.sub [6, 7, 8, 9, 0, 1, 2, 3, 4, 5] rfl) (hD.sub [6, 7, 8, 9, 0, 1, 2, 3, 4, 5] (by decide) rfl)
      exact trivial
  · show W _ _ _ _ _ _ _ _ _ _ _ _ _ _ _ (F0 _ _ _ (Value.ref t1 :: _))
    refine lv_astore_n (lv' := [(2, .ref t1), (0, .ref aU), (1, .int t)]) hx hb dX6_clearTape_5 rfl hl (by decide) rfl (fun ls hl => ?_)
    refine lv_aload_n hx hb dX6_clearTape_6 rfl (lv_at hl 0 rfl) ?_
    refine lv_ifnonnull (tgt := 12) hx hb dX6_clearTape_7 (by decide) ?_
    refine lv_aload_n hx hb dX6_clearTape_12 rfl (lv_at hl 0 rfl) ?_
    refine va_get (D := D) (ci := 4) (v := .int n1) (C := RX4) (T := TX4) (N := 3) hx hb hts iX6_clearTape_X4 hown hK hP 2 rfl rfl 1 (by decide) (hts (.fieldLink RX6 29 "TapeCalculator$Tape" "count" "I") (List.mem_of_getElem? (i := 1) rfl)) (fun _ h9 => h9) rfl dX6_clearTape_13 ?_
    refine lv_istore_n (lv' := [(3, .int n1), (2, .ref t1), (0, .ref aU), (1, .int t)]) hx hb dX6_clearTape_16 rfl hl (by decide) rfl (fun ls hl => ?_)
    refine lv_aload_n hx hb dX6_clearTape_17 rfl (lv_at hl 1 rfl) ?_
    refine kCallVd (wr := [(t0, .inr (4, [.ref i0, .int n0, .int p0])), (i0, .inl (cL, 300, .inr (.inl f0))), (t2, .inr (4, [.ref i2, .int n2, .int p2])), (i2, .inl (cL, 300, .inr (.inl f2))), (t3, .inr (4, [.ref i3, .int n3, .int p3])), (i3, .inl (cL, 300, .inr (.inl f3))), (aU, .inr (6, [.ref bT, .ref aD, .int ch, .int ww])), (bT, .inl (cT, 4, .inr (.inr (.inr (.inr (k4 t0 t1 t2 t3))))))]) (va_runV (As := []) (rest := []) ⟨hx, hb, hml, hown, hts⟩ (g_clear l D cI cL cB cZ cT _ t1 i1 n1 p1 f1) (cwV 0 hts gX6_clearTape_X4_clear rfl rfl rfl (by decide +kernel) ⟨Nat.le_of_ble_eq_true rfl, Nat.le_of_ble_eq_true rfl⟩) (kPreV hG hP hD [2, 3] rfl (by decide) 0 4 rfl rfl rfl) rfl rfl hl.1 rfl (lv_room (Nat.le_of_ble_eq_true rfl)) dX6_clearTape_18 ⟨Nat.le_of_ble_eq_true rfl, Nat.le_of_ble_eq_true rfl⟩) hA hP hD hS [2, 3] [0, 1, 4, 5, 6, 7, 8, 9] rfl rfl (by decide) (by decide) (fun _ u_r_4 H locs wr_4 hP hD hS => ?_)
    have hP : va_P D vwCl [(t0, .inr (4, [.ref i0, .int n0, .int p0])), (i0, .inl (cL, 300, .inr (.inl f0))), (t2, .inr (4, [.ref i2, .int n2, .int p2])), (i2, .inl (cL, 300, .inr (.inl f2))), (t3, .inr (4, [.ref i3, .int n3, .int p3])), (i3, .inl (cL, 300, .inr (.inl f3))), (aU, .inr (6, [.ref bT, .ref aD, .int ch, .int ww])), (bT, .inl (cT, 4, .inr (.inr (.inr (.inr (k4 t0 t1 t2 t3)))))), (t1, .inr (4, [.ref i1, .int u_r_4.1, .int u_r_4.2])), (i1, .inl (cL, 300, .inr (.inl f1)))] H := hP
    have hD : va_D A [(t0, .inr (4, [.ref i0, .int n0, .int p0])), (i0, .inl (cL, 300, .inr (.inl f0))), (t2, .inr (4, [.ref i2, .int n2, .int p2])), (i2, .inl (cL, 300, .inr (.inl f2))), (t3, .inr (4, [.ref i3, .int n3, .int p3])), (i3, .inl (cL, 300, .inr (.inl f3))), (aU, .inr (6, [.ref bT, .ref aD, .int ch, .int ww])), (bT, .inl (cT, 4, .inr (.inr (.inr (.inr (k4 t0 t1 t2 t3)))))), (t1, .inr (4, [.ref i1, .int u_r_4.1, .int u_r_4.2])), (i1, .inl (cL, 300, .inr (.inl f1)))] := hD
    try dsimp only at wr_4
    refine lv_aload_n hx hb dX6_clearTape_21 rfl (lv_at hl 2 rfl) ?_
    refine va_get (D := D) (ci := 6) (v := .int ch) (C := RX6) (T := TX6) (N := 4) hx hb hts iX6_clearTape_X6 hown hK hP 6 rfl rfl 2 (by decide) (hts (.fieldLink RX6 36 "TapeCalculator$Units" "chosen" "I") (List.mem_of_getElem? (i := 2) rfl)) (fun _ h9 => h9) rfl dX6_clearTape_22 ?_
    refine lv_bipush (v := 9) hx hb dX6_clearTape_25 (by decide) ?_
    refine lv_iload_n hx hb dX6_clearTape_27 rfl (lv_at hl 3 rfl) ?_
    refine lv_iadd hx hb dX6_clearTape_28 ?_
    refine lv_icmp_ne (tgt := 37) hx hb dX6_clearTape_29 (by decide) (fun c_29_4 => ?_) (fun c_29_4 => ?_)
    · have t_29_4 := c_29_4
      try simp only [kb_eq0, kb_ne0, lg_cmp_lt, lg_cmp_le, lg_cmp_gt, lg_cmp_ge, lg_cmp_eq] at t_29_4
      try simp only [Int32.lt_iff_toInt_lt, Int32.le_iff_toInt_le, ← Int32.toInt_inj, Int64.lt_iff_toInt_lt, Int64.le_iff_toInt_le, ← Int64.toInt_inj, Int32.toInt_toInt64, Int32.reduceToInt, Int64.reduceToInt] at t_29_4
      refine lv_iload_n hx hb dX6_clearTape_37 rfl (lv_at hl 0 rfl) ?_
      refine kIret (u := (ch, ww, n0, u_r_4.1, n2, n3, p0, u_r_4.2, p2, p3, f0, f1, f2, f3)) hx hb hr rfl hlocks hS dX6_clearTape_38 ?_ (hP.sub [6, 7, 0, 1, 8, 9, 2, 3, 4, 5] rfl) (hD.sub [6, 7, 0, 1, 8, 9, 2, 3, 4, 5] (by decide) rfl)
      exact trivial
    · have t_29_4 := c_29_4
      try simp only [kb_eq0, kb_ne0, lg_cmp_lt, lg_cmp_le, lg_cmp_gt, lg_cmp_ge, lg_cmp_eq] at t_29_4
      try simp only [Int32.lt_iff_toInt_lt, Int32.le_iff_toInt_le, ← Int32.toInt_inj, Int64.lt_iff_toInt_lt, Int64.le_iff_toInt_le, ← Int64.toInt_inj, Int32.toInt_toInt64, Int32.reduceToInt, Int64.reduceToInt] at t_29_4
      refine lv_aload_n hx hb dX6_clearTape_32 rfl (lv_at hl 2 rfl) ?_
      refine lv_iconst (v := 0) hx hb dX6_clearTape_33 (by decide) ?_
      refine va_put (D := D) (ci := 6) (v := .int 0) (ty := .boolean) (C := RX6) (T := TX6) (N := 4) hx hb hts iX6_clearTape_X6 tyX6 tyX6_ok nmX6 hown hK hP hD hS 6 rfl rfl 3 (by decide) (hts (.fieldLink RX6 39 "TapeCalculator$Units" "wordWritten" "Z") (List.mem_of_getElem? (i := 3) rfl)) (fun _ h9 => h9) rfl (by decide +kernel) rfl rfl (Nat.le_of_ble_eq_true rfl) dX6_clearTape_34 (fun H locs hP hD hS => ?_)
      have hP : va_P D vwCl [(t0, .inr (4, [.ref i0, .int n0, .int p0])), (i0, .inl (cL, 300, .inr (.inl f0))), (t2, .inr (4, [.ref i2, .int n2, .int p2])), (i2, .inl (cL, 300, .inr (.inl f2))), (t3, .inr (4, [.ref i3, .int n3, .int p3])), (i3, .inl (cL, 300, .inr (.inl f3))), (aU, .inr (6, [.ref bT, .ref aD, .int ch, .int 0])), (bT, .inl (cT, 4, .inr (.inr (.inr (.inr (k4 t0 t1 t2 t3)))))), (t1, .inr (4, [.ref i1, .int u_r_4.1, .int u_r_4.2])), (i1, .inl (cL, 300, .inr (.inl f1)))] H := hP
      have hD : va_D A [(t0, .inr (4, [.ref i0, .int n0, .int p0])), (i0, .inl (cL, 300, .inr (.inl f0))), (t2, .inr (4, [.ref i2, .int n2, .int p2])), (i2, .inl (cL, 300, .inr (.inl f2))), (t3, .inr (4, [.ref i3, .int n3, .int p3])), (i3, .inl (cL, 300, .inr (.inl f3))), (aU, .inr (6, [.ref bT, .ref aD, .int ch, .int 0])), (bT, .inl (cT, 4, .inr (.inr (.inr (.inr (k4 t0 t1 t2 t3)))))), (t1, .inr (4, [.ref i1, .int u_r_4.1, .int u_r_4.2])), (i1, .inl (cL, 300, .inr (.inl f1)))] := hD
      refine lv_iload_n hx hb dX6_clearTape_37 rfl (lv_at hl 0 rfl) ?_
      refine kIret (u := (ch, 0, n0, u_r_4.1, n2, n3, p0, u_r_4.2, p2, p3, f0, f1, f2, f3)) hx hb hr rfl hlocks hS dX6_clearTape_38 ?_ (hP.sub [6, 7, 0, 1, 8, 9, 2, 3, 4, 5] rfl) (hD.sub [6, 7, 0, 1, 8, 9, 2, 3, 4, 5] (by decide) rfl)
      exact trivial
  · show W _ _ _ _ _ _ _ _ _ _ _ _ _ _ _ (F0 _ _ _ (Value.ref t2 :: _))
    refine lv_astore_n (lv' := [(2, .ref t2), (0, .ref aU), (1, .int t)]) hx hb dX6_clearTape_5 rfl hl (by decide) rfl (fun ls hl => ?_)
    refine lv_aload_n hx hb dX6_clearTape_6 rfl (lv_at hl 0 rfl) ?_
    refine lv_ifnonnull (tgt := 12) hx hb dX6_clearTape_7 (by decide) ?_
    refine lv_aload_n hx hb dX6_clearTape_12 rfl (lv_at hl 0 rfl) ?_
    refine va_get (D := D) (ci := 4) (v := .int n2) (C := RX4) (T := TX4) (N := 3) hx hb hts iX6_clearTape_X4 hown hK hP 4 rfl rfl 1 (by decide) (hts (.fieldLink RX6 29 "TapeCalculator$Tape" "count" "I") (List.mem_of_getElem? (i := 1) rfl)) (fun _ h9 => h9) rfl dX6_clearTape_13 ?_
    refine lv_istore_n (lv' := [(3, .int n2), (2, .ref t2), (0, .ref aU), (1, .int t)]) hx hb dX6_clearTape_16 rfl hl (by decide) rfl (fun ls hl => ?_)
    refine lv_aload_n hx hb dX6_clearTape_17 rfl (lv_at hl 1 rfl) ?_
    refine kCallVd (wr := [(t0, .inr (4, [.ref i0, .int n0, .int p0])), (i0, .inl (cL, 300, .inr (.inl f0))), (t1, .inr (4, [.ref i1, .int n1, .int p1])), (i1, .inl (cL, 300, .inr (.inl f1))), (t3, .inr (4, [.ref i3, .int n3, .int p3])), (i3, .inl (cL, 300, .inr (.inl f3))), (aU, .inr (6, [.ref bT, .ref aD, .int ch, .int ww])), (bT, .inl (cT, 4, .inr (.inr (.inr (.inr (k4 t0 t1 t2 t3))))))]) (va_runV (As := []) (rest := []) ⟨hx, hb, hml, hown, hts⟩ (g_clear l D cI cL cB cZ cT _ t2 i2 n2 p2 f2) (cwV 0 hts gX6_clearTape_X4_clear rfl rfl rfl (by decide +kernel) ⟨Nat.le_of_ble_eq_true rfl, Nat.le_of_ble_eq_true rfl⟩) (kPreV hG hP hD [4, 5] rfl (by decide) 0 4 rfl rfl rfl) rfl rfl hl.1 rfl (lv_room (Nat.le_of_ble_eq_true rfl)) dX6_clearTape_18 ⟨Nat.le_of_ble_eq_true rfl, Nat.le_of_ble_eq_true rfl⟩) hA hP hD hS [4, 5] [0, 1, 2, 3, 6, 7, 8, 9] rfl rfl (by decide) (by decide) (fun _ u_r_6 H locs wr_6 hP hD hS => ?_)
    have hP : va_P D vwCl [(t0, .inr (4, [.ref i0, .int n0, .int p0])), (i0, .inl (cL, 300, .inr (.inl f0))), (t1, .inr (4, [.ref i1, .int n1, .int p1])), (i1, .inl (cL, 300, .inr (.inl f1))), (t3, .inr (4, [.ref i3, .int n3, .int p3])), (i3, .inl (cL, 300, .inr (.inl f3))), (aU, .inr (6, [.ref bT, .ref aD, .int ch, .int ww])), (bT, .inl (cT, 4, .inr (.inr (.inr (.inr (k4 t0 t1 t2 t3)))))), (t2, .inr (4, [.ref i2, .int u_r_6.1, .int u_r_6.2])), (i2, .inl (cL, 300, .inr (.inl f2)))] H := hP
    have hD : va_D A [(t0, .inr (4, [.ref i0, .int n0, .int p0])), (i0, .inl (cL, 300, .inr (.inl f0))), (t1, .inr (4, [.ref i1, .int n1, .int p1])), (i1, .inl (cL, 300, .inr (.inl f1))), (t3, .inr (4, [.ref i3, .int n3, .int p3])), (i3, .inl (cL, 300, .inr (.inl f3))), (aU, .inr (6, [.ref bT, .ref aD, .int ch, .int ww])), (bT, .inl (cT, 4, .inr (.inr (.inr (.inr (k4 t0 t1 t2 t3)))))), (t2, .inr (4, [.ref i2, .int u_r_6.1, .int u_r_6.2])), (i2, .inl (cL, 300, .inr (.inl f2)))] := hD
    try dsimp only at wr_6
    refine lv_aload_n hx hb dX6_clearTape_21 rfl (lv_at hl 2 rfl) ?_
    refine va_get (D := D) (ci := 6) (v := .int ch) (C := RX6) (T := TX6) (N := 4) hx hb hts iX6_clearTape_X6 hown hK hP 6 rfl rfl 2 (by decide) (hts (.fieldLink RX6 36 "TapeCalculator$Units" "chosen" "I") (List.mem_of_getElem? (i := 2) rfl)) (fun _ h9 => h9) rfl dX6_clearTape_22 ?_
    refine lv_bipush (v := 9) hx hb dX6_clearTape_25 (by decide) ?_
    refine lv_iload_n hx hb dX6_clearTape_27 rfl (lv_at hl 3 rfl) ?_
    refine lv_iadd hx hb dX6_clearTape_28 ?_
    refine lv_icmp_ne (tgt := 37) hx hb dX6_clearTape_29 (by decide) (fun c_29_6 => ?_) (fun c_29_6 => ?_)
    · have t_29_6 := c_29_6
      try simp only [kb_eq0, kb_ne0, lg_cmp_lt, lg_cmp_le, lg_cmp_gt, lg_cmp_ge, lg_cmp_eq] at t_29_6
      try simp only [Int32.lt_iff_toInt_lt, Int32.le_iff_toInt_le, ← Int32.toInt_inj, Int64.lt_iff_toInt_lt, Int64.le_iff_toInt_le, ← Int64.toInt_inj, Int32.toInt_toInt64, Int32.reduceToInt, Int64.reduceToInt] at t_29_6
      refine lv_iload_n hx hb dX6_clearTape_37 rfl (lv_at hl 0 rfl) ?_
      refine kIret (u := (ch, ww, n0, n1, u_r_6.1, n3, p0, p1, u_r_6.2, p3, f0, f1, f2, f3)) hx hb hr rfl hlocks hS dX6_clearTape_38 ?_ (hP.sub [6, 7, 0, 1, 2, 3, 8, 9, 4, 5] rfl) (hD.sub [6, 7, 0, 1, 2, 3, 8, 9, 4, 5] (by decide) rfl)
      exact trivial
    · have t_29_6 := c_29_6
      try simp only [kb_eq0, kb_ne0, lg_cmp_lt, lg_cmp_le, lg_cmp_gt, lg_cmp_ge, lg_cmp_eq] at t_29_6
      try simp only [Int32.lt_iff_toInt_lt, Int32.le_iff_toInt_le, ← Int32.toInt_inj, Int64.lt_iff_toInt_lt, Int64.le_iff_toInt_le, ← Int64.toInt_inj, Int32.toInt_toInt64, Int32.reduceToInt, Int64.reduceToInt] at t_29_6
      refine lv_aload_n hx hb dX6_clearTape_32 rfl (lv_at hl 2 rfl) ?_
      refine lv_iconst (v := 0) hx hb dX6_clearTape_33 (by decide) ?_
      refine va_put (D := D) (ci := 6) (v := .int 0) (ty := .boolean) (C := RX6) (T := TX6) (N := 4) hx hb hts iX6_clearTape_X6 tyX6 tyX6_ok nmX6 hown hK hP hD hS 6 rfl rfl 3 (by decide) (hts (.fieldLink RX6 39 "TapeCalculator$Units" "wordWritten" "Z") (List.mem_of_getElem? (i := 3) rfl)) (fun _ h9 => h9) rfl (by decide +kernel) rfl rfl (Nat.le_of_ble_eq_true rfl) dX6_clearTape_34 (fun H locs hP hD hS => ?_)
      have hP : va_P D vwCl [(t0, .inr (4, [.ref i0, .int n0, .int p0])), (i0, .inl (cL, 300, .inr (.inl f0))), (t1, .inr (4, [.ref i1, .int n1, .int p1])), (i1, .inl (cL, 300, .inr (.inl f1))), (t3, .inr (4, [.ref i3, .int n3, .int p3])), (i3, .inl (cL, 300, .inr (.inl f3))), (aU, .inr (6, [.ref bT, .ref aD, .int ch, .int 0])), (bT, .inl (cT, 4, .inr (.inr (.inr (.inr (k4 t0 t1 t2 t3)))))), (t2, .inr (4, [.ref i2, .int u_r_6.1, .int u_r_6.2])), (i2, .inl (cL, 300, .inr (.inl f2)))] H := hP
      have hD : va_D A [(t0, .inr (4, [.ref i0, .int n0, .int p0])), (i0, .inl (cL, 300, .inr (.inl f0))), (t1, .inr (4, [.ref i1, .int n1, .int p1])), (i1, .inl (cL, 300, .inr (.inl f1))), (t3, .inr (4, [.ref i3, .int n3, .int p3])), (i3, .inl (cL, 300, .inr (.inl f3))), (aU, .inr (6, [.ref bT, .ref aD, .int ch, .int 0])), (bT, .inl (cT, 4, .inr (.inr (.inr (.inr (k4 t0 t1 t2 t3)))))), (t2, .inr (4, [.ref i2, .int u_r_6.1, .int u_r_6.2])), (i2, .inl (cL, 300, .inr (.inl f2)))] := hD
      refine lv_iload_n hx hb dX6_clearTape_37 rfl (lv_at hl 0 rfl) ?_
      refine kIret (u := (ch, 0, n0, n1, u_r_6.1, n3, p0, p1, u_r_6.2, p3, f0, f1, f2, f3)) hx hb hr rfl hlocks hS dX6_clearTape_38 ?_ (hP.sub [6, 7, 0, 1, 2, 3, 8, 9, 4, 5] rfl) (hD.sub [6, 7, 0, 1, 2, 3, 8, 9, 4, 5] (by decide) rfl)
      exact trivial
  · show W _ _ _ _ _ _ _ _ _ _ _ _ _ _ _ (F0 _ _ _ (Value.ref t3 :: _))
    refine lv_astore_n (lv' := [(2, .ref t3), (0, .ref aU), (1, .int t)]) hx hb dX6_clearTape_5 rfl hl (by decide) rfl (fun ls hl => ?_)
    refine lv_aload_n hx hb dX6_clearTape_6 rfl (lv_at hl 0 rfl) ?_
    refine lv_ifnonnull (tgt := 12) hx hb dX6_clearTape_7 (by decide) ?_
    refine lv_aload_n hx hb dX6_clearTape_12 rfl (lv_at hl 0 rfl) ?_
    refine va_get (D := D) (ci := 4) (v := .int n3) (C := RX4) (T := TX4) (N := 3) hx hb hts iX6_clearTape_X4 hown hK hP 6 rfl rfl 1 (by decide) (hts (.fieldLink RX6 29 "TapeCalculator$Tape" "count" "I") (List.mem_of_getElem? (i := 1) rfl)) (fun _ h9 => h9) rfl dX6_clearTape_13 ?_
    refine lv_istore_n (lv' := [(3, .int n3), (2, .ref t3), (0, .ref aU), (1, .int t)]) hx hb dX6_clearTape_16 rfl hl (by decide) rfl (fun ls hl => ?_)
    refine lv_aload_n hx hb dX6_clearTape_17 rfl (lv_at hl 1 rfl) ?_
    refine kCallVd (wr := [(t0, .inr (4, [.ref i0, .int n0, .int p0])), (i0, .inl (cL, 300, .inr (.inl f0))), (t1, .inr (4, [.ref i1, .int n1, .int p1])), (i1, .inl (cL, 300, .inr (.inl f1))), (t2, .inr (4, [.ref i2, .int n2, .int p2])), (i2, .inl (cL, 300, .inr (.inl f2))), (aU, .inr (6, [.ref bT, .ref aD, .int ch, .int ww])), (bT, .inl (cT, 4, .inr (.inr (.inr (.inr (k4 t0 t1 t2 t3))))))]) (va_runV (As := []) (rest := []) ⟨hx, hb, hml, hown, hts⟩ (g_clear l D cI cL cB cZ cT _ t3 i3 n3 p3 f3) (cwV 0 hts gX6_clearTape_X4_clear rfl rfl rfl (by decide +kernel) ⟨Nat.le_of_ble_eq_true rfl, Nat.le_of_ble_eq_true rfl⟩) (kPreV hG hP hD [6, 7] rfl (by decide) 0 4 rfl rfl rfl) rfl rfl hl.1 rfl (lv_room (Nat.le_of_ble_eq_true rfl)) dX6_clearTape_18 ⟨Nat.le_of_ble_eq_true rfl, Nat.le_of_ble_eq_true rfl⟩) hA hP hD hS [6, 7] [0, 1, 2, 3, 4, 5, 8, 9] rfl rfl (by decide) (by decide) (fun _ u_r_8 H locs wr_8 hP hD hS => ?_)
    have hP : va_P D vwCl [(t0, .inr (4, [.ref i0, .int n0, .int p0])), (i0, .inl (cL, 300, .inr (.inl f0))), (t1, .inr (4, [.ref i1, .int n1, .int p1])), (i1, .inl (cL, 300, .inr (.inl f1))), (t2, .inr (4, [.ref i2, .int n2, .int p2])), (i2, .inl (cL, 300, .inr (.inl f2))), (aU, .inr (6, [.ref bT, .ref aD, .int ch, .int ww])), (bT, .inl (cT, 4, .inr (.inr (.inr (.inr (k4 t0 t1 t2 t3)))))), (t3, .inr (4, [.ref i3, .int u_r_8.1, .int u_r_8.2])), (i3, .inl (cL, 300, .inr (.inl f3)))] H := hP
    have hD : va_D A [(t0, .inr (4, [.ref i0, .int n0, .int p0])), (i0, .inl (cL, 300, .inr (.inl f0))), (t1, .inr (4, [.ref i1, .int n1, .int p1])), (i1, .inl (cL, 300, .inr (.inl f1))), (t2, .inr (4, [.ref i2, .int n2, .int p2])), (i2, .inl (cL, 300, .inr (.inl f2))), (aU, .inr (6, [.ref bT, .ref aD, .int ch, .int ww])), (bT, .inl (cT, 4, .inr (.inr (.inr (.inr (k4 t0 t1 t2 t3)))))), (t3, .inr (4, [.ref i3, .int u_r_8.1, .int u_r_8.2])), (i3, .inl (cL, 300, .inr (.inl f3)))] := hD
    try dsimp only at wr_8
    refine lv_aload_n hx hb dX6_clearTape_21 rfl (lv_at hl 2 rfl) ?_
    refine va_get (D := D) (ci := 6) (v := .int ch) (C := RX6) (T := TX6) (N := 4) hx hb hts iX6_clearTape_X6 hown hK hP 6 rfl rfl 2 (by decide) (hts (.fieldLink RX6 36 "TapeCalculator$Units" "chosen" "I") (List.mem_of_getElem? (i := 2) rfl)) (fun _ h9 => h9) rfl dX6_clearTape_22 ?_
    refine lv_bipush (v := 9) hx hb dX6_clearTape_25 (by decide) ?_
    refine lv_iload_n hx hb dX6_clearTape_27 rfl (lv_at hl 3 rfl) ?_
    refine lv_iadd hx hb dX6_clearTape_28 ?_
    refine lv_icmp_ne (tgt := 37) hx hb dX6_clearTape_29 (by decide) (fun c_29_8 => ?_) (fun c_29_8 => ?_)
    · have t_29_8 := c_29_8
      try simp only [kb_eq0, kb_ne0, lg_cmp_lt, lg_cmp_le, lg_cmp_gt, lg_cmp_ge, lg_cmp_eq] at t_29_8
      try simp only [Int32.lt_iff_toInt_lt, Int32.le_iff_toInt_le, ← Int32.toInt_inj, Int64.lt_iff_toInt_lt, Int64.le_iff_toInt_le, ← Int64.toInt_inj, Int32.toInt_toInt64, Int32.reduceToInt, Int64.reduceToInt] at t_29_8
      refine lv_iload_n hx hb dX6_clearTape_37 rfl (lv_at hl 0 rfl) ?_
      refine kIret (u := (ch, ww, n0, n1, n2, u_r_8.1, p0, p1, p2, u_r_8.2, f0, f1, f2, f3)) hx hb hr rfl hlocks hS dX6_clearTape_38 ?_ (hP.sub [6, 7, 0, 1, 2, 3, 4, 5, 8, 9] rfl) (hD.sub [6, 7, 0, 1, 2, 3, 4, 5, 8, 9] (by decide) rfl)
      exact trivial
    · have t_29_8 := c_29_8
      try simp only [kb_eq0, kb_ne0, lg_cmp_lt, lg_cmp_le, lg_cmp_gt, lg_cmp_ge, lg_cmp_eq] at t_29_8
      try simp only [Int32.lt_iff_toInt_lt, Int32.le_iff_toInt_le, ← Int32.toInt_inj, Int64.lt_iff_toInt_lt, Int64.le_iff_toInt_le, ← Int64.toInt_inj, Int32.toInt_toInt64, Int32.reduceToInt, Int64.reduceToInt] at t_29_8
      refine lv_aload_n hx hb dX6_clearTape_32 rfl (lv_at hl 2 rfl) ?_
      refine lv_iconst (v := 0) hx hb dX6_clearTape_33 (by decide) ?_
      refine va_put (D := D) (ci := 6) (v := .int 0) (ty := .boolean) (C := RX6) (T := TX6) (N := 4) hx hb hts iX6_clearTape_X6 tyX6 tyX6_ok nmX6 hown hK hP hD hS 6 rfl rfl 3 (by decide) (hts (.fieldLink RX6 39 "TapeCalculator$Units" "wordWritten" "Z") (List.mem_of_getElem? (i := 3) rfl)) (fun _ h9 => h9) rfl (by decide +kernel) rfl rfl (Nat.le_of_ble_eq_true rfl) dX6_clearTape_34 (fun H locs hP hD hS => ?_)
      have hP : va_P D vwCl [(t0, .inr (4, [.ref i0, .int n0, .int p0])), (i0, .inl (cL, 300, .inr (.inl f0))), (t1, .inr (4, [.ref i1, .int n1, .int p1])), (i1, .inl (cL, 300, .inr (.inl f1))), (t2, .inr (4, [.ref i2, .int n2, .int p2])), (i2, .inl (cL, 300, .inr (.inl f2))), (aU, .inr (6, [.ref bT, .ref aD, .int ch, .int 0])), (bT, .inl (cT, 4, .inr (.inr (.inr (.inr (k4 t0 t1 t2 t3)))))), (t3, .inr (4, [.ref i3, .int u_r_8.1, .int u_r_8.2])), (i3, .inl (cL, 300, .inr (.inl f3)))] H := hP
      have hD : va_D A [(t0, .inr (4, [.ref i0, .int n0, .int p0])), (i0, .inl (cL, 300, .inr (.inl f0))), (t1, .inr (4, [.ref i1, .int n1, .int p1])), (i1, .inl (cL, 300, .inr (.inl f1))), (t2, .inr (4, [.ref i2, .int n2, .int p2])), (i2, .inl (cL, 300, .inr (.inl f2))), (aU, .inr (6, [.ref bT, .ref aD, .int ch, .int 0])), (bT, .inl (cT, 4, .inr (.inr (.inr (.inr (k4 t0 t1 t2 t3)))))), (t3, .inr (4, [.ref i3, .int u_r_8.1, .int u_r_8.2])), (i3, .inl (cL, 300, .inr (.inl f3)))] := hD
      refine lv_iload_n hx hb dX6_clearTape_37 rfl (lv_at hl 0 rfl) ?_
      refine kIret (u := (ch, 0, n0, n1, n2, u_r_8.1, p0, p1, p2, u_r_8.2, f0, f1, f2, f3)) hx hb hr rfl hlocks hS dX6_clearTape_38 ?_ (hP.sub [6, 7, 0, 1, 2, 3, 4, 5, 8, 9] rfl) (hD.sub [6, 7, 0, 1, 2, 3, 4, 5, 8, 9] (by decide) rfl)
      exact trivial
set_option maxRecDepth 100000 in
theorem iX6_isWriting_X6 : ∀ w ∈ wsX60, w ∈ wsX6_isWriting := fun w h => (goodIn_r (big := wsX6_isWriting) wsX60 [12, 13, 14, 15] rfl (by decide +kernel) w h).1
set_option maxRecDepth 100000 in
set_option maxHeartbeats 4000000 in
theorem g_isWriting (l : Launch) (D : va_G) (cI cL cB cZ cT : ClassId) (sz : Nat) (aU bT aD : Nat) (ch ww : Int32) (t0 t1 t2 t3 : Nat) : kM (S := Unit) l yX6_isWriting wsX6_isWriting ({ frames := 2, cells := 0, slots := 0, locals := 41 }) D (kT cI cL cB cZ cT) [.ref aU] [(aU, .inr (6, [.ref bT, .ref aD, .int ch, .int ww])), (bT, .inl (cT, 4, .inr (.inr (.inr (.inr (k4 t0 t1 t2 t3))))))] sz eI (fun r _ => r = 0 ∨ r = 1) (fun _ => [(aU, .inr (6, [.ref bT, .ref aD, .int ch, .int ww])), (bT, .inl (cT, 4, .inr (.inr (.inr (.inr (k4 t0 t1 t2 t3))))))]) 0 0 := by
  refine kStart (cc := cX6_isWriting) (maxL := 1) (ret := (some .boolean)) (own := RX6) (by decide) rfl rfl (Nat.le_of_ble_eq_true rfl) ?_
  intro p e s m args below meth c A ls hx hb hr hml hown hts hlocks hnm hsz hA hG hP hD hS hl
  have hK := hG.1
  have hl : lv_has ls 1 [(0, .ref aU)] := hl
  refine lv_aload_n hx hb dX6_isWriting_0 rfl (lv_at hl 0 rfl) ?_
  refine va_get (D := D) (ci := 6) (v := .int ch) (C := RX6) (T := TX6) (N := 4) hx hb hts iX6_isWriting_X6 hown hK hP 0 rfl rfl 2 (by decide) (hts (.fieldLink RX6 36 "TapeCalculator$Units" "chosen" "I") (List.mem_of_getElem? (i := 1) rfl)) (fun _ h9 => h9) rfl dX6_isWriting_1 ?_
  refine lv_bipush (v := 14) hx hb dX6_isWriting_4 (by decide) ?_
  refine lv_icmp_eq (tgt := 16) hx hb dX6_isWriting_6 (by decide) (fun c_6_0 => ?_) (fun c_6_0 => ?_)
  · have t_6_0 := c_6_0
    try simp only [kb_eq0, kb_ne0, lg_cmp_lt, lg_cmp_le, lg_cmp_gt, lg_cmp_ge, lg_cmp_eq] at t_6_0
    try simp only [Int32.lt_iff_toInt_lt, Int32.le_iff_toInt_le, ← Int32.toInt_inj, Int64.lt_iff_toInt_lt, Int64.le_iff_toInt_le, ← Int64.toInt_inj, Int32.toInt_toInt64, Int32.reduceToInt, Int64.reduceToInt] at t_6_0
    refine lv_iconst (v := 1) hx hb dX6_isWriting_16 (by decide) ?_
    refine lv_goto (tgt := 21) hx hb dX6_isWriting_17 (by decide) ?_
    refine kIret (u := ()) hx hb hr rfl hlocks hS dX6_isWriting_21 ?_ (hP.sub [0, 1] rfl) (hD.sub [0, 1] (by decide) rfl)
    first
      | exact Or.inl rfl
      | exact Or.inr rfl
      | assumption
  · have t_6_0 := c_6_0
    try simp only [kb_eq0, kb_ne0, lg_cmp_lt, lg_cmp_le, lg_cmp_gt, lg_cmp_ge, lg_cmp_eq] at t_6_0
    try simp only [Int32.lt_iff_toInt_lt, Int32.le_iff_toInt_le, ← Int32.toInt_inj, Int64.lt_iff_toInt_lt, Int64.le_iff_toInt_le, ← Int64.toInt_inj, Int32.toInt_toInt64, Int32.reduceToInt, Int64.reduceToInt] at t_6_0
    refine lv_aload_n hx hb dX6_isWriting_9 rfl (lv_at hl 0 rfl) ?_
    refine kCallR (wr := []) (va_runV (As := []) (rest := []) ⟨hx, hb, hml, hown, hts⟩ (g_writtenTape l D cI cL cB cZ cT _ aU bT aD ch ww t0 t1 t2 t3) (cwV 0 hts gX6_isWriting_X6_writtenTape rfl rfl rfl (by decide +kernel) ⟨Nat.le_of_ble_eq_true rfl, Nat.le_of_ble_eq_true rfl⟩) (kPreV hG hP hD [0, 1] rfl (by decide) 0 6 rfl rfl rfl) rfl rfl hl.1 rfl (lv_room (Nat.le_of_ble_eq_true rfl)) dX6_isWriting_10 ⟨Nat.le_of_ble_eq_true rfl, Nat.le_of_ble_eq_true rfl⟩) hA hP hD hS [0, 1] [] rfl rfl (by decide) (by decide) (fun r_2 u_r_2 H locs wr_2 hP hD hS => ?_)
    have hP : va_P D vwCl [(aU, .inr (6, [.ref bT, .ref aD, .int ch, .int ww])), (bT, .inl (cT, 4, .inr (.inr (.inr (.inr (k4 t0 t1 t2 t3))))))] H := hP
    have hD : va_D A [(aU, .inr (6, [.ref bT, .ref aD, .int ch, .int ww])), (bT, .inl (cT, 4, .inr (.inr (.inr (.inr (k4 t0 t1 t2 t3))))))] := hD
    try dsimp only at wr_2
    rcases wr_2 with rfl | rfl | rfl | rfl | rfl
    · show W _ _ _ _ _ _ _ _ _ _ _ _ _ _ _ (F0 _ _ _ (Value.null :: _))
      refine lv_ifnullN (tgt := 20) hx hb dX6_isWriting_13 (by decide) ?_
      refine lv_iconst (v := 0) hx hb dX6_isWriting_20 (by decide) ?_
      refine kIret (u := ()) hx hb hr rfl hlocks hS dX6_isWriting_21 ?_ (hP.sub [0, 1] rfl) (hD.sub [0, 1] (by decide) rfl)
      first
        | exact Or.inl rfl
        | exact Or.inr rfl
        | assumption
    · show W _ _ _ _ _ _ _ _ _ _ _ _ _ _ _ (F0 _ _ _ (Value.ref t0 :: _))
      refine lv_ifnull hx hb dX6_isWriting_13 ?_
      refine lv_iconst (v := 1) hx hb dX6_isWriting_16 (by decide) ?_
      refine lv_goto (tgt := 21) hx hb dX6_isWriting_17 (by decide) ?_
      refine kIret (u := ()) hx hb hr rfl hlocks hS dX6_isWriting_21 ?_ (hP.sub [0, 1] rfl) (hD.sub [0, 1] (by decide) rfl)
      first
        | exact Or.inl rfl
        | exact Or.inr rfl
        | assumption
    · show W _ _ _ _ _ _ _ _ _ _ _ _ _ _ _ (F0 _ _ _ (Value.ref t1 :: _))
      refine lv_ifnull hx hb dX6_isWriting_13 ?_
      refine lv_iconst (v := 1) hx hb dX6_isWriting_16 (by decide) ?_
      refine lv_goto (tgt := 21) hx hb dX6_isWriting_17 (by decide) ?_
      refine kIret (u := ()) hx hb hr rfl hlocks hS dX6_isWriting_21 ?_ (hP.sub [0, 1] rfl) (hD.sub [0, 1] (by decide) rfl)
      first
        | exact Or.inl rfl
        | exact Or.inr rfl
        | assumption
    · show W _ _ _ _ _ _ _ _ _ _ _ _ _ _ _ (F0 _ _ _ (Value.ref t2 :: _))
      refine lv_ifnull hx hb dX6_isWriting_13 ?_
      refine lv_iconst (v := 1) hx hb dX6_isWriting_16 (by decide) ?_
      refine lv_goto (tgt := 21) hx hb dX6_isWriting_17 (by decide) ?_
      refine kIret (u := ()) hx hb hr rfl hlocks hS dX6_isWriting_21 ?_ (hP.sub [0, 1] rfl) (hD.sub [0, 1] (by decide) rfl)
      first
        | exact Or.inl rfl
        | exact Or.inr rfl
        | assumption
    · show W _ _ _ _ _ _ _ _ _ _ _ _ _ _ _ (F0 _ _ _ (Value.ref t3 :: _))
      refine lv_ifnull hx hb dX6_isWriting_13 ?_
      refine lv_iconst (v := 1) hx hb dX6_isWriting_16 (by decide) ?_
      refine lv_goto (tgt := 21) hx hb dX6_isWriting_17 (by decide) ?_
      refine kIret (u := ()) hx hb hr rfl hlocks hS dX6_isWriting_21 ?_ (hP.sub [0, 1] rfl) (hD.sub [0, 1] (by decide) rfl)
      first
        | exact Or.inl rfl
        | exact Or.inr rfl
        | assumption
set_option maxRecDepth 100000 in
theorem iX6_endRecord_X6 : ∀ w ∈ wsX60, w ∈ wsX6_endRecord := fun w h => (goodIn_r (big := wsX6_endRecord) wsX60 [22, 23, 24, 25] rfl (by decide +kernel) w h).1
set_option maxRecDepth 100000 in
set_option maxHeartbeats 4000000 in
theorem g_endRecord (l : Launch) (D : va_G) (cI cL cB cZ cT : ClassId) (sz : Nat) (aU bT aD : Nat) (ch ww : Int32) (t0 t1 t2 t3 : Nat) (i0 i1 i2 i3 : Nat) (n0 n1 n2 n3 p0 p1 p2 p3 : Int32) (f0 f1 f2 f3 : Nat → Int64) : kM (S := (Int32 × Int32 × Int32 × Int32 × Int32 × Int32 × Int32 × Int32 × Int32 × Int32 × (Nat → Int64) × (Nat → Int64) × (Nat → Int64) × (Nat → Int64))) l yX6_endRecord wsX6_endRecord ({ frames := 2, cells := 0, slots := 0, locals := 41 }) D (kT cI cL cB cZ cT) [.ref aU] [(aU, .inr (6, [.ref bT, .ref aD, .int ch, .int ww])), (bT, .inl (cT, 4, .inr (.inr (.inr (.inr (k4 t0 t1 t2 t3)))))), (t0, .inr (4, [.ref i0, .int n0, .int p0])), (i0, .inl (cL, 300, .inr (.inl f0))), (t1, .inr (4, [.ref i1, .int n1, .int p1])), (i1, .inl (cL, 300, .inr (.inl f1))), (t2, .inr (4, [.ref i2, .int n2, .int p2])), (i2, .inl (cL, 300, .inr (.inl f2))), (t3, .inr (4, [.ref i3, .int n3, .int p3])), (i3, .inl (cL, 300, .inr (.inl f3)))] sz eI (fun r _ => r = 0 ∨ r = 1) (fun u => [(aU, .inr (6, [.ref bT, .ref aD, .int u.1, .int u.2.1])), (bT, .inl (cT, 4, .inr (.inr (.inr (.inr (k4 t0 t1 t2 t3)))))), (t0, .inr (4, [.ref i0, .int u.2.2.1, .int u.2.2.2.2.2.2.1])), (i0, .inl (cL, 300, .inr (.inl u.2.2.2.2.2.2.2.2.2.2.1))), (t1, .inr (4, [.ref i1, .int u.2.2.2.1, .int u.2.2.2.2.2.2.2.1])), (i1, .inl (cL, 300, .inr (.inl u.2.2.2.2.2.2.2.2.2.2.2.1))), (t2, .inr (4, [.ref i2, .int u.2.2.2.2.1, .int u.2.2.2.2.2.2.2.2.1])), (i2, .inl (cL, 300, .inr (.inl u.2.2.2.2.2.2.2.2.2.2.2.2.1))), (t3, .inr (4, [.ref i3, .int u.2.2.2.2.2.1, .int u.2.2.2.2.2.2.2.2.2.1])), (i3, .inl (cL, 300, .inr (.inl u.2.2.2.2.2.2.2.2.2.2.2.2.2)))]) 0 0 := by
  refine kStart (cc := cX6_endRecord) (maxL := 3) (ret := (some .boolean)) (own := RX6) (by decide) rfl rfl (Nat.le_of_ble_eq_true rfl) ?_
  intro p e s m args below meth c A ls hx hb hr hml hown hts hlocks hnm hsz hA hG hP hD hS hl
  have hK := hG.1
  have hl : lv_has ls 3 [(0, .ref aU)] := hl
  refine lv_aload_n hx hb dX6_endRecord_0 rfl (lv_at hl 0 rfl) ?_
  refine kCallR (wr := [(t0, .inr (4, [.ref i0, .int n0, .int p0])), (i0, .inl (cL, 300, .inr (.inl f0))), (t1, .inr (4, [.ref i1, .int n1, .int p1])), (i1, .inl (cL, 300, .inr (.inl f1))), (t2, .inr (4, [.ref i2, .int n2, .int p2])), (i2, .inl (cL, 300, .inr (.inl f2))), (t3, .inr (4, [.ref i3, .int n3, .int p3])), (i3, .inl (cL, 300, .inr (.inl f3)))]) (va_runV (As := []) (rest := []) ⟨hx, hb, hml, hown, hts⟩ (g_writtenTape l D cI cL cB cZ cT _ aU bT aD ch ww t0 t1 t2 t3) (cwV 0 hts gX6_endRecord_X6_writtenTape rfl rfl rfl (by decide +kernel) ⟨Nat.le_of_ble_eq_true rfl, Nat.le_of_ble_eq_true rfl⟩) (kPreV hG hP hD [0, 1] rfl (by decide) 0 6 rfl rfl rfl) rfl rfl hl.1 rfl (lv_room (Nat.le_of_ble_eq_true rfl)) dX6_endRecord_1 ⟨Nat.le_of_ble_eq_true rfl, Nat.le_of_ble_eq_true rfl⟩) hA hP hD hS [0, 1] [2, 3, 4, 5, 6, 7, 8, 9] rfl rfl (by decide) (by decide) (fun r_1 u_r_1 H locs wr_1 hP hD hS => ?_)
  have hP : va_P D vwCl [(t0, .inr (4, [.ref i0, .int n0, .int p0])), (i0, .inl (cL, 300, .inr (.inl f0))), (t1, .inr (4, [.ref i1, .int n1, .int p1])), (i1, .inl (cL, 300, .inr (.inl f1))), (t2, .inr (4, [.ref i2, .int n2, .int p2])), (i2, .inl (cL, 300, .inr (.inl f2))), (t3, .inr (4, [.ref i3, .int n3, .int p3])), (i3, .inl (cL, 300, .inr (.inl f3))), (aU, .inr (6, [.ref bT, .ref aD, .int ch, .int ww])), (bT, .inl (cT, 4, .inr (.inr (.inr (.inr (k4 t0 t1 t2 t3))))))] H := hP
  have hD : va_D A [(t0, .inr (4, [.ref i0, .int n0, .int p0])), (i0, .inl (cL, 300, .inr (.inl f0))), (t1, .inr (4, [.ref i1, .int n1, .int p1])), (i1, .inl (cL, 300, .inr (.inl f1))), (t2, .inr (4, [.ref i2, .int n2, .int p2])), (i2, .inl (cL, 300, .inr (.inl f2))), (t3, .inr (4, [.ref i3, .int n3, .int p3])), (i3, .inl (cL, 300, .inr (.inl f3))), (aU, .inr (6, [.ref bT, .ref aD, .int ch, .int ww])), (bT, .inl (cT, 4, .inr (.inr (.inr (.inr (k4 t0 t1 t2 t3))))))] := hD
  try dsimp only at wr_1
  rcases wr_1 with rfl | rfl | rfl | rfl | rfl
  · show W _ _ _ _ _ _ _ _ _ _ _ _ _ _ _ (F0 _ _ _ (Value.null :: _))
    refine lv_astore_nN (lv' := [(1, .null), (0, .ref aU)]) hx hb dX6_endRecord_4 rfl hl (by decide) rfl (fun ls hl => ?_)
    refine lv_aload_n hx hb dX6_endRecord_5 rfl (lv_at hl 1 rfl) ?_
    refine va_get (D := D) (ci := 6) (v := .int ww) (C := RX6) (T := TX6) (N := 4) hx hb hts iX6_endRecord_X6 hown hK hP 8 rfl rfl 3 (by decide) (hts (.fieldLink RX6 39 "TapeCalculator$Units" "wordWritten" "Z") (List.mem_of_getElem? (i := 1) rfl)) (fun _ h9 => h9) rfl dX6_endRecord_6 ?_
    refine lv_istore_n (lv' := [(2, .int ww), (1, .null), (0, .ref aU)]) hx hb dX6_endRecord_9 rfl hl (by decide) rfl (fun ls hl => ?_)
    refine lv_aload_n hx hb dX6_endRecord_10 rfl (lv_at hl 2 rfl) ?_
    refine lv_iconst (v := 0) hx hb dX6_endRecord_11 (by decide) ?_
    refine va_put (D := D) (ci := 6) (v := .int 0) (ty := .boolean) (C := RX6) (T := TX6) (N := 4) hx hb hts iX6_endRecord_X6 tyX6 tyX6_ok nmX6 hown hK hP hD hS 8 rfl rfl 3 (by decide) (hts (.fieldLink RX6 39 "TapeCalculator$Units" "wordWritten" "Z") (List.mem_of_getElem? (i := 1) rfl)) (fun _ h9 => h9) rfl (by decide +kernel) rfl rfl (Nat.le_of_ble_eq_true rfl) dX6_endRecord_12 (fun H locs hP hD hS => ?_)
    have hP : va_P D vwCl [(t0, .inr (4, [.ref i0, .int n0, .int p0])), (i0, .inl (cL, 300, .inr (.inl f0))), (t1, .inr (4, [.ref i1, .int n1, .int p1])), (i1, .inl (cL, 300, .inr (.inl f1))), (t2, .inr (4, [.ref i2, .int n2, .int p2])), (i2, .inl (cL, 300, .inr (.inl f2))), (t3, .inr (4, [.ref i3, .int n3, .int p3])), (i3, .inl (cL, 300, .inr (.inl f3))), (aU, .inr (6, [.ref bT, .ref aD, .int ch, .int 0])), (bT, .inl (cT, 4, .inr (.inr (.inr (.inr (k4 t0 t1 t2 t3))))))] H := hP
    have hD : va_D A [(t0, .inr (4, [.ref i0, .int n0, .int p0])), (i0, .inl (cL, 300, .inr (.inl f0))), (t1, .inr (4, [.ref i1, .int n1, .int p1])), (i1, .inl (cL, 300, .inr (.inl f1))), (t2, .inr (4, [.ref i2, .int n2, .int p2])), (i2, .inl (cL, 300, .inr (.inl f2))), (t3, .inr (4, [.ref i3, .int n3, .int p3])), (i3, .inl (cL, 300, .inr (.inl f3))), (aU, .inr (6, [.ref bT, .ref aD, .int ch, .int 0])), (bT, .inl (cT, 4, .inr (.inr (.inr (.inr (k4 t0 t1 t2 t3))))))] := hD
    refine lv_aload_nN hx hb dX6_endRecord_15 rfl (lv_at hl 1 rfl) ?_
    refine lv_ifnullN (tgt := 33) hx hb dX6_endRecord_16 (by decide) ?_
    refine lv_iconst (v := 1) hx hb dX6_endRecord_33 (by decide) ?_
    refine lv_goto (tgt := 38) hx hb dX6_endRecord_34 (by decide) ?_
    refine kIret (u := (ch, 0, n0, n1, n2, n3, p0, p1, p2, p3, f0, f1, f2, f3)) hx hb hr rfl hlocks hS dX6_endRecord_38 ?_ (hP.sub [8, 9, 0, 1, 2, 3, 4, 5, 6, 7] rfl) (hD.sub [8, 9, 0, 1, 2, 3, 4, 5, 6, 7] (by decide) rfl)
    first
      | exact Or.inl rfl
      | exact Or.inr rfl
      | assumption
  · show W _ _ _ _ _ _ _ _ _ _ _ _ _ _ _ (F0 _ _ _ (Value.ref t0 :: _))
    refine lv_astore_n (lv' := [(1, .ref t0), (0, .ref aU)]) hx hb dX6_endRecord_4 rfl hl (by decide) rfl (fun ls hl => ?_)
    refine lv_aload_n hx hb dX6_endRecord_5 rfl (lv_at hl 1 rfl) ?_
    refine va_get (D := D) (ci := 6) (v := .int ww) (C := RX6) (T := TX6) (N := 4) hx hb hts iX6_endRecord_X6 hown hK hP 8 rfl rfl 3 (by decide) (hts (.fieldLink RX6 39 "TapeCalculator$Units" "wordWritten" "Z") (List.mem_of_getElem? (i := 1) rfl)) (fun _ h9 => h9) rfl dX6_endRecord_6 ?_
    refine lv_istore_n (lv' := [(2, .int ww), (1, .ref t0), (0, .ref aU)]) hx hb dX6_endRecord_9 rfl hl (by decide) rfl (fun ls hl => ?_)
    refine lv_aload_n hx hb dX6_endRecord_10 rfl (lv_at hl 2 rfl) ?_
    refine lv_iconst (v := 0) hx hb dX6_endRecord_11 (by decide) ?_
    refine va_put (D := D) (ci := 6) (v := .int 0) (ty := .boolean) (C := RX6) (T := TX6) (N := 4) hx hb hts iX6_endRecord_X6 tyX6 tyX6_ok nmX6 hown hK hP hD hS 8 rfl rfl 3 (by decide) (hts (.fieldLink RX6 39 "TapeCalculator$Units" "wordWritten" "Z") (List.mem_of_getElem? (i := 1) rfl)) (fun _ h9 => h9) rfl (by decide +kernel) rfl rfl (Nat.le_of_ble_eq_true rfl) dX6_endRecord_12 (fun H locs hP hD hS => ?_)
    have hP : va_P D vwCl [(t0, .inr (4, [.ref i0, .int n0, .int p0])), (i0, .inl (cL, 300, .inr (.inl f0))), (t1, .inr (4, [.ref i1, .int n1, .int p1])), (i1, .inl (cL, 300, .inr (.inl f1))), (t2, .inr (4, [.ref i2, .int n2, .int p2])), (i2, .inl (cL, 300, .inr (.inl f2))), (t3, .inr (4, [.ref i3, .int n3, .int p3])), (i3, .inl (cL, 300, .inr (.inl f3))), (aU, .inr (6, [.ref bT, .ref aD, .int ch, .int 0])), (bT, .inl (cT, 4, .inr (.inr (.inr (.inr (k4 t0 t1 t2 t3))))))] H := hP
    have hD : va_D A [(t0, .inr (4, [.ref i0, .int n0, .int p0])), (i0, .inl (cL, 300, .inr (.inl f0))), (t1, .inr (4, [.ref i1, .int n1, .int p1])), (i1, .inl (cL, 300, .inr (.inl f1))), (t2, .inr (4, [.ref i2, .int n2, .int p2])), (i2, .inl (cL, 300, .inr (.inl f2))), (t3, .inr (4, [.ref i3, .int n3, .int p3])), (i3, .inl (cL, 300, .inr (.inl f3))), (aU, .inr (6, [.ref bT, .ref aD, .int ch, .int 0])), (bT, .inl (cT, 4, .inr (.inr (.inr (.inr (k4 t0 t1 t2 t3))))))] := hD
    refine lv_aload_n hx hb dX6_endRecord_15 rfl (lv_at hl 1 rfl) ?_
    refine lv_ifnull hx hb dX6_endRecord_16 ?_
    refine lv_iload_n hx hb dX6_endRecord_19 rfl (lv_at hl 0 rfl) ?_
    refine lv_if_eq (tgt := 33) hx hb dX6_endRecord_20 (by decide) (fun c_20_1 => ?_) (fun c_20_1 => ?_)
    · have t_20_1 := c_20_1
      try simp only [kb_eq0, kb_ne0, lg_cmp_lt, lg_cmp_le, lg_cmp_gt, lg_cmp_ge, lg_cmp_eq] at t_20_1
      try simp only [Int32.lt_iff_toInt_lt, Int32.le_iff_toInt_le, ← Int32.toInt_inj, Int64.lt_iff_toInt_lt, Int64.le_iff_toInt_le, ← Int64.toInt_inj, Int32.toInt_toInt64, Int32.reduceToInt, Int64.reduceToInt] at t_20_1
      refine lv_iconst (v := 1) hx hb dX6_endRecord_33 (by decide) ?_
      refine lv_goto (tgt := 38) hx hb dX6_endRecord_34 (by decide) ?_
      refine kIret (u := (ch, 0, n0, n1, n2, n3, p0, p1, p2, p3, f0, f1, f2, f3)) hx hb hr rfl hlocks hS dX6_endRecord_38 ?_ (hP.sub [8, 9, 0, 1, 2, 3, 4, 5, 6, 7] rfl) (hD.sub [8, 9, 0, 1, 2, 3, 4, 5, 6, 7] (by decide) rfl)
      first
        | exact Or.inl rfl
        | exact Or.inr rfl
        | assumption
    · have t_20_1 := c_20_1
      try simp only [kb_eq0, kb_ne0, lg_cmp_lt, lg_cmp_le, lg_cmp_gt, lg_cmp_ge, lg_cmp_eq] at t_20_1
      try simp only [Int32.lt_iff_toInt_lt, Int32.le_iff_toInt_le, ← Int32.toInt_inj, Int64.lt_iff_toInt_lt, Int64.le_iff_toInt_le, ← Int64.toInt_inj, Int32.toInt_toInt64, Int32.reduceToInt, Int64.reduceToInt] at t_20_1
      refine lv_aload_n hx hb dX6_endRecord_23 rfl (lv_at hl 1 rfl) ?_
      refine lv_ldc2 (v := (-2)) hx hb hown (hts (.constantLong RX6 67 (-2)) (List.mem_of_getElem? (i := 2) rfl)) dX6_endRecord_24 ?_
      refine kCallI (wr := [(t1, .inr (4, [.ref i1, .int n1, .int p1])), (i1, .inl (cL, 300, .inr (.inl f1))), (t2, .inr (4, [.ref i2, .int n2, .int p2])), (i2, .inl (cL, 300, .inr (.inl f2))), (t3, .inr (4, [.ref i3, .int n3, .int p3])), (i3, .inl (cL, 300, .inr (.inl f3))), (aU, .inr (6, [.ref bT, .ref aD, .int ch, .int 0])), (bT, .inl (cT, 4, .inr (.inr (.inr (.inr (k4 t0 t1 t2 t3))))))]) (va_runV (As := [.long (-2)]) (rest := []) ⟨hx, hb, hml, hown, hts⟩ (g_putHere l D cI cL cB cZ cT _ t0 i0 n0 p0 f0 (-2)) (cwV 1 hts gX6_endRecord_X4_putHere rfl rfl rfl (by decide +kernel) ⟨Nat.le_of_ble_eq_true rfl, Nat.le_of_ble_eq_true rfl⟩) (kPreV hG hP hD [0, 1] rfl (by decide) 0 4 rfl rfl rfl) rfl rfl hl.1 rfl (lv_room (Nat.le_of_ble_eq_true rfl)) dX6_endRecord_27 ⟨Nat.le_of_ble_eq_true rfl, Nat.le_of_ble_eq_true rfl⟩) hA hP hD hS [0, 1] [2, 3, 4, 5, 6, 7, 8, 9] rfl rfl (by decide) (by decide) (fun r_3 u_r_3 H locs wr_3 hP hD hS => ?_)
      have hP : va_P D vwCl [(t1, .inr (4, [.ref i1, .int n1, .int p1])), (i1, .inl (cL, 300, .inr (.inl f1))), (t2, .inr (4, [.ref i2, .int n2, .int p2])), (i2, .inl (cL, 300, .inr (.inl f2))), (t3, .inr (4, [.ref i3, .int n3, .int p3])), (i3, .inl (cL, 300, .inr (.inl f3))), (aU, .inr (6, [.ref bT, .ref aD, .int ch, .int 0])), (bT, .inl (cT, 4, .inr (.inr (.inr (.inr (k4 t0 t1 t2 t3)))))), (t0, .inr (4, [.ref i0, .int u_r_3.1, .int u_r_3.2.1])), (i0, .inl (cL, 300, .inr (.inl u_r_3.2.2)))] H := hP
      have hD : va_D A [(t1, .inr (4, [.ref i1, .int n1, .int p1])), (i1, .inl (cL, 300, .inr (.inl f1))), (t2, .inr (4, [.ref i2, .int n2, .int p2])), (i2, .inl (cL, 300, .inr (.inl f2))), (t3, .inr (4, [.ref i3, .int n3, .int p3])), (i3, .inl (cL, 300, .inr (.inl f3))), (aU, .inr (6, [.ref bT, .ref aD, .int ch, .int 0])), (bT, .inl (cT, 4, .inr (.inr (.inr (.inr (k4 t0 t1 t2 t3)))))), (t0, .inr (4, [.ref i0, .int u_r_3.1, .int u_r_3.2.1])), (i0, .inl (cL, 300, .inr (.inl u_r_3.2.2)))] := hD
      try dsimp only at wr_3
      refine lv_if_eq (tgt := 37) hx hb dX6_endRecord_30 (by decide) (fun c_30_3 => ?_) (fun c_30_3 => ?_)
      · have t_30_3 := c_30_3
        try simp only [kb_eq0, kb_ne0, lg_cmp_lt, lg_cmp_le, lg_cmp_gt, lg_cmp_ge, lg_cmp_eq] at t_30_3
        try simp only [Int32.lt_iff_toInt_lt, Int32.le_iff_toInt_le, ← Int32.toInt_inj, Int64.lt_iff_toInt_lt, Int64.le_iff_toInt_le, ← Int64.toInt_inj, Int32.toInt_toInt64, Int32.reduceToInt, Int64.reduceToInt] at t_30_3
        refine lv_iconst (v := 0) hx hb dX6_endRecord_37 (by decide) ?_
        refine kIret (u := (ch, 0, u_r_3.1, n1, n2, n3, u_r_3.2.1, p1, p2, p3, u_r_3.2.2, f1, f2, f3)) hx hb hr rfl hlocks hS dX6_endRecord_38 ?_ (hP.sub [6, 7, 8, 9, 0, 1, 2, 3, 4, 5] rfl) (hD.sub [6, 7, 8, 9, 0, 1, 2, 3, 4, 5] (by decide) rfl)
        first
          | exact Or.inl rfl
          | exact Or.inr rfl
          | assumption
      · have t_30_3 := c_30_3
        try simp only [kb_eq0, kb_ne0, lg_cmp_lt, lg_cmp_le, lg_cmp_gt, lg_cmp_ge, lg_cmp_eq] at t_30_3
        try simp only [Int32.lt_iff_toInt_lt, Int32.le_iff_toInt_le, ← Int32.toInt_inj, Int64.lt_iff_toInt_lt, Int64.le_iff_toInt_le, ← Int64.toInt_inj, Int32.toInt_toInt64, Int32.reduceToInt, Int64.reduceToInt] at t_30_3
        refine lv_iconst (v := 1) hx hb dX6_endRecord_33 (by decide) ?_
        refine lv_goto (tgt := 38) hx hb dX6_endRecord_34 (by decide) ?_
        refine kIret (u := (ch, 0, u_r_3.1, n1, n2, n3, u_r_3.2.1, p1, p2, p3, u_r_3.2.2, f1, f2, f3)) hx hb hr rfl hlocks hS dX6_endRecord_38 ?_ (hP.sub [6, 7, 8, 9, 0, 1, 2, 3, 4, 5] rfl) (hD.sub [6, 7, 8, 9, 0, 1, 2, 3, 4, 5] (by decide) rfl)
        first
          | exact Or.inl rfl
          | exact Or.inr rfl
          | assumption
  · show W _ _ _ _ _ _ _ _ _ _ _ _ _ _ _ (F0 _ _ _ (Value.ref t1 :: _))
    refine lv_astore_n (lv' := [(1, .ref t1), (0, .ref aU)]) hx hb dX6_endRecord_4 rfl hl (by decide) rfl (fun ls hl => ?_)
    refine lv_aload_n hx hb dX6_endRecord_5 rfl (lv_at hl 1 rfl) ?_
    refine va_get (D := D) (ci := 6) (v := .int ww) (C := RX6) (T := TX6) (N := 4) hx hb hts iX6_endRecord_X6 hown hK hP 8 rfl rfl 3 (by decide) (hts (.fieldLink RX6 39 "TapeCalculator$Units" "wordWritten" "Z") (List.mem_of_getElem? (i := 1) rfl)) (fun _ h9 => h9) rfl dX6_endRecord_6 ?_
    refine lv_istore_n (lv' := [(2, .int ww), (1, .ref t1), (0, .ref aU)]) hx hb dX6_endRecord_9 rfl hl (by decide) rfl (fun ls hl => ?_)
    refine lv_aload_n hx hb dX6_endRecord_10 rfl (lv_at hl 2 rfl) ?_
    refine lv_iconst (v := 0) hx hb dX6_endRecord_11 (by decide) ?_
    refine va_put (D := D) (ci := 6) (v := .int 0) (ty := .boolean) (C := RX6) (T := TX6) (N := 4) hx hb hts iX6_endRecord_X6 tyX6 tyX6_ok nmX6 hown hK hP hD hS 8 rfl rfl 3 (by decide) (hts (.fieldLink RX6 39 "TapeCalculator$Units" "wordWritten" "Z") (List.mem_of_getElem? (i := 1) rfl)) (fun _ h9 => h9) rfl (by decide +kernel) rfl rfl (Nat.le_of_ble_eq_true rfl) dX6_endRecord_12 (fun H locs hP hD hS => ?_)
    have hP : va_P D vwCl [(t0, .inr (4, [.ref i0, .int n0, .int p0])), (i0, .inl (cL, 300, .inr (.inl f0))), (t1, .inr (4, [.ref i1, .int n1, .int p1])), (i1, .inl (cL, 300, .inr (.inl f1))), (t2, .inr (4, [.ref i2, .int n2, .int p2])), (i2, .inl (cL, 300, .inr (.inl f2))), (t3, .inr (4, [.ref i3, .int n3, .int p3])), (i3, .inl (cL, 300, .inr (.inl f3))), (aU, .inr (6, [.ref bT, .ref aD, .int ch, .int 0])), (bT, .inl (cT, 4, .inr (.inr (.inr (.inr (k4 t0 t1 t2 t3))))))] H := hP
    have hD : va_D A [(t0, .inr (4, [.ref i0, .int n0, .int p0])), (i0, .inl (cL, 300, .inr (.inl f0))), (t1, .inr (4, [.ref i1, .int n1, .int p1])), (i1, .inl (cL, 300, .inr (.inl f1))), (t2, .inr (4, [.ref i2, .int n2, .int p2])), (i2, .inl (cL, 300, .inr (.inl f2))), (t3, .inr (4, [.ref i3, .int n3, .int p3])), (i3, .inl (cL, 300, .inr (.inl f3))), (aU, .inr (6, [.ref bT, .ref aD, .int ch, .int 0])), (bT, .inl (cT, 4, .inr (.inr (.inr (.inr (k4 t0 t1 t2 t3))))))] := hD
    refine lv_aload_n hx hb dX6_endRecord_15 rfl (lv_at hl 1 rfl) ?_
    refine lv_ifnull hx hb dX6_endRecord_16 ?_
    refine lv_iload_n hx hb dX6_endRecord_19 rfl (lv_at hl 0 rfl) ?_
    refine lv_if_eq (tgt := 33) hx hb dX6_endRecord_20 (by decide) (fun c_20_4 => ?_) (fun c_20_4 => ?_)
    · have t_20_4 := c_20_4
      try simp only [kb_eq0, kb_ne0, lg_cmp_lt, lg_cmp_le, lg_cmp_gt, lg_cmp_ge, lg_cmp_eq] at t_20_4
      try simp only [Int32.lt_iff_toInt_lt, Int32.le_iff_toInt_le, ← Int32.toInt_inj, Int64.lt_iff_toInt_lt, Int64.le_iff_toInt_le, ← Int64.toInt_inj, Int32.toInt_toInt64, Int32.reduceToInt, Int64.reduceToInt] at t_20_4
      refine lv_iconst (v := 1) hx hb dX6_endRecord_33 (by decide) ?_
      refine lv_goto (tgt := 38) hx hb dX6_endRecord_34 (by decide) ?_
      refine kIret (u := (ch, 0, n0, n1, n2, n3, p0, p1, p2, p3, f0, f1, f2, f3)) hx hb hr rfl hlocks hS dX6_endRecord_38 ?_ (hP.sub [8, 9, 0, 1, 2, 3, 4, 5, 6, 7] rfl) (hD.sub [8, 9, 0, 1, 2, 3, 4, 5, 6, 7] (by decide) rfl)
      first
        | exact Or.inl rfl
        | exact Or.inr rfl
        | assumption
    · have t_20_4 := c_20_4
      try simp only [kb_eq0, kb_ne0, lg_cmp_lt, lg_cmp_le, lg_cmp_gt, lg_cmp_ge, lg_cmp_eq] at t_20_4
      try simp only [Int32.lt_iff_toInt_lt, Int32.le_iff_toInt_le, ← Int32.toInt_inj, Int64.lt_iff_toInt_lt, Int64.le_iff_toInt_le, ← Int64.toInt_inj, Int32.toInt_toInt64, Int32.reduceToInt, Int64.reduceToInt] at t_20_4
      refine lv_aload_n hx hb dX6_endRecord_23 rfl (lv_at hl 1 rfl) ?_
      refine lv_ldc2 (v := (-2)) hx hb hown (hts (.constantLong RX6 67 (-2)) (List.mem_of_getElem? (i := 2) rfl)) dX6_endRecord_24 ?_
      refine kCallI (wr := [(t0, .inr (4, [.ref i0, .int n0, .int p0])), (i0, .inl (cL, 300, .inr (.inl f0))), (t2, .inr (4, [.ref i2, .int n2, .int p2])), (i2, .inl (cL, 300, .inr (.inl f2))), (t3, .inr (4, [.ref i3, .int n3, .int p3])), (i3, .inl (cL, 300, .inr (.inl f3))), (aU, .inr (6, [.ref bT, .ref aD, .int ch, .int 0])), (bT, .inl (cT, 4, .inr (.inr (.inr (.inr (k4 t0 t1 t2 t3))))))]) (va_runV (As := [.long (-2)]) (rest := []) ⟨hx, hb, hml, hown, hts⟩ (g_putHere l D cI cL cB cZ cT _ t1 i1 n1 p1 f1 (-2)) (cwV 1 hts gX6_endRecord_X4_putHere rfl rfl rfl (by decide +kernel) ⟨Nat.le_of_ble_eq_true rfl, Nat.le_of_ble_eq_true rfl⟩) (kPreV hG hP hD [2, 3] rfl (by decide) 0 4 rfl rfl rfl) rfl rfl hl.1 rfl (lv_room (Nat.le_of_ble_eq_true rfl)) dX6_endRecord_27 ⟨Nat.le_of_ble_eq_true rfl, Nat.le_of_ble_eq_true rfl⟩) hA hP hD hS [2, 3] [0, 1, 4, 5, 6, 7, 8, 9] rfl rfl (by decide) (by decide) (fun r_6 u_r_6 H locs wr_6 hP hD hS => ?_)
      have hP : va_P D vwCl [(t0, .inr (4, [.ref i0, .int n0, .int p0])), (i0, .inl (cL, 300, .inr (.inl f0))), (t2, .inr (4, [.ref i2, .int n2, .int p2])), (i2, .inl (cL, 300, .inr (.inl f2))), (t3, .inr (4, [.ref i3, .int n3, .int p3])), (i3, .inl (cL, 300, .inr (.inl f3))), (aU, .inr (6, [.ref bT, .ref aD, .int ch, .int 0])), (bT, .inl (cT, 4, .inr (.inr (.inr (.inr (k4 t0 t1 t2 t3)))))), (t1, .inr (4, [.ref i1, .int u_r_6.1, .int u_r_6.2.1])), (i1, .inl (cL, 300, .inr (.inl u_r_6.2.2)))] H := hP
      have hD : va_D A [(t0, .inr (4, [.ref i0, .int n0, .int p0])), (i0, .inl (cL, 300, .inr (.inl f0))), (t2, .inr (4, [.ref i2, .int n2, .int p2])), (i2, .inl (cL, 300, .inr (.inl f2))), (t3, .inr (4, [.ref i3, .int n3, .int p3])), (i3, .inl (cL, 300, .inr (.inl f3))), (aU, .inr (6, [.ref bT, .ref aD, .int ch, .int 0])), (bT, .inl (cT, 4, .inr (.inr (.inr (.inr (k4 t0 t1 t2 t3)))))), (t1, .inr (4, [.ref i1, .int u_r_6.1, .int u_r_6.2.1])), (i1, .inl (cL, 300, .inr (.inl u_r_6.2.2)))] := hD
      try dsimp only at wr_6
      refine lv_if_eq (tgt := 37) hx hb dX6_endRecord_30 (by decide) (fun c_30_6 => ?_) (fun c_30_6 => ?_)
      · have t_30_6 := c_30_6
        try simp only [kb_eq0, kb_ne0, lg_cmp_lt, lg_cmp_le, lg_cmp_gt, lg_cmp_ge, lg_cmp_eq] at t_30_6
        try simp only [Int32.lt_iff_toInt_lt, Int32.le_iff_toInt_le, ← Int32.toInt_inj, Int64.lt_iff_toInt_lt, Int64.le_iff_toInt_le, ← Int64.toInt_inj, Int32.toInt_toInt64, Int32.reduceToInt, Int64.reduceToInt] at t_30_6
        refine lv_iconst (v := 0) hx hb dX6_endRecord_37 (by decide) ?_
        refine kIret (u := (ch, 0, n0, u_r_6.1, n2, n3, p0, u_r_6.2.1, p2, p3, f0, u_r_6.2.2, f2, f3)) hx hb hr rfl hlocks hS dX6_endRecord_38 ?_ (hP.sub [6, 7, 0, 1, 8, 9, 2, 3, 4, 5] rfl) (hD.sub [6, 7, 0, 1, 8, 9, 2, 3, 4, 5] (by decide) rfl)
        first
          | exact Or.inl rfl
          | exact Or.inr rfl
          | assumption
      · have t_30_6 := c_30_6
        try simp only [kb_eq0, kb_ne0, lg_cmp_lt, lg_cmp_le, lg_cmp_gt, lg_cmp_ge, lg_cmp_eq] at t_30_6
        try simp only [Int32.lt_iff_toInt_lt, Int32.le_iff_toInt_le, ← Int32.toInt_inj, Int64.lt_iff_toInt_lt, Int64.le_iff_toInt_le, ← Int64.toInt_inj, Int32.toInt_toInt64, Int32.reduceToInt, Int64.reduceToInt] at t_30_6
        refine lv_iconst (v := 1) hx hb dX6_endRecord_33 (by decide) ?_
        refine lv_goto (tgt := 38) hx hb dX6_endRecord_34 (by decide) ?_
        refine kIret (u := (ch, 0, n0, u_r_6.1, n2, n3, p0, u_r_6.2.1, p2, p3, f0, u_r_6.2.2, f2, f3)) hx hb hr rfl hlocks hS dX6_endRecord_38 ?_ (hP.sub [6, 7, 0, 1, 8, 9, 2, 3, 4, 5] rfl) (hD.sub [6, 7, 0, 1, 8, 9, 2, 3, 4, 5] (by decide) rfl)
        first
          | exact Or.inl rfl
          | exact Or.inr rfl
          | assumption
  · show W _ _ _ _ _ _ _ _ _ _ _ _ _ _ _ (F0 _ _ _ (Value.ref t2 :: _))
    refine lv_astore_n (lv' := [(1, .ref t2), (0, .ref aU)]) hx hb dX6_endRecord_4 rfl hl (by decide) rfl (fun ls hl => ?_)
    refine lv_aload_n hx hb dX6_endRecord_5 rfl (lv_at hl 1 rfl) ?_
    refine va_get (D := D) (ci := 6) (v := .int ww) (C := RX6) (T := TX6) (N := 4) hx hb hts iX6_endRecord_X6 hown hK hP 8 rfl rfl 3 (by decide) (hts (.fieldLink RX6 39 "TapeCalculator$Units" "wordWritten" "Z") (List.mem_of_getElem? (i := 1) rfl)) (fun _ h9 => h9) rfl dX6_endRecord_6 ?_
    refine lv_istore_n (lv' := [(2, .int ww), (1, .ref t2), (0, .ref aU)]) hx hb dX6_endRecord_9 rfl hl (by decide) rfl (fun ls hl => ?_)
    refine lv_aload_n hx hb dX6_endRecord_10 rfl (lv_at hl 2 rfl) ?_
    refine lv_iconst (v := 0) hx hb dX6_endRecord_11 (by decide) ?_
    refine va_put (D := D) (ci := 6) (v := .int 0) (ty := .boolean) (C := RX6) (T := TX6) (N := 4) hx hb hts iX6_endRecord_X6 tyX6 tyX6_ok nmX6 hown hK hP hD hS 8 rfl rfl 3 (by decide) (hts (.fieldLink RX6 39 "TapeCalculator$Units" "wordWritten" "Z") (List.mem_of_getElem? (i := 1) rfl)) (fun _ h9 => h9) rfl (by decide +kernel) rfl rfl (Nat.le_of_ble_eq_true rfl) dX6_endRecord_12 (fun H locs hP hD hS => ?_)
    have hP : va_P D vwCl [(t0, .inr (4, [.ref i0, .int n0, .int p0])), (i0, .inl (cL, 300, .inr (.inl f0))), (t1, .inr (4, [.ref i1, .int n1, .int p1])), (i1, .inl (cL, 300, .inr (.inl f1))), (t2, .inr (4, [.ref i2, .int n2, .int p2])), (i2, .inl (cL, 300, .inr (.inl f2))), (t3, .inr (4, [.ref i3, .int n3, .int p3])), (i3, .inl (cL, 300, .inr (.inl f3))), (aU, .inr (6, [.ref bT, .ref aD, .int ch, .int 0])), (bT, .inl (cT, 4, .inr (.inr (.inr (.inr (k4 t0 t1 t2 t3))))))] H := hP
    have hD : va_D A [(t0, .inr (4, [.ref i0, .int n0, .int p0])), (i0, .inl (cL, 300, .inr (.inl f0))), (t1, .inr (4, [.ref i1, .int n1, .int p1])), (i1, .inl (cL, 300, .inr (.inl f1))), (t2, .inr (4, [.ref i2, .int n2, .int p2])), (i2, .inl (cL, 300, .inr (.inl f2))), (t3, .inr (4, [.ref i3, .int n3, .int p3])), (i3, .inl (cL, 300, .inr (.inl f3))), (aU, .inr (6, [.ref bT, .ref aD, .int ch, .int 0])), (bT, .inl (cT, 4, .inr (.inr (.inr (.inr (k4 t0 t1 t2 t3))))))] := hD
    refine lv_aload_n hx hb dX6_endRecord_15 rfl (lv_at hl 1 rfl) ?_
    refine lv_ifnull hx hb dX6_endRecord_16 ?_
    refine lv_iload_n hx hb dX6_endRecord_19 rfl (lv_at hl 0 rfl) ?_
    refine lv_if_eq (tgt := 33) hx hb dX6_endRecord_20 (by decide) (fun c_20_7 => ?_) (fun c_20_7 => ?_)
    · have t_20_7 := c_20_7
      try simp only [kb_eq0, kb_ne0, lg_cmp_lt, lg_cmp_le, lg_cmp_gt, lg_cmp_ge, lg_cmp_eq] at t_20_7
      try simp only [Int32.lt_iff_toInt_lt, Int32.le_iff_toInt_le, ← Int32.toInt_inj, Int64.lt_iff_toInt_lt, Int64.le_iff_toInt_le, ← Int64.toInt_inj, Int32.toInt_toInt64, Int32.reduceToInt, Int64.reduceToInt] at t_20_7
      refine lv_iconst (v := 1) hx hb dX6_endRecord_33 (by decide) ?_
      refine lv_goto (tgt := 38) hx hb dX6_endRecord_34 (by decide) ?_
      refine kIret (u := (ch, 0, n0, n1, n2, n3, p0, p1, p2, p3, f0, f1, f2, f3)) hx hb hr rfl hlocks hS dX6_endRecord_38 ?_ (hP.sub [8, 9, 0, 1, 2, 3, 4, 5, 6, 7] rfl) (hD.sub [8, 9, 0, 1, 2, 3, 4, 5, 6, 7] (by decide) rfl)
      first
        | exact Or.inl rfl
        | exact Or.inr rfl
        | assumption
    · have t_20_7 := c_20_7
      try simp only [kb_eq0, kb_ne0, lg_cmp_lt, lg_cmp_le, lg_cmp_gt, lg_cmp_ge, lg_cmp_eq] at t_20_7
      try simp only [Int32.lt_iff_toInt_lt, Int32.le_iff_toInt_le, ← Int32.toInt_inj, Int64.lt_iff_toInt_lt, Int64.le_iff_toInt_le, ← Int64.toInt_inj, Int32.toInt_toInt64, Int32.reduceToInt, Int64.reduceToInt] at t_20_7
      refine lv_aload_n hx hb dX6_endRecord_23 rfl (lv_at hl 1 rfl) ?_
      refine lv_ldc2 (v := (-2)) hx hb hown (hts (.constantLong RX6 67 (-2)) (List.mem_of_getElem? (i := 2) rfl)) dX6_endRecord_24 ?_
      refine kCallI (wr := [(t0, .inr (4, [.ref i0, .int n0, .int p0])), (i0, .inl (cL, 300, .inr (.inl f0))), (t1, .inr (4, [.ref i1, .int n1, .int p1])), (i1, .inl (cL, 300, .inr (.inl f1))), (t3, .inr (4, [.ref i3, .int n3, .int p3])), (i3, .inl (cL, 300, .inr (.inl f3))), (aU, .inr (6, [.ref bT, .ref aD, .int ch, .int 0])), (bT, .inl (cT, 4, .inr (.inr (.inr (.inr (k4 t0 t1 t2 t3))))))]) (va_runV (As := [.long (-2)]) (rest := []) ⟨hx, hb, hml, hown, hts⟩ (g_putHere l D cI cL cB cZ cT _ t2 i2 n2 p2 f2 (-2)) (cwV 1 hts gX6_endRecord_X4_putHere rfl rfl rfl (by decide +kernel) ⟨Nat.le_of_ble_eq_true rfl, Nat.le_of_ble_eq_true rfl⟩) (kPreV hG hP hD [4, 5] rfl (by decide) 0 4 rfl rfl rfl) rfl rfl hl.1 rfl (lv_room (Nat.le_of_ble_eq_true rfl)) dX6_endRecord_27 ⟨Nat.le_of_ble_eq_true rfl, Nat.le_of_ble_eq_true rfl⟩) hA hP hD hS [4, 5] [0, 1, 2, 3, 6, 7, 8, 9] rfl rfl (by decide) (by decide) (fun r_9 u_r_9 H locs wr_9 hP hD hS => ?_)
      have hP : va_P D vwCl [(t0, .inr (4, [.ref i0, .int n0, .int p0])), (i0, .inl (cL, 300, .inr (.inl f0))), (t1, .inr (4, [.ref i1, .int n1, .int p1])), (i1, .inl (cL, 300, .inr (.inl f1))), (t3, .inr (4, [.ref i3, .int n3, .int p3])), (i3, .inl (cL, 300, .inr (.inl f3))), (aU, .inr (6, [.ref bT, .ref aD, .int ch, .int 0])), (bT, .inl (cT, 4, .inr (.inr (.inr (.inr (k4 t0 t1 t2 t3)))))), (t2, .inr (4, [.ref i2, .int u_r_9.1, .int u_r_9.2.1])), (i2, .inl (cL, 300, .inr (.inl u_r_9.2.2)))] H := hP
      have hD : va_D A [(t0, .inr (4, [.ref i0, .int n0, .int p0])), (i0, .inl (cL, 300, .inr (.inl f0))), (t1, .inr (4, [.ref i1, .int n1, .int p1])), (i1, .inl (cL, 300, .inr (.inl f1))), (t3, .inr (4, [.ref i3, .int n3, .int p3])), (i3, .inl (cL, 300, .inr (.inl f3))), (aU, .inr (6, [.ref bT, .ref aD, .int ch, .int 0])), (bT, .inl (cT, 4, .inr (.inr (.inr (.inr (k4 t0 t1 t2 t3)))))), (t2, .inr (4, [.ref i2, .int u_r_9.1, .int u_r_9.2.1])), (i2, .inl (cL, 300, .inr (.inl u_r_9.2.2)))] := hD
      try dsimp only at wr_9
      refine lv_if_eq (tgt := 37) hx hb dX6_endRecord_30 (by decide) (fun c_30_9 => ?_) (fun c_30_9 => ?_)
      · have t_30_9 := c_30_9
        try simp only [kb_eq0, kb_ne0, lg_cmp_lt, lg_cmp_le, lg_cmp_gt, lg_cmp_ge, lg_cmp_eq] at t_30_9
        try simp only [Int32.lt_iff_toInt_lt, Int32.le_iff_toInt_le, ← Int32.toInt_inj, Int64.lt_iff_toInt_lt, Int64.le_iff_toInt_le, ← Int64.toInt_inj, Int32.toInt_toInt64, Int32.reduceToInt, Int64.reduceToInt] at t_30_9
        refine lv_iconst (v := 0) hx hb dX6_endRecord_37 (by decide) ?_
        refine kIret (u := (ch, 0, n0, n1, u_r_9.1, n3, p0, p1, u_r_9.2.1, p3, f0, f1, u_r_9.2.2, f3)) hx hb hr rfl hlocks hS dX6_endRecord_38 ?_ (hP.sub [6, 7, 0, 1, 2, 3, 8, 9, 4, 5] rfl) (hD.sub [6, 7, 0, 1, 2, 3, 8, 9, 4, 5] (by decide) rfl)
        first
          | exact Or.inl rfl
          | exact Or.inr rfl
          | assumption
      · have t_30_9 := c_30_9
        try simp only [kb_eq0, kb_ne0, lg_cmp_lt, lg_cmp_le, lg_cmp_gt, lg_cmp_ge, lg_cmp_eq] at t_30_9
        try simp only [Int32.lt_iff_toInt_lt, Int32.le_iff_toInt_le, ← Int32.toInt_inj, Int64.lt_iff_toInt_lt, Int64.le_iff_toInt_le, ← Int64.toInt_inj, Int32.toInt_toInt64, Int32.reduceToInt, Int64.reduceToInt] at t_30_9
        refine lv_iconst (v := 1) hx hb dX6_endRecord_33 (by decide) ?_
        refine lv_goto (tgt := 38) hx hb dX6_endRecord_34 (by decide) ?_
        refine kIret (u := (ch, 0, n0, n1, u_r_9.1, n3, p0, p1, u_r_9.2.1, p3, f0, f1, u_r_9.2.2, f3)) hx hb hr rfl hlocks hS dX6_endRecord_38 ?_ (hP.sub [6, 7, 0, 1, 2, 3, 8, 9, 4, 5] rfl) (hD.sub [6, 7, 0, 1, 2, 3, 8, 9, 4, 5] (by decide) rfl)
        first
          | exact Or.inl rfl
          | exact Or.inr rfl
          | assumption
  · show W _ _ _ _ _ _ _ _ _ _ _ _ _ _ _ (F0 _ _ _ (Value.ref t3 :: _))
    refine lv_astore_n (lv' := [(1, .ref t3), (0, .ref aU)]) hx hb dX6_endRecord_4 rfl hl (by decide) rfl (fun ls hl => ?_)
    refine lv_aload_n hx hb dX6_endRecord_5 rfl (lv_at hl 1 rfl) ?_
    refine va_get (D := D) (ci := 6) (v := .int ww) (C := RX6) (T := TX6) (N := 4) hx hb hts iX6_endRecord_X6 hown hK hP 8 rfl rfl 3 (by decide) (hts (.fieldLink RX6 39 "TapeCalculator$Units" "wordWritten" "Z") (List.mem_of_getElem? (i := 1) rfl)) (fun _ h9 => h9) rfl dX6_endRecord_6 ?_
    refine lv_istore_n (lv' := [(2, .int ww), (1, .ref t3), (0, .ref aU)]) hx hb dX6_endRecord_9 rfl hl (by decide) rfl (fun ls hl => ?_)
    refine lv_aload_n hx hb dX6_endRecord_10 rfl (lv_at hl 2 rfl) ?_
    refine lv_iconst (v := 0) hx hb dX6_endRecord_11 (by decide) ?_
    refine va_put (D := D) (ci := 6) (v := .int 0) (ty := .boolean) (C := RX6) (T := TX6) (N := 4) hx hb hts iX6_endRecord_X6 tyX6 tyX6_ok nmX6 hown hK hP hD hS 8 rfl rfl 3 (by decide) (hts (.fieldLink RX6 39 "TapeCalculator$Units" "wordWritten" "Z") (List.mem_of_getElem? (i := 1) rfl)) (fun _ h9 => h9) rfl (by decide +kernel) rfl rfl (Nat.le_of_ble_eq_true rfl) dX6_endRecord_12 (fun H locs hP hD hS => ?_)
    have hP : va_P D vwCl [(t0, .inr (4, [.ref i0, .int n0, .int p0])), (i0, .inl (cL, 300, .inr (.inl f0))), (t1, .inr (4, [.ref i1, .int n1, .int p1])), (i1, .inl (cL, 300, .inr (.inl f1))), (t2, .inr (4, [.ref i2, .int n2, .int p2])), (i2, .inl (cL, 300, .inr (.inl f2))), (t3, .inr (4, [.ref i3, .int n3, .int p3])), (i3, .inl (cL, 300, .inr (.inl f3))), (aU, .inr (6, [.ref bT, .ref aD, .int ch, .int 0])), (bT, .inl (cT, 4, .inr (.inr (.inr (.inr (k4 t0 t1 t2 t3))))))] H := hP
    have hD : va_D A [(t0, .inr (4, [.ref i0, .int n0, .int p0])), (i0, .inl (cL, 300, .inr (.inl f0))), (t1, .inr (4, [.ref i1, .int n1, .int p1])), (i1, .inl (cL, 300, .inr (.inl f1))), (t2, .inr (4, [.ref i2, .int n2, .int p2])), (i2, .inl (cL, 300, .inr (.inl f2))), (t3, .inr (4, [.ref i3, .int n3, .int p3])), (i3, .inl (cL, 300, .inr (.inl f3))), (aU, .inr (6, [.ref bT, .ref aD, .int ch, .int 0])), (bT, .inl (cT, 4, .inr (.inr (.inr (.inr (k4 t0 t1 t2 t3))))))] := hD
    refine lv_aload_n hx hb dX6_endRecord_15 rfl (lv_at hl 1 rfl) ?_
    refine lv_ifnull hx hb dX6_endRecord_16 ?_
    refine lv_iload_n hx hb dX6_endRecord_19 rfl (lv_at hl 0 rfl) ?_
    refine lv_if_eq (tgt := 33) hx hb dX6_endRecord_20 (by decide) (fun c_20_10 => ?_) (fun c_20_10 => ?_)
    · have t_20_10 := c_20_10
      try simp only [kb_eq0, kb_ne0, lg_cmp_lt, lg_cmp_le, lg_cmp_gt, lg_cmp_ge, lg_cmp_eq] at t_20_10
      try simp only [Int32.lt_iff_toInt_lt, Int32.le_iff_toInt_le, ← Int32.toInt_inj, Int64.lt_iff_toInt_lt, Int64.le_iff_toInt_le, ← Int64.toInt_inj, Int32.toInt_toInt64, Int32.reduceToInt, Int64.reduceToInt] at t_20_10
      refine lv_iconst (v := 1) hx hb dX6_endRecord_33 (by decide) ?_
      refine lv_goto (tgt := 38) hx hb dX6_endRecord_34 (by decide) ?_
      refine kIret (u := (ch, 0, n0, n1, n2, n3, p0, p1, p2, p3, f0, f1, f2, f3)) hx hb hr rfl hlocks hS dX6_endRecord_38 ?_ (hP.sub [8, 9, 0, 1, 2, 3, 4, 5, 6, 7] rfl) (hD.sub [8, 9, 0, 1, 2, 3, 4, 5, 6, 7] (by decide) rfl)
      first
        | exact Or.inl rfl
        | exact Or.inr rfl
        | assumption
    · have t_20_10 := c_20_10
      try simp only [kb_eq0, kb_ne0, lg_cmp_lt, lg_cmp_le, lg_cmp_gt, lg_cmp_ge, lg_cmp_eq] at t_20_10
      try simp only [Int32.lt_iff_toInt_lt, Int32.le_iff_toInt_le, ← Int32.toInt_inj, Int64.lt_iff_toInt_lt, Int64.le_iff_toInt_le, ← Int64.toInt_inj, Int32.toInt_toInt64, Int32.reduceToInt, Int64.reduceToInt] at t_20_10
      refine lv_aload_n hx hb dX6_endRecord_23 rfl (lv_at hl 1 rfl) ?_
      refine lv_ldc2 (v := (-2)) hx hb hown (hts (.constantLong RX6 67 (-2)) (List.mem_of_getElem? (i := 2) rfl)) dX6_endRecord_24 ?_
      refine kCallI (wr := [(t0, .inr (4, [.ref i0, .int n0, .int p0])), (i0, .inl (cL, 300, .inr (.inl f0))), (t1, .inr (4, [.ref i1, .int n1, .int p1])), (i1, .inl (cL, 300, .inr (.inl f1))), (t2, .inr (4, [.ref i2, .int n2, .int p2])), (i2, .inl (cL, 300, .inr (.inl f2))), (aU, .inr (6, [.ref bT, .ref aD, .int ch, .int 0])), (bT, .inl (cT, 4, .inr (.inr (.inr (.inr (k4 t0 t1 t2 t3))))))]) (va_runV (As := [.long (-2)]) (rest := []) ⟨hx, hb, hml, hown, hts⟩ (g_putHere l D cI cL cB cZ cT _ t3 i3 n3 p3 f3 (-2)) (cwV 1 hts gX6_endRecord_X4_putHere rfl rfl rfl (by decide +kernel) ⟨Nat.le_of_ble_eq_true rfl, Nat.le_of_ble_eq_true rfl⟩) (kPreV hG hP hD [6, 7] rfl (by decide) 0 4 rfl rfl rfl) rfl rfl hl.1 rfl (lv_room (Nat.le_of_ble_eq_true rfl)) dX6_endRecord_27 ⟨Nat.le_of_ble_eq_true rfl, Nat.le_of_ble_eq_true rfl⟩) hA hP hD hS [6, 7] [0, 1, 2, 3, 4, 5, 8, 9] rfl rfl (by decide) (by decide) (fun r_12 u_r_12 H locs wr_12 hP hD hS => ?_)
      have hP : va_P D vwCl [(t0, .inr (4, [.ref i0, .int n0, .int p0])), (i0, .inl (cL, 300, .inr (.inl f0))), (t1, .inr (4, [.ref i1, .int n1, .int p1])), (i1, .inl (cL, 300, .inr (.inl f1))), (t2, .inr (4, [.ref i2, .int n2, .int p2])), (i2, .inl (cL, 300, .inr (.inl f2))), (aU, .inr (6, [.ref bT, .ref aD, .int ch, .int 0])), (bT, .inl (cT, 4, .inr (.inr (.inr (.inr (k4 t0 t1 t2 t3)))))), (t3, .inr (4, [.ref i3, .int u_r_12.1, .int u_r_12.2.1])), (i3, .inl (cL, 300, .inr (.inl u_r_12.2.2)))] H := hP
      have hD : va_D A [(t0, .inr (4, [.ref i0, .int n0, .int p0])), (i0, .inl (cL, 300, .inr (.inl f0))), (t1, .inr (4, [.ref i1, .int n1, .int p1])), (i1, .inl (cL, 300, .inr (.inl f1))), (t2, .inr (4, [.ref i2, .int n2, .int p2])), (i2, .inl (cL, 300, .inr (.inl f2))), (aU, .inr (6, [.ref bT, .ref aD, .int ch, .int 0])), (bT, .inl (cT, 4, .inr (.inr (.inr (.inr (k4 t0 t1 t2 t3)))))), (t3, .inr (4, [.ref i3, .int u_r_12.1, .int u_r_12.2.1])), (i3, .inl (cL, 300, .inr (.inl u_r_12.2.2)))] := hD
      try dsimp only at wr_12
      refine lv_if_eq (tgt := 37) hx hb dX6_endRecord_30 (by decide) (fun c_30_12 => ?_) (fun c_30_12 => ?_)
      · have t_30_12 := c_30_12
        try simp only [kb_eq0, kb_ne0, lg_cmp_lt, lg_cmp_le, lg_cmp_gt, lg_cmp_ge, lg_cmp_eq] at t_30_12
        try simp only [Int32.lt_iff_toInt_lt, Int32.le_iff_toInt_le, ← Int32.toInt_inj, Int64.lt_iff_toInt_lt, Int64.le_iff_toInt_le, ← Int64.toInt_inj, Int32.toInt_toInt64, Int32.reduceToInt, Int64.reduceToInt] at t_30_12
        refine lv_iconst (v := 0) hx hb dX6_endRecord_37 (by decide) ?_
        refine kIret (u := (ch, 0, n0, n1, n2, u_r_12.1, p0, p1, p2, u_r_12.2.1, f0, f1, f2, u_r_12.2.2)) hx hb hr rfl hlocks hS dX6_endRecord_38 ?_ (hP.sub [6, 7, 0, 1, 2, 3, 4, 5, 8, 9] rfl) (hD.sub [6, 7, 0, 1, 2, 3, 4, 5, 8, 9] (by decide) rfl)
        first
          | exact Or.inl rfl
          | exact Or.inr rfl
          | assumption
      · have t_30_12 := c_30_12
        try simp only [kb_eq0, kb_ne0, lg_cmp_lt, lg_cmp_le, lg_cmp_gt, lg_cmp_ge, lg_cmp_eq] at t_30_12
        try simp only [Int32.lt_iff_toInt_lt, Int32.le_iff_toInt_le, ← Int32.toInt_inj, Int64.lt_iff_toInt_lt, Int64.le_iff_toInt_le, ← Int64.toInt_inj, Int32.toInt_toInt64, Int32.reduceToInt, Int64.reduceToInt] at t_30_12
        refine lv_iconst (v := 1) hx hb dX6_endRecord_33 (by decide) ?_
        refine lv_goto (tgt := 38) hx hb dX6_endRecord_34 (by decide) ?_
        refine kIret (u := (ch, 0, n0, n1, n2, u_r_12.1, p0, p1, p2, u_r_12.2.1, f0, f1, f2, u_r_12.2.2)) hx hb hr rfl hlocks hS dX6_endRecord_38 ?_ (hP.sub [6, 7, 0, 1, 2, 3, 4, 5, 8, 9] rfl) (hD.sub [6, 7, 0, 1, 2, 3, 4, 5, 8, 9] (by decide) rfl)
        first
          | exact Or.inl rfl
          | exact Or.inr rfl
          | assumption
set_option maxRecDepth 100000 in
theorem iX6_endByStop_X6 : ∀ w ∈ wsX60, w ∈ wsX6_endByStop := fun w h => (goodIn_r (big := wsX6_endByStop) wsX60 [26, 27, 28, 29] rfl (by decide +kernel) w h).1
set_option maxRecDepth 100000 in
set_option maxHeartbeats 4000000 in
theorem g_endByStop (l : Launch) (D : va_G) (cI cL cB cZ cT : ClassId) (sz : Nat) (aU bT aD : Nat) (ch ww : Int32) (t0 t1 t2 t3 : Nat) (i0 i1 i2 i3 : Nat) (n0 n1 n2 n3 p0 p1 p2 p3 : Int32) (f0 f1 f2 f3 : Nat → Int64) : kM (S := (Int32 × Int32 × Int32 × Int32 × Int32 × Int32 × Int32 × Int32 × Int32 × Int32 × (Nat → Int64) × (Nat → Int64) × (Nat → Int64) × (Nat → Int64))) l yX6_endByStop wsX6_endByStop ({ frames := 3, cells := 0, slots := 0, locals := 63 }) D (kT cI cL cB cZ cT) [.ref aU] [(aU, .inr (6, [.ref bT, .ref aD, .int ch, .int ww])), (bT, .inl (cT, 4, .inr (.inr (.inr (.inr (k4 t0 t1 t2 t3)))))), (t0, .inr (4, [.ref i0, .int n0, .int p0])), (i0, .inl (cL, 300, .inr (.inl f0))), (t1, .inr (4, [.ref i1, .int n1, .int p1])), (i1, .inl (cL, 300, .inr (.inl f1))), (t2, .inr (4, [.ref i2, .int n2, .int p2])), (i2, .inl (cL, 300, .inr (.inl f2))), (t3, .inr (4, [.ref i3, .int n3, .int p3])), (i3, .inl (cL, 300, .inr (.inl f3)))] sz eV (fun _ _ => True) (fun u => [(aU, .inr (6, [.ref bT, .ref aD, .int u.1, .int u.2.1])), (bT, .inl (cT, 4, .inr (.inr (.inr (.inr (k4 t0 t1 t2 t3)))))), (t0, .inr (4, [.ref i0, .int u.2.2.1, .int u.2.2.2.2.2.2.1])), (i0, .inl (cL, 300, .inr (.inl u.2.2.2.2.2.2.2.2.2.2.1))), (t1, .inr (4, [.ref i1, .int u.2.2.2.1, .int u.2.2.2.2.2.2.2.1])), (i1, .inl (cL, 300, .inr (.inl u.2.2.2.2.2.2.2.2.2.2.2.1))), (t2, .inr (4, [.ref i2, .int u.2.2.2.2.1, .int u.2.2.2.2.2.2.2.2.1])), (i2, .inl (cL, 300, .inr (.inl u.2.2.2.2.2.2.2.2.2.2.2.2.1))), (t3, .inr (4, [.ref i3, .int u.2.2.2.2.2.1, .int u.2.2.2.2.2.2.2.2.2.1])), (i3, .inl (cL, 300, .inr (.inl u.2.2.2.2.2.2.2.2.2.2.2.2.2)))]) 0 0 := by
  refine kStart (cc := cX6_endByStop) (maxL := 1) (ret := none) (own := RX6) (by decide) rfl rfl (Nat.le_of_ble_eq_true rfl) ?_
  intro p e s m args below meth c A ls hx hb hr hml hown hts hlocks hnm hsz hA hG hP hD hS hl
  have hK := hG.1
  have hl : lv_has ls 1 [(0, .ref aU)] := hl
  refine lv_aload_n hx hb dX6_endByStop_0 rfl (lv_at hl 0 rfl) ?_
  refine kCallI (wr := []) (va_runV (As := []) (rest := []) ⟨hx, hb, hml, hown, hts⟩ (g_endRecord l D cI cL cB cZ cT _ aU bT aD ch ww t0 t1 t2 t3 i0 i1 i2 i3 n0 n1 n2 n3 p0 p1 p2 p3 f0 f1 f2 f3) (cwV 0 hts gX6_endByStop_X6_endRecord rfl rfl rfl (by decide +kernel) ⟨Nat.le_of_ble_eq_true rfl, Nat.le_of_ble_eq_true rfl⟩) (kPreV hG hP hD [0, 1, 2, 3, 4, 5, 6, 7, 8, 9] rfl (by decide) 0 6 rfl rfl rfl) rfl rfl hl.1 rfl (lv_room (Nat.le_of_ble_eq_true rfl)) dX6_endByStop_1 ⟨Nat.le_of_ble_eq_true rfl, Nat.le_of_ble_eq_true rfl⟩) hA hP hD hS [0, 1, 2, 3, 4, 5, 6, 7, 8, 9] [] rfl rfl (by decide) (by decide) (fun r_1 u_r_1 H locs wr_1 hP hD hS => ?_)
  have hP : va_P D vwCl [(aU, .inr (6, [.ref bT, .ref aD, .int u_r_1.1, .int u_r_1.2.1])), (bT, .inl (cT, 4, .inr (.inr (.inr (.inr (k4 t0 t1 t2 t3)))))), (t0, .inr (4, [.ref i0, .int u_r_1.2.2.1, .int u_r_1.2.2.2.2.2.2.1])), (i0, .inl (cL, 300, .inr (.inl u_r_1.2.2.2.2.2.2.2.2.2.2.1))), (t1, .inr (4, [.ref i1, .int u_r_1.2.2.2.1, .int u_r_1.2.2.2.2.2.2.2.1])), (i1, .inl (cL, 300, .inr (.inl u_r_1.2.2.2.2.2.2.2.2.2.2.2.1))), (t2, .inr (4, [.ref i2, .int u_r_1.2.2.2.2.1, .int u_r_1.2.2.2.2.2.2.2.2.1])), (i2, .inl (cL, 300, .inr (.inl u_r_1.2.2.2.2.2.2.2.2.2.2.2.2.1))), (t3, .inr (4, [.ref i3, .int u_r_1.2.2.2.2.2.1, .int u_r_1.2.2.2.2.2.2.2.2.2.1])), (i3, .inl (cL, 300, .inr (.inl u_r_1.2.2.2.2.2.2.2.2.2.2.2.2.2)))] H := hP
  have hD : va_D A [(aU, .inr (6, [.ref bT, .ref aD, .int u_r_1.1, .int u_r_1.2.1])), (bT, .inl (cT, 4, .inr (.inr (.inr (.inr (k4 t0 t1 t2 t3)))))), (t0, .inr (4, [.ref i0, .int u_r_1.2.2.1, .int u_r_1.2.2.2.2.2.2.1])), (i0, .inl (cL, 300, .inr (.inl u_r_1.2.2.2.2.2.2.2.2.2.2.1))), (t1, .inr (4, [.ref i1, .int u_r_1.2.2.2.1, .int u_r_1.2.2.2.2.2.2.2.1])), (i1, .inl (cL, 300, .inr (.inl u_r_1.2.2.2.2.2.2.2.2.2.2.2.1))), (t2, .inr (4, [.ref i2, .int u_r_1.2.2.2.2.1, .int u_r_1.2.2.2.2.2.2.2.2.1])), (i2, .inl (cL, 300, .inr (.inl u_r_1.2.2.2.2.2.2.2.2.2.2.2.2.1))), (t3, .inr (4, [.ref i3, .int u_r_1.2.2.2.2.2.1, .int u_r_1.2.2.2.2.2.2.2.2.2.1])), (i3, .inl (cL, 300, .inr (.inl u_r_1.2.2.2.2.2.2.2.2.2.2.2.2.2)))] := hD
  try dsimp only at wr_1
  refine lv_pop hx hb dX6_endByStop_4 rfl ?_
  refine lv_aload_n hx hb dX6_endByStop_5 rfl (lv_at hl 0 rfl) ?_
  refine lv_iconst (v := 0) hx hb dX6_endByStop_6 (by decide) ?_
  refine va_put (D := D) (ci := 6) (v := .int 0) (ty := .int) (C := RX6) (T := TX6) (N := 4) hx hb hts iX6_endByStop_X6 tyX6 tyX6_ok nmX6 hown hK hP hD hS 0 rfl rfl 2 (by decide) (hts (.fieldLink RX6 36 "TapeCalculator$Units" "chosen" "I") (List.mem_of_getElem? (i := 1) rfl)) (fun _ h9 => h9) rfl (by decide +kernel) rfl rfl (Nat.le_of_ble_eq_true rfl) dX6_endByStop_7 (fun H locs hP hD hS => ?_)
  have hP : va_P D vwCl [(aU, .inr (6, [.ref bT, .ref aD, .int 0, .int u_r_1.2.1])), (bT, .inl (cT, 4, .inr (.inr (.inr (.inr (k4 t0 t1 t2 t3)))))), (t0, .inr (4, [.ref i0, .int u_r_1.2.2.1, .int u_r_1.2.2.2.2.2.2.1])), (i0, .inl (cL, 300, .inr (.inl u_r_1.2.2.2.2.2.2.2.2.2.2.1))), (t1, .inr (4, [.ref i1, .int u_r_1.2.2.2.1, .int u_r_1.2.2.2.2.2.2.2.1])), (i1, .inl (cL, 300, .inr (.inl u_r_1.2.2.2.2.2.2.2.2.2.2.2.1))), (t2, .inr (4, [.ref i2, .int u_r_1.2.2.2.2.1, .int u_r_1.2.2.2.2.2.2.2.2.1])), (i2, .inl (cL, 300, .inr (.inl u_r_1.2.2.2.2.2.2.2.2.2.2.2.2.1))), (t3, .inr (4, [.ref i3, .int u_r_1.2.2.2.2.2.1, .int u_r_1.2.2.2.2.2.2.2.2.2.1])), (i3, .inl (cL, 300, .inr (.inl u_r_1.2.2.2.2.2.2.2.2.2.2.2.2.2)))] H := hP
  have hD : va_D A [(aU, .inr (6, [.ref bT, .ref aD, .int 0, .int u_r_1.2.1])), (bT, .inl (cT, 4, .inr (.inr (.inr (.inr (k4 t0 t1 t2 t3)))))), (t0, .inr (4, [.ref i0, .int u_r_1.2.2.1, .int u_r_1.2.2.2.2.2.2.1])), (i0, .inl (cL, 300, .inr (.inl u_r_1.2.2.2.2.2.2.2.2.2.2.1))), (t1, .inr (4, [.ref i1, .int u_r_1.2.2.2.1, .int u_r_1.2.2.2.2.2.2.2.1])), (i1, .inl (cL, 300, .inr (.inl u_r_1.2.2.2.2.2.2.2.2.2.2.2.1))), (t2, .inr (4, [.ref i2, .int u_r_1.2.2.2.2.1, .int u_r_1.2.2.2.2.2.2.2.2.1])), (i2, .inl (cL, 300, .inr (.inl u_r_1.2.2.2.2.2.2.2.2.2.2.2.2.1))), (t3, .inr (4, [.ref i3, .int u_r_1.2.2.2.2.2.1, .int u_r_1.2.2.2.2.2.2.2.2.2.1])), (i3, .inl (cL, 300, .inr (.inl u_r_1.2.2.2.2.2.2.2.2.2.2.2.2.2)))] := hD
  refine kVret (u := (0, u_r_1.2.1, u_r_1.2.2.1, u_r_1.2.2.2.1, u_r_1.2.2.2.2.1, u_r_1.2.2.2.2.2.1, u_r_1.2.2.2.2.2.2.1, u_r_1.2.2.2.2.2.2.2.1, u_r_1.2.2.2.2.2.2.2.2.1, u_r_1.2.2.2.2.2.2.2.2.2.1, u_r_1.2.2.2.2.2.2.2.2.2.2.1, u_r_1.2.2.2.2.2.2.2.2.2.2.2.1, u_r_1.2.2.2.2.2.2.2.2.2.2.2.2.1, u_r_1.2.2.2.2.2.2.2.2.2.2.2.2.2)) hx hb hr hlocks hS dX6_endByStop_10 ?_ (hP.sub [0, 1, 2, 3, 4, 5, 6, 7, 8, 9] rfl) (hD.sub [0, 1, 2, 3, 4, 5, 6, 7, 8, 9] (by decide) rfl)
  exact trivial
set_option maxRecDepth 100000 in
theorem iX6_chooseTape_X6 : ∀ w ∈ wsX60, w ∈ wsX6_chooseTape := fun w h => (goodIn_r (big := wsX6_chooseTape) wsX60 [16, 17, 18, 19] rfl (by decide +kernel) w h).1
set_option maxRecDepth 100000 in
theorem iX6_chooseTape_X4 : ∀ w ∈ wsX40, w ∈ wsX6_chooseTape := fun w h => (goodIn_r (big := wsX6_chooseTape) wsX40 [20, 21, 22] rfl (by decide +kernel) w h).1
set_option maxRecDepth 100000 in
set_option maxHeartbeats 4000000 in
theorem g_chooseTape (l : Launch) (D : va_G) (cI cL cB cZ cT : ClassId) (sz : Nat) (aU bT aD : Nat) (ch ww : Int32) (t0 i0 : Nat) (n0 p0 : Int32) (f0 : Nat → Int64) (a t : Int32) : kM (S := (Int32 × Int32 × Int32 × Int32 × (Nat → Int64))) l yX6_chooseTape wsX6_chooseTape ({ frames := 1, cells := 0, slots := 0, locals := 23 }) D (kT cI cL cB cZ cT) [.ref aU, .int a, .ref t0, .int t] [(aU, .inr (6, [.ref bT, .ref aD, .int ch, .int ww])), (t0, .inr (4, [.ref i0, .int n0, .int p0])), (i0, .inl (cL, 300, .inr (.inl f0)))] sz eI (fun _ _ => True) (fun u => [(aU, .inr (6, [.ref bT, .ref aD, .int u.1, .int u.2.1])), (t0, .inr (4, [.ref i0, .int u.2.2.1, .int u.2.2.2.1])), (i0, .inl (cL, 300, .inr (.inl u.2.2.2.2)))]) 0 0 := by
  refine kStart (cc := cX6_chooseTape) (maxL := 4) (ret := (some .int)) (own := RX6) (by decide) rfl rfl (Nat.le_of_ble_eq_true rfl) ?_
  intro p e s m args below meth c A ls hx hb hr hml hown hts hlocks hnm hsz hA hG hP hD hS hl
  have hK := hG.1
  have hl : lv_has ls 4 [(0, .ref aU), (1, .int a), (2, .ref t0), (3, .int t)] := hl
  refine lv_aload_n hx hb dX6_chooseTape_0 rfl (lv_at hl 0 rfl) ?_
  refine lv_iconst (v := 0) hx hb dX6_chooseTape_1 (by decide) ?_
  refine va_put (D := D) (ci := 6) (v := .int 0) (ty := .int) (C := RX6) (T := TX6) (N := 4) hx hb hts iX6_chooseTape_X6 tyX6 tyX6_ok nmX6 hown hK hP hD hS 0 rfl rfl 2 (by decide) (hts (.fieldLink RX6 36 "TapeCalculator$Units" "chosen" "I") (List.mem_of_getElem? (i := 1) rfl)) (fun _ h9 => h9) rfl (by decide +kernel) rfl rfl (Nat.le_of_ble_eq_true rfl) dX6_chooseTape_2 (fun H locs hP hD hS => ?_)
  have hP : va_P D vwCl [(aU, .inr (6, [.ref bT, .ref aD, .int 0, .int ww])), (t0, .inr (4, [.ref i0, .int n0, .int p0])), (i0, .inl (cL, 300, .inr (.inl f0)))] H := hP
  have hD : va_D A [(aU, .inr (6, [.ref bT, .ref aD, .int 0, .int ww])), (t0, .inr (4, [.ref i0, .int n0, .int p0])), (i0, .inl (cL, 300, .inr (.inl f0)))] := hD
  refine lv_iload_n hx hb dX6_chooseTape_5 rfl (lv_at hl 1 rfl) ?_
  rcases ksw_24_27 a with hsw | rfl | rfl | rfl | rfl
  · refine lv_tableOut (tgt := 91) hx hb dX6_chooseTape_6 hsw (by decide) ?_
    refine lv_aload_n hx hb dX6_chooseTape_91 rfl (lv_at hl 2 rfl) ?_
    refine lv_iconst (v := 0) hx hb dX6_chooseTape_92 (by decide) ?_
    refine va_put (D := D) (ci := 4) (v := .int 0) (ty := .int) (C := RX4) (T := TX4) (N := 3) hx hb hts iX6_chooseTape_X4 tyX4 tyX4_ok nmX4 hown hK hP hD hS 1 rfl rfl 2 (by decide) (hts (.fieldLink RX6 64 "TapeCalculator$Tape" "at" "I") (List.mem_of_getElem? (i := 3) rfl)) (fun _ h9 => h9) rfl (by decide +kernel) rfl rfl (Nat.le_of_ble_eq_true rfl) dX6_chooseTape_93 (fun H locs hP hD hS => ?_)
    have hP : va_P D vwCl [(aU, .inr (6, [.ref bT, .ref aD, .int 0, .int ww])), (t0, .inr (4, [.ref i0, .int n0, .int 0])), (i0, .inl (cL, 300, .inr (.inl f0)))] H := hP
    have hD : va_D A [(aU, .inr (6, [.ref bT, .ref aD, .int 0, .int ww])), (t0, .inr (4, [.ref i0, .int n0, .int 0])), (i0, .inl (cL, 300, .inr (.inl f0)))] := hD
    refine lv_iconst (v := 0) hx hb dX6_chooseTape_96 (by decide) ?_
    refine kIret (u := (0, ww, n0, 0, f0)) hx hb hr rfl hlocks hS dX6_chooseTape_97 ?_ (hP.sub [0, 1, 2] rfl) (hD.sub [0, 1, 2] (by decide) rfl)
    exact trivial
  · refine lv_tableIn (tgt := 36) (off := 30) hx hb dX6_chooseTape_6 (by decide) (by decide) (by decide) (by decide) ?_
    refine lv_aload_n hx hb dX6_chooseTape_36 rfl (lv_at hl 0 rfl) ?_
    refine lv_iconst (v := 1) hx hb dX6_chooseTape_37 (by decide) ?_
    refine lv_iload_n hx hb dX6_chooseTape_38 rfl (lv_at hl 3 rfl) ?_
    refine lv_iadd hx hb dX6_chooseTape_39 ?_
    refine lv_topi (fun x_1 ex_1 => ?_)
    refine va_put (D := D) (ci := 6) (v := .int x_1) (ty := .int) (C := RX6) (T := TX6) (N := 4) hx hb hts iX6_chooseTape_X6 tyX6 tyX6_ok nmX6 hown hK hP hD hS 0 rfl rfl 2 (by decide) (hts (.fieldLink RX6 36 "TapeCalculator$Units" "chosen" "I") (List.mem_of_getElem? (i := 1) rfl)) (fun _ h9 => h9) rfl (by decide +kernel) rfl rfl (Nat.le_of_ble_eq_true rfl) dX6_chooseTape_40 (fun H locs hP hD hS => ?_)
    have hP : va_P D vwCl [(aU, .inr (6, [.ref bT, .ref aD, .int x_1, .int ww])), (t0, .inr (4, [.ref i0, .int n0, .int p0])), (i0, .inl (cL, 300, .inr (.inl f0)))] H := hP
    have hD : va_D A [(aU, .inr (6, [.ref bT, .ref aD, .int x_1, .int ww])), (t0, .inr (4, [.ref i0, .int n0, .int p0])), (i0, .inl (cL, 300, .inr (.inl f0)))] := hD
    refine lv_goto (tgt := 96) hx hb dX6_chooseTape_43 (by decide) ?_
    refine lv_iconst (v := 0) hx hb dX6_chooseTape_96 (by decide) ?_
    refine kIret (u := (x_1, ww, n0, p0, f0)) hx hb hr rfl hlocks hS dX6_chooseTape_97 ?_ (hP.sub [0, 1, 2] rfl) (hD.sub [0, 1, 2] (by decide) rfl)
    exact trivial
  · refine lv_tableIn (tgt := 46) (off := 40) hx hb dX6_chooseTape_6 (by decide) (by decide) (by decide) (by decide) ?_
    refine lv_aload_n hx hb dX6_chooseTape_46 rfl (lv_at hl 0 rfl) ?_
    refine lv_iconst (v := 5) hx hb dX6_chooseTape_47 (by decide) ?_
    refine lv_iload_n hx hb dX6_chooseTape_48 rfl (lv_at hl 3 rfl) ?_
    refine lv_iadd hx hb dX6_chooseTape_49 ?_
    refine lv_topi (fun x_2 ex_2 => ?_)
    refine va_put (D := D) (ci := 6) (v := .int x_2) (ty := .int) (C := RX6) (T := TX6) (N := 4) hx hb hts iX6_chooseTape_X6 tyX6 tyX6_ok nmX6 hown hK hP hD hS 0 rfl rfl 2 (by decide) (hts (.fieldLink RX6 36 "TapeCalculator$Units" "chosen" "I") (List.mem_of_getElem? (i := 1) rfl)) (fun _ h9 => h9) rfl (by decide +kernel) rfl rfl (Nat.le_of_ble_eq_true rfl) dX6_chooseTape_50 (fun H locs hP hD hS => ?_)
    have hP : va_P D vwCl [(aU, .inr (6, [.ref bT, .ref aD, .int x_2, .int ww])), (t0, .inr (4, [.ref i0, .int n0, .int p0])), (i0, .inl (cL, 300, .inr (.inl f0)))] H := hP
    have hD : va_D A [(aU, .inr (6, [.ref bT, .ref aD, .int x_2, .int ww])), (t0, .inr (4, [.ref i0, .int n0, .int p0])), (i0, .inl (cL, 300, .inr (.inl f0)))] := hD
    refine lv_goto (tgt := 96) hx hb dX6_chooseTape_53 (by decide) ?_
    refine lv_iconst (v := 0) hx hb dX6_chooseTape_96 (by decide) ?_
    refine kIret (u := (x_2, ww, n0, p0, f0)) hx hb hr rfl hlocks hS dX6_chooseTape_97 ?_ (hP.sub [0, 1, 2] rfl) (hD.sub [0, 1, 2] (by decide) rfl)
    exact trivial
  · refine lv_tableIn (tgt := 56) (off := 50) hx hb dX6_chooseTape_6 (by decide) (by decide) (by decide) (by decide) ?_
    refine lv_aload_n hx hb dX6_chooseTape_56 rfl (lv_at hl 2 rfl) ?_
    refine kCallVd (wr := [(aU, .inr (6, [.ref bT, .ref aD, .int 0, .int ww]))]) (va_runV (As := []) (rest := []) ⟨hx, hb, hml, hown, hts⟩ (g_cutHere l D cI cL cB cZ cT _ t0 i0 n0 p0 f0) (cwV 0 hts gX6_chooseTape_X4_cutHere rfl rfl rfl (by decide +kernel) ⟨Nat.le_of_ble_eq_true rfl, Nat.le_of_ble_eq_true rfl⟩) (kPreV hG hP hD [1, 2] rfl (by decide) 0 4 rfl rfl rfl) rfl rfl hl.1 rfl (lv_room (Nat.le_of_ble_eq_true rfl)) dX6_chooseTape_57 ⟨Nat.le_of_ble_eq_true rfl, Nat.le_of_ble_eq_true rfl⟩) hA hP hD hS [1, 2] [0] rfl rfl (by decide) (by decide) (fun _ u_r_3 H locs wr_3 hP hD hS => ?_)
    have hP : va_P D vwCl [(aU, .inr (6, [.ref bT, .ref aD, .int 0, .int ww])), (t0, .inr (4, [.ref i0, .int u_r_3, .int p0])), (i0, .inl (cL, 300, .inr (.inl f0)))] H := hP
    have hD : va_D A [(aU, .inr (6, [.ref bT, .ref aD, .int 0, .int ww])), (t0, .inr (4, [.ref i0, .int u_r_3, .int p0])), (i0, .inl (cL, 300, .inr (.inl f0)))] := hD
    try dsimp only at wr_3
    refine lv_aload_n hx hb dX6_chooseTape_60 rfl (lv_at hl 0 rfl) ?_
    refine lv_bipush (v := 9) hx hb dX6_chooseTape_61 (by decide) ?_
    refine lv_iload_n hx hb dX6_chooseTape_63 rfl (lv_at hl 3 rfl) ?_
    refine lv_iadd hx hb dX6_chooseTape_64 ?_
    refine lv_topi (fun x_4 ex_4 => ?_)
    refine va_put (D := D) (ci := 6) (v := .int x_4) (ty := .int) (C := RX6) (T := TX6) (N := 4) hx hb hts iX6_chooseTape_X6 tyX6 tyX6_ok nmX6 hown hK hP hD hS 0 rfl rfl 2 (by decide) (hts (.fieldLink RX6 36 "TapeCalculator$Units" "chosen" "I") (List.mem_of_getElem? (i := 1) rfl)) (fun _ h9 => h9) rfl (by decide +kernel) rfl rfl (Nat.le_of_ble_eq_true rfl) dX6_chooseTape_65 (fun H locs hP hD hS => ?_)
    have hP : va_P D vwCl [(aU, .inr (6, [.ref bT, .ref aD, .int x_4, .int ww])), (t0, .inr (4, [.ref i0, .int u_r_3, .int p0])), (i0, .inl (cL, 300, .inr (.inl f0)))] H := hP
    have hD : va_D A [(aU, .inr (6, [.ref bT, .ref aD, .int x_4, .int ww])), (t0, .inr (4, [.ref i0, .int u_r_3, .int p0])), (i0, .inl (cL, 300, .inr (.inl f0)))] := hD
    refine lv_goto (tgt := 96) hx hb dX6_chooseTape_68 (by decide) ?_
    refine lv_iconst (v := 0) hx hb dX6_chooseTape_96 (by decide) ?_
    refine kIret (u := (x_4, ww, u_r_3, p0, f0)) hx hb hr rfl hlocks hS dX6_chooseTape_97 ?_ (hP.sub [0, 1, 2] rfl) (hD.sub [0, 1, 2] (by decide) rfl)
    exact trivial
  · refine lv_tableIn (tgt := 71) (off := 65) hx hb dX6_chooseTape_6 (by decide) (by decide) (by decide) (by decide) ?_
    refine lv_aload_n hx hb dX6_chooseTape_71 rfl (lv_at hl 2 rfl) ?_
    refine kCallVd (wr := [(aU, .inr (6, [.ref bT, .ref aD, .int 0, .int ww]))]) (va_runV (As := []) (rest := []) ⟨hx, hb, hml, hown, hts⟩ (g_cutHere l D cI cL cB cZ cT _ t0 i0 n0 p0 f0) (cwV 0 hts gX6_chooseTape_X4_cutHere rfl rfl rfl (by decide +kernel) ⟨Nat.le_of_ble_eq_true rfl, Nat.le_of_ble_eq_true rfl⟩) (kPreV hG hP hD [1, 2] rfl (by decide) 0 4 rfl rfl rfl) rfl rfl hl.1 rfl (lv_room (Nat.le_of_ble_eq_true rfl)) dX6_chooseTape_72 ⟨Nat.le_of_ble_eq_true rfl, Nat.le_of_ble_eq_true rfl⟩) hA hP hD hS [1, 2] [0] rfl rfl (by decide) (by decide) (fun _ u_r_5 H locs wr_5 hP hD hS => ?_)
    have hP : va_P D vwCl [(aU, .inr (6, [.ref bT, .ref aD, .int 0, .int ww])), (t0, .inr (4, [.ref i0, .int u_r_5, .int p0])), (i0, .inl (cL, 300, .inr (.inl f0)))] H := hP
    have hD : va_D A [(aU, .inr (6, [.ref bT, .ref aD, .int 0, .int ww])), (t0, .inr (4, [.ref i0, .int u_r_5, .int p0])), (i0, .inl (cL, 300, .inr (.inl f0)))] := hD
    try dsimp only at wr_5
    refine lv_aload_n hx hb dX6_chooseTape_75 rfl (lv_at hl 2 rfl) ?_
    refine lv_ldc2 (v := (-3)) hx hb hown (hts (.constantLong RX6 58 (-3)) (List.mem_of_getElem? (i := 2) rfl)) dX6_chooseTape_76 ?_
    refine kCallI (wr := [(aU, .inr (6, [.ref bT, .ref aD, .int 0, .int ww]))]) (va_runV (As := [.long (-3)]) (rest := []) ⟨hx, hb, hml, hown, hts⟩ (g_putHere l D cI cL cB cZ cT _ t0 i0 u_r_5 p0 f0 (-3)) (cwV 1 hts gX6_chooseTape_X4_putHere rfl rfl rfl (by decide +kernel) ⟨Nat.le_of_ble_eq_true rfl, Nat.le_of_ble_eq_true rfl⟩) (kPreV hG hP hD [1, 2] rfl (by decide) 0 4 rfl rfl rfl) rfl rfl hl.1 rfl (lv_room (Nat.le_of_ble_eq_true rfl)) dX6_chooseTape_79 ⟨Nat.le_of_ble_eq_true rfl, Nat.le_of_ble_eq_true rfl⟩) hA hP hD hS [1, 2] [0] rfl rfl (by decide) (by decide) (fun r_6 u_r_6 H locs wr_6 hP hD hS => ?_)
    have hP : va_P D vwCl [(aU, .inr (6, [.ref bT, .ref aD, .int 0, .int ww])), (t0, .inr (4, [.ref i0, .int u_r_6.1, .int u_r_6.2.1])), (i0, .inl (cL, 300, .inr (.inl u_r_6.2.2)))] H := hP
    have hD : va_D A [(aU, .inr (6, [.ref bT, .ref aD, .int 0, .int ww])), (t0, .inr (4, [.ref i0, .int u_r_6.1, .int u_r_6.2.1])), (i0, .inl (cL, 300, .inr (.inl u_r_6.2.2)))] := hD
    try dsimp only at wr_6
    refine lv_if_eq (tgt := 89) hx hb dX6_chooseTape_82 (by decide) (fun c_82_6 => ?_) (fun c_82_6 => ?_)
    · have t_82_6 := c_82_6
      try simp only [kb_eq0, kb_ne0, lg_cmp_lt, lg_cmp_le, lg_cmp_gt, lg_cmp_ge, lg_cmp_eq] at t_82_6
      try simp only [Int32.lt_iff_toInt_lt, Int32.le_iff_toInt_le, ← Int32.toInt_inj, Int64.lt_iff_toInt_lt, Int64.le_iff_toInt_le, ← Int64.toInt_inj, Int32.toInt_toInt64, Int32.reduceToInt, Int64.reduceToInt] at t_82_6
      refine lv_iconst (v := 5) hx hb dX6_chooseTape_89 (by decide) ?_
      refine kIret (u := (0, ww, u_r_6.1, u_r_6.2.1, u_r_6.2.2)) hx hb hr rfl hlocks hS dX6_chooseTape_90 ?_ (hP.sub [0, 1, 2] rfl) (hD.sub [0, 1, 2] (by decide) rfl)
      exact trivial
    · have t_82_6 := c_82_6
      try simp only [kb_eq0, kb_ne0, lg_cmp_lt, lg_cmp_le, lg_cmp_gt, lg_cmp_ge, lg_cmp_eq] at t_82_6
      try simp only [Int32.lt_iff_toInt_lt, Int32.le_iff_toInt_le, ← Int32.toInt_inj, Int64.lt_iff_toInt_lt, Int64.le_iff_toInt_le, ← Int64.toInt_inj, Int32.toInt_toInt64, Int32.reduceToInt, Int64.reduceToInt] at t_82_6
      refine lv_iconst (v := 0) hx hb dX6_chooseTape_85 (by decide) ?_
      refine lv_goto (tgt := 90) hx hb dX6_chooseTape_86 (by decide) ?_
      refine kIret (u := (0, ww, u_r_6.1, u_r_6.2.1, u_r_6.2.2)) hx hb hr rfl hlocks hS dX6_chooseTape_90 ?_ (hP.sub [0, 1, 2] rfl) (hD.sub [0, 1, 2] (by decide) rfl)
      exact trivial
set_option maxRecDepth 100000 in
theorem iX6_choose_X6 : ∀ w ∈ wsX60, w ∈ wsX6_choose := fun w h => (goodIn_r (big := wsX6_choose) wsX60 [36, 37, 38, 39] rfl (by decide +kernel) w h).1
set_option maxRecDepth 100000 in
set_option maxHeartbeats 4000000 in
theorem g_choose (l : Launch) (D : va_G) (cI cL cB cZ cT : ClassId) (sz : Nat) (aU bT aD : Nat) (ch ww : Int32) (t0 t1 t2 t3 : Nat) (i0 i1 i2 i3 : Nat) (n0 n1 n2 n3 p0 p1 p2 p3 : Int32) (f0 f1 f2 f3 : Nat → Int64) (a t : Int32) : kM (S := (Int32 × Int32 × Int32 × Int32 × Int32 × Int32 × Int32 × Int32 × Int32 × Int32 × (Nat → Int64) × (Nat → Int64) × (Nat → Int64) × (Nat → Int64))) l yX6_choose wsX6_choose ({ frames := 3, cells := 0, slots := 0, locals := 63 }) D (kT cI cL cB cZ cT) [.ref aU, .int a, .int t] [(aU, .inr (6, [.ref bT, .ref aD, .int ch, .int ww])), (bT, .inl (cT, 4, .inr (.inr (.inr (.inr (k4 t0 t1 t2 t3)))))), (t0, .inr (4, [.ref i0, .int n0, .int p0])), (i0, .inl (cL, 300, .inr (.inl f0))), (t1, .inr (4, [.ref i1, .int n1, .int p1])), (i1, .inl (cL, 300, .inr (.inl f1))), (t2, .inr (4, [.ref i2, .int n2, .int p2])), (i2, .inl (cL, 300, .inr (.inl f2))), (t3, .inr (4, [.ref i3, .int n3, .int p3])), (i3, .inl (cL, 300, .inr (.inl f3)))] sz eI (fun _ _ => True) (fun u => [(aU, .inr (6, [.ref bT, .ref aD, .int u.1, .int u.2.1])), (bT, .inl (cT, 4, .inr (.inr (.inr (.inr (k4 t0 t1 t2 t3)))))), (t0, .inr (4, [.ref i0, .int u.2.2.1, .int u.2.2.2.2.2.2.1])), (i0, .inl (cL, 300, .inr (.inl u.2.2.2.2.2.2.2.2.2.2.1))), (t1, .inr (4, [.ref i1, .int u.2.2.2.1, .int u.2.2.2.2.2.2.2.1])), (i1, .inl (cL, 300, .inr (.inl u.2.2.2.2.2.2.2.2.2.2.2.1))), (t2, .inr (4, [.ref i2, .int u.2.2.2.2.1, .int u.2.2.2.2.2.2.2.2.1])), (i2, .inl (cL, 300, .inr (.inl u.2.2.2.2.2.2.2.2.2.2.2.2.1))), (t3, .inr (4, [.ref i3, .int u.2.2.2.2.2.1, .int u.2.2.2.2.2.2.2.2.2.1])), (i3, .inl (cL, 300, .inr (.inl u.2.2.2.2.2.2.2.2.2.2.2.2.2)))]) 0 0 := by
  refine kStart (cc := cX6_choose) (maxL := 5) (ret := (some .int)) (own := RX6) (by decide) rfl rfl (Nat.le_of_ble_eq_true rfl) ?_
  intro p e s m args below meth c A ls hx hb hr hml hown hts hlocks hnm hsz hA hG hP hD hS hl
  have hK := hG.1
  have hl : lv_has ls 5 [(0, .ref aU), (1, .int a), (2, .int t)] := hl
  have J24 : ∀ (z : Int32), ∀ (H : Heap) (locs : List Loc), va_P D vwCl [(aU, .inr (6, [.ref bT, .ref aD, .int ch, .int ww])), (bT, .inl (cT, 4, .inr (.inr (.inr (.inr (k4 t0 t1 t2 t3)))))), (t0, .inr (4, [.ref i0, .int n0, .int p0])), (i0, .inl (cL, 300, .inr (.inl f0))), (t1, .inr (4, [.ref i1, .int n1, .int p1])), (i1, .inl (cL, 300, .inr (.inl f1))), (t2, .inr (4, [.ref i2, .int n2, .int p2])), (i2, .inl (cL, 300, .inr (.inl f2))), (t3, .inr (4, [.ref i3, .int n3, .int p3])), (i3, .inl (cL, 300, .inr (.inl f3)))] H → va_D A [(aU, .inr (6, [.ref bT, .ref aD, .int ch, .int ww])), (bT, .inl (cT, 4, .inr (.inr (.inr (.inr (k4 t0 t1 t2 t3)))))), (t0, .inr (4, [.ref i0, .int n0, .int p0])), (i0, .inl (cL, 300, .inr (.inl f0))), (t1, .inr (4, [.ref i1, .int n1, .int p1])), (i1, .inl (cL, 300, .inr (.inl f1))), (t2, .inr (4, [.ref i2, .int n2, .int p2])), (i2, .inl (cL, 300, .inr (.inl f2))), (t3, .inr (4, [.ref i3, .int n3, .int p3])), (i3, .inl (cL, 300, .inr (.inl f3)))] → va_S A s.heap H locs → ∀ ls : Array Slot, lv_has ls 5 [(0, .ref aU), (1, .int a), (2, .int t)] → W p l e ({ frames := 3, cells := 0, slots := 0, locals := 63 }) s m args below meth c H locs 0 0 (MQ below (kQ (S := (Int32 × Int32 × Int32 × Int32 × Int32 × Int32 × Int32 × Int32 × Int32 × Int32 × (Nat → Int64) × (Nat → Int64) × (Nat → Int64) × (Nat → Int64))) eI (fun _ _ => True) D (fun u => [(aU, .inr (6, [.ref bT, .ref aD, .int u.1, .int u.2.1])), (bT, .inl (cT, 4, .inr (.inr (.inr (.inr (k4 t0 t1 t2 t3)))))), (t0, .inr (4, [.ref i0, .int u.2.2.1, .int u.2.2.2.2.2.2.1])), (i0, .inl (cL, 300, .inr (.inl u.2.2.2.2.2.2.2.2.2.2.1))), (t1, .inr (4, [.ref i1, .int u.2.2.2.1, .int u.2.2.2.2.2.2.2.1])), (i1, .inl (cL, 300, .inr (.inl u.2.2.2.2.2.2.2.2.2.2.2.1))), (t2, .inr (4, [.ref i2, .int u.2.2.2.2.1, .int u.2.2.2.2.2.2.2.2.1])), (i2, .inl (cL, 300, .inr (.inl u.2.2.2.2.2.2.2.2.2.2.2.2.1))), (t3, .inr (4, [.ref i3, .int u.2.2.2.2.2.1, .int u.2.2.2.2.2.2.2.2.2.1])), (i3, .inl (cL, 300, .inr (.inl u.2.2.2.2.2.2.2.2.2.2.2.2.2)))]) A) args s 0 0 A) (F0 m 24 ls [.int z]) := by
    intro z  H locs hP hD hS ls hl
    refine lv_istore_n (lv' := [(3, .int z), (0, .ref aU), (1, .int a), (2, .int t)]) hx hb dX6_choose_24 rfl hl (by decide) rfl (fun ls hl => ?_)
    refine lv_aload_n hx hb dX6_choose_25 rfl (lv_at hl 1 rfl) ?_
    refine lv_iload_n hx hb dX6_choose_26 rfl (lv_at hl 3 rfl) ?_
    refine lv_sipush (v := 256) hx hb dX6_choose_27 (by decide) ?_
    refine lv_isub hx hb dX6_choose_30 ?_
    refine kCallR (wr := [(t0, .inr (4, [.ref i0, .int n0, .int p0])), (i0, .inl (cL, 300, .inr (.inl f0))), (t1, .inr (4, [.ref i1, .int n1, .int p1])), (i1, .inl (cL, 300, .inr (.inl f1))), (t2, .inr (4, [.ref i2, .int n2, .int p2])), (i2, .inl (cL, 300, .inr (.inl f2))), (t3, .inr (4, [.ref i3, .int n3, .int p3])), (i3, .inl (cL, 300, .inr (.inl f3)))]) (va_runV (As := [.int (t - 256)]) (rest := []) ⟨hx, hb, hml, hown, hts⟩ (g_tapeAt l D cI cL cB cZ cT _ aU bT aD ch ww t0 t1 t2 t3 (t - 256)) (cwV 1 hts gX6_choose_X6_tapeAt rfl rfl rfl (by decide +kernel) ⟨Nat.le_of_ble_eq_true rfl, Nat.le_of_ble_eq_true rfl⟩) (kPreV hG hP hD [0, 1] rfl (by decide) 0 6 rfl rfl rfl) rfl rfl hl.1 rfl (lv_room (Nat.le_of_ble_eq_true rfl)) dX6_choose_31 ⟨Nat.le_of_ble_eq_true rfl, Nat.le_of_ble_eq_true rfl⟩) hA hP hD hS [0, 1] [2, 3, 4, 5, 6, 7, 8, 9] rfl rfl (by decide) (by decide) (fun r_1 u_r_1 H locs wr_1 hP hD hS => ?_)
    have hP : va_P D vwCl [(t0, .inr (4, [.ref i0, .int n0, .int p0])), (i0, .inl (cL, 300, .inr (.inl f0))), (t1, .inr (4, [.ref i1, .int n1, .int p1])), (i1, .inl (cL, 300, .inr (.inl f1))), (t2, .inr (4, [.ref i2, .int n2, .int p2])), (i2, .inl (cL, 300, .inr (.inl f2))), (t3, .inr (4, [.ref i3, .int n3, .int p3])), (i3, .inl (cL, 300, .inr (.inl f3))), (aU, .inr (6, [.ref bT, .ref aD, .int ch, .int ww])), (bT, .inl (cT, 4, .inr (.inr (.inr (.inr (k4 t0 t1 t2 t3))))))] H := hP
    have hD : va_D A [(t0, .inr (4, [.ref i0, .int n0, .int p0])), (i0, .inl (cL, 300, .inr (.inl f0))), (t1, .inr (4, [.ref i1, .int n1, .int p1])), (i1, .inl (cL, 300, .inr (.inl f1))), (t2, .inr (4, [.ref i2, .int n2, .int p2])), (i2, .inl (cL, 300, .inr (.inl f2))), (t3, .inr (4, [.ref i3, .int n3, .int p3])), (i3, .inl (cL, 300, .inr (.inl f3))), (aU, .inr (6, [.ref bT, .ref aD, .int ch, .int ww])), (bT, .inl (cT, 4, .inr (.inr (.inr (.inr (k4 t0 t1 t2 t3))))))] := hD
    try dsimp only at wr_1
    rcases wr_1 with rfl | rfl | rfl | rfl | rfl
    · show W _ _ _ _ _ _ _ _ _ _ _ _ _ _ _ (F0 _ _ _ (Value.null :: _))
      refine lv_astoreN (lv' := [(4, .null), (3, .int z), (0, .ref aU), (1, .int a), (2, .int t)]) hx hb dX6_choose_34 hl (by decide) rfl (fun ls hl => ?_)
      refine lv_iload_n hx hb dX6_choose_36 rfl (lv_at hl 1 rfl) ?_
      refine lv_if_ne (tgt := 47) hx hb dX6_choose_37 (by decide) (fun c_37_1 => ?_) (fun c_37_1 => ?_)
      · have t_37_1 := c_37_1
        try simp only [kb_eq0, kb_ne0, lg_cmp_lt, lg_cmp_le, lg_cmp_gt, lg_cmp_ge, lg_cmp_eq] at t_37_1
        try simp only [Int32.lt_iff_toInt_lt, Int32.le_iff_toInt_le, ← Int32.toInt_inj, Int64.lt_iff_toInt_lt, Int64.le_iff_toInt_le, ← Int64.toInt_inj, Int32.toInt_toInt64, Int32.reduceToInt, Int64.reduceToInt] at t_37_1
        refine lv_aload_n hx hb dX6_choose_47 rfl (lv_at hl 2 rfl) ?_
        refine kCallI (wr := []) (va_runV (As := []) (rest := []) ⟨hx, hb, hml, hown, hts⟩ (g_endRecord l D cI cL cB cZ cT _ aU bT aD ch ww t0 t1 t2 t3 i0 i1 i2 i3 n0 n1 n2 n3 p0 p1 p2 p3 f0 f1 f2 f3) (cwV 0 hts gX6_choose_X6_endRecord rfl rfl rfl (by decide +kernel) ⟨Nat.le_of_ble_eq_true rfl, Nat.le_of_ble_eq_true rfl⟩) (kPreV hG hP hD [8, 9, 0, 1, 2, 3, 4, 5, 6, 7] rfl (by decide) 0 6 rfl rfl rfl) rfl rfl hl.1 rfl (lv_room (Nat.le_of_ble_eq_true rfl)) dX6_choose_48 ⟨Nat.le_of_ble_eq_true rfl, Nat.le_of_ble_eq_true rfl⟩) hA hP hD hS [8, 9, 0, 1, 2, 3, 4, 5, 6, 7] [] rfl rfl (by decide) (by decide) (fun r_3 u_r_3 H locs wr_3 hP hD hS => ?_)
        have hP : va_P D vwCl [(aU, .inr (6, [.ref bT, .ref aD, .int u_r_3.1, .int u_r_3.2.1])), (bT, .inl (cT, 4, .inr (.inr (.inr (.inr (k4 t0 t1 t2 t3)))))), (t0, .inr (4, [.ref i0, .int u_r_3.2.2.1, .int u_r_3.2.2.2.2.2.2.1])), (i0, .inl (cL, 300, .inr (.inl u_r_3.2.2.2.2.2.2.2.2.2.2.1))), (t1, .inr (4, [.ref i1, .int u_r_3.2.2.2.1, .int u_r_3.2.2.2.2.2.2.2.1])), (i1, .inl (cL, 300, .inr (.inl u_r_3.2.2.2.2.2.2.2.2.2.2.2.1))), (t2, .inr (4, [.ref i2, .int u_r_3.2.2.2.2.1, .int u_r_3.2.2.2.2.2.2.2.2.1])), (i2, .inl (cL, 300, .inr (.inl u_r_3.2.2.2.2.2.2.2.2.2.2.2.2.1))), (t3, .inr (4, [.ref i3, .int u_r_3.2.2.2.2.2.1, .int u_r_3.2.2.2.2.2.2.2.2.2.1])), (i3, .inl (cL, 300, .inr (.inl u_r_3.2.2.2.2.2.2.2.2.2.2.2.2.2)))] H := hP
        have hD : va_D A [(aU, .inr (6, [.ref bT, .ref aD, .int u_r_3.1, .int u_r_3.2.1])), (bT, .inl (cT, 4, .inr (.inr (.inr (.inr (k4 t0 t1 t2 t3)))))), (t0, .inr (4, [.ref i0, .int u_r_3.2.2.1, .int u_r_3.2.2.2.2.2.2.1])), (i0, .inl (cL, 300, .inr (.inl u_r_3.2.2.2.2.2.2.2.2.2.2.1))), (t1, .inr (4, [.ref i1, .int u_r_3.2.2.2.1, .int u_r_3.2.2.2.2.2.2.2.1])), (i1, .inl (cL, 300, .inr (.inl u_r_3.2.2.2.2.2.2.2.2.2.2.2.1))), (t2, .inr (4, [.ref i2, .int u_r_3.2.2.2.2.1, .int u_r_3.2.2.2.2.2.2.2.2.1])), (i2, .inl (cL, 300, .inr (.inl u_r_3.2.2.2.2.2.2.2.2.2.2.2.2.1))), (t3, .inr (4, [.ref i3, .int u_r_3.2.2.2.2.2.1, .int u_r_3.2.2.2.2.2.2.2.2.2.1])), (i3, .inl (cL, 300, .inr (.inl u_r_3.2.2.2.2.2.2.2.2.2.2.2.2.2)))] := hD
        try dsimp only at wr_3
        refine lv_if_ne (tgt := 56) hx hb dX6_choose_51 (by decide) (fun c_51_3 => ?_) (fun c_51_3 => ?_)
        · have t_51_3 := c_51_3
          try simp only [kb_eq0, kb_ne0, lg_cmp_lt, lg_cmp_le, lg_cmp_gt, lg_cmp_ge, lg_cmp_eq] at t_51_3
          try simp only [Int32.lt_iff_toInt_lt, Int32.le_iff_toInt_le, ← Int32.toInt_inj, Int64.lt_iff_toInt_lt, Int64.le_iff_toInt_le, ← Int64.toInt_inj, Int32.toInt_toInt64, Int32.reduceToInt, Int64.reduceToInt] at t_51_3
          refine lv_aloadN hx hb dX6_choose_56 (lv_at hl 0 rfl) ?_
          refine lv_ifnonnullN hx hb dX6_choose_58 ?_
          refine lv_aload_n hx hb dX6_choose_61 rfl (lv_at hl 2 rfl) ?_
          refine lv_iload_n hx hb dX6_choose_62 rfl (lv_at hl 3 rfl) ?_
          refine lv_bipush (v := 24) hx hb dX6_choose_63 (by decide) ?_
          refine lv_icmp_ne (tgt := 73) hx hb dX6_choose_65 (by decide) (fun c_65_4 => ?_) (fun c_65_4 => ?_)
          · have t_65_4 := c_65_4
            try simp only [kb_eq0, kb_ne0, lg_cmp_lt, lg_cmp_le, lg_cmp_gt, lg_cmp_ge, lg_cmp_eq] at t_65_4
            try simp only [Int32.lt_iff_toInt_lt, Int32.le_iff_toInt_le, ← Int32.toInt_inj, Int64.lt_iff_toInt_lt, Int64.le_iff_toInt_le, ← Int64.toInt_inj, Int32.toInt_toInt64, Int32.reduceToInt, Int64.reduceToInt] at t_65_4
            refine lv_bipush (v := 14) hx hb dX6_choose_73 (by decide) ?_
            refine va_put (D := D) (ci := 6) (v := .int 14) (ty := .int) (C := RX6) (T := TX6) (N := 4) hx hb hts iX6_choose_X6 tyX6 tyX6_ok nmX6 hown hK hP hD hS 0 rfl rfl 2 (by decide) (hts (.fieldLink RX6 36 "TapeCalculator$Units" "chosen" "I") (List.mem_of_getElem? (i := 1) rfl)) (fun _ h9 => h9) rfl (by decide +kernel) rfl rfl (Nat.le_of_ble_eq_true rfl) dX6_choose_75 (fun H locs hP hD hS => ?_)
            have hP : va_P D vwCl [(aU, .inr (6, [.ref bT, .ref aD, .int 14, .int u_r_3.2.1])), (bT, .inl (cT, 4, .inr (.inr (.inr (.inr (k4 t0 t1 t2 t3)))))), (t0, .inr (4, [.ref i0, .int u_r_3.2.2.1, .int u_r_3.2.2.2.2.2.2.1])), (i0, .inl (cL, 300, .inr (.inl u_r_3.2.2.2.2.2.2.2.2.2.2.1))), (t1, .inr (4, [.ref i1, .int u_r_3.2.2.2.1, .int u_r_3.2.2.2.2.2.2.2.1])), (i1, .inl (cL, 300, .inr (.inl u_r_3.2.2.2.2.2.2.2.2.2.2.2.1))), (t2, .inr (4, [.ref i2, .int u_r_3.2.2.2.2.1, .int u_r_3.2.2.2.2.2.2.2.2.1])), (i2, .inl (cL, 300, .inr (.inl u_r_3.2.2.2.2.2.2.2.2.2.2.2.2.1))), (t3, .inr (4, [.ref i3, .int u_r_3.2.2.2.2.2.1, .int u_r_3.2.2.2.2.2.2.2.2.2.1])), (i3, .inl (cL, 300, .inr (.inl u_r_3.2.2.2.2.2.2.2.2.2.2.2.2.2)))] H := hP
            have hD : va_D A [(aU, .inr (6, [.ref bT, .ref aD, .int 14, .int u_r_3.2.1])), (bT, .inl (cT, 4, .inr (.inr (.inr (.inr (k4 t0 t1 t2 t3)))))), (t0, .inr (4, [.ref i0, .int u_r_3.2.2.1, .int u_r_3.2.2.2.2.2.2.1])), (i0, .inl (cL, 300, .inr (.inl u_r_3.2.2.2.2.2.2.2.2.2.2.1))), (t1, .inr (4, [.ref i1, .int u_r_3.2.2.2.1, .int u_r_3.2.2.2.2.2.2.2.1])), (i1, .inl (cL, 300, .inr (.inl u_r_3.2.2.2.2.2.2.2.2.2.2.2.1))), (t2, .inr (4, [.ref i2, .int u_r_3.2.2.2.2.1, .int u_r_3.2.2.2.2.2.2.2.2.1])), (i2, .inl (cL, 300, .inr (.inl u_r_3.2.2.2.2.2.2.2.2.2.2.2.2.1))), (t3, .inr (4, [.ref i3, .int u_r_3.2.2.2.2.2.1, .int u_r_3.2.2.2.2.2.2.2.2.2.1])), (i3, .inl (cL, 300, .inr (.inl u_r_3.2.2.2.2.2.2.2.2.2.2.2.2.2)))] := hD
            refine lv_iconst (v := 0) hx hb dX6_choose_78 (by decide) ?_
            refine kIret (u := (14, u_r_3.2.1, u_r_3.2.2.1, u_r_3.2.2.2.1, u_r_3.2.2.2.2.1, u_r_3.2.2.2.2.2.1, u_r_3.2.2.2.2.2.2.1, u_r_3.2.2.2.2.2.2.2.1, u_r_3.2.2.2.2.2.2.2.2.1, u_r_3.2.2.2.2.2.2.2.2.2.1, u_r_3.2.2.2.2.2.2.2.2.2.2.1, u_r_3.2.2.2.2.2.2.2.2.2.2.2.1, u_r_3.2.2.2.2.2.2.2.2.2.2.2.2.1, u_r_3.2.2.2.2.2.2.2.2.2.2.2.2.2)) hx hb hr rfl hlocks hS dX6_choose_79 ?_ (hP.sub [0, 1, 2, 3, 4, 5, 6, 7, 8, 9] rfl) (hD.sub [0, 1, 2, 3, 4, 5, 6, 7, 8, 9] (by decide) rfl)
            exact trivial
          · have t_65_4 := c_65_4
            try simp only [kb_eq0, kb_ne0, lg_cmp_lt, lg_cmp_le, lg_cmp_gt, lg_cmp_ge, lg_cmp_eq] at t_65_4
            try simp only [Int32.lt_iff_toInt_lt, Int32.le_iff_toInt_le, ← Int32.toInt_inj, Int64.lt_iff_toInt_lt, Int64.le_iff_toInt_le, ← Int64.toInt_inj, Int32.toInt_toInt64, Int32.reduceToInt, Int64.reduceToInt] at t_65_4
            refine lv_bipush (v := 13) hx hb dX6_choose_68 (by decide) ?_
            refine lv_goto (tgt := 75) hx hb dX6_choose_70 (by decide) ?_
            refine va_put (D := D) (ci := 6) (v := .int 13) (ty := .int) (C := RX6) (T := TX6) (N := 4) hx hb hts iX6_choose_X6 tyX6 tyX6_ok nmX6 hown hK hP hD hS 0 rfl rfl 2 (by decide) (hts (.fieldLink RX6 36 "TapeCalculator$Units" "chosen" "I") (List.mem_of_getElem? (i := 1) rfl)) (fun _ h9 => h9) rfl (by decide +kernel) rfl rfl (Nat.le_of_ble_eq_true rfl) dX6_choose_75 (fun H locs hP hD hS => ?_)
            have hP : va_P D vwCl [(aU, .inr (6, [.ref bT, .ref aD, .int 13, .int u_r_3.2.1])), (bT, .inl (cT, 4, .inr (.inr (.inr (.inr (k4 t0 t1 t2 t3)))))), (t0, .inr (4, [.ref i0, .int u_r_3.2.2.1, .int u_r_3.2.2.2.2.2.2.1])), (i0, .inl (cL, 300, .inr (.inl u_r_3.2.2.2.2.2.2.2.2.2.2.1))), (t1, .inr (4, [.ref i1, .int u_r_3.2.2.2.1, .int u_r_3.2.2.2.2.2.2.2.1])), (i1, .inl (cL, 300, .inr (.inl u_r_3.2.2.2.2.2.2.2.2.2.2.2.1))), (t2, .inr (4, [.ref i2, .int u_r_3.2.2.2.2.1, .int u_r_3.2.2.2.2.2.2.2.2.1])), (i2, .inl (cL, 300, .inr (.inl u_r_3.2.2.2.2.2.2.2.2.2.2.2.2.1))), (t3, .inr (4, [.ref i3, .int u_r_3.2.2.2.2.2.1, .int u_r_3.2.2.2.2.2.2.2.2.2.1])), (i3, .inl (cL, 300, .inr (.inl u_r_3.2.2.2.2.2.2.2.2.2.2.2.2.2)))] H := hP
            have hD : va_D A [(aU, .inr (6, [.ref bT, .ref aD, .int 13, .int u_r_3.2.1])), (bT, .inl (cT, 4, .inr (.inr (.inr (.inr (k4 t0 t1 t2 t3)))))), (t0, .inr (4, [.ref i0, .int u_r_3.2.2.1, .int u_r_3.2.2.2.2.2.2.1])), (i0, .inl (cL, 300, .inr (.inl u_r_3.2.2.2.2.2.2.2.2.2.2.1))), (t1, .inr (4, [.ref i1, .int u_r_3.2.2.2.1, .int u_r_3.2.2.2.2.2.2.2.1])), (i1, .inl (cL, 300, .inr (.inl u_r_3.2.2.2.2.2.2.2.2.2.2.2.1))), (t2, .inr (4, [.ref i2, .int u_r_3.2.2.2.2.1, .int u_r_3.2.2.2.2.2.2.2.2.1])), (i2, .inl (cL, 300, .inr (.inl u_r_3.2.2.2.2.2.2.2.2.2.2.2.2.1))), (t3, .inr (4, [.ref i3, .int u_r_3.2.2.2.2.2.1, .int u_r_3.2.2.2.2.2.2.2.2.2.1])), (i3, .inl (cL, 300, .inr (.inl u_r_3.2.2.2.2.2.2.2.2.2.2.2.2.2)))] := hD
            refine lv_iconst (v := 0) hx hb dX6_choose_78 (by decide) ?_
            refine kIret (u := (13, u_r_3.2.1, u_r_3.2.2.1, u_r_3.2.2.2.1, u_r_3.2.2.2.2.1, u_r_3.2.2.2.2.2.1, u_r_3.2.2.2.2.2.2.1, u_r_3.2.2.2.2.2.2.2.1, u_r_3.2.2.2.2.2.2.2.2.1, u_r_3.2.2.2.2.2.2.2.2.2.1, u_r_3.2.2.2.2.2.2.2.2.2.2.1, u_r_3.2.2.2.2.2.2.2.2.2.2.2.1, u_r_3.2.2.2.2.2.2.2.2.2.2.2.2.1, u_r_3.2.2.2.2.2.2.2.2.2.2.2.2.2)) hx hb hr rfl hlocks hS dX6_choose_79 ?_ (hP.sub [0, 1, 2, 3, 4, 5, 6, 7, 8, 9] rfl) (hD.sub [0, 1, 2, 3, 4, 5, 6, 7, 8, 9] (by decide) rfl)
            exact trivial
        · have t_51_3 := c_51_3
          try simp only [kb_eq0, kb_ne0, lg_cmp_lt, lg_cmp_le, lg_cmp_gt, lg_cmp_ge, lg_cmp_eq] at t_51_3
          try simp only [Int32.lt_iff_toInt_lt, Int32.le_iff_toInt_le, ← Int32.toInt_inj, Int64.lt_iff_toInt_lt, Int64.le_iff_toInt_le, ← Int64.toInt_inj, Int32.toInt_toInt64, Int32.reduceToInt, Int64.reduceToInt] at t_51_3
          refine lv_iconst (v := 5) hx hb dX6_choose_54 (by decide) ?_
          refine kIret (u := (u_r_3.1, u_r_3.2.1, u_r_3.2.2.1, u_r_3.2.2.2.1, u_r_3.2.2.2.2.1, u_r_3.2.2.2.2.2.1, u_r_3.2.2.2.2.2.2.1, u_r_3.2.2.2.2.2.2.2.1, u_r_3.2.2.2.2.2.2.2.2.1, u_r_3.2.2.2.2.2.2.2.2.2.1, u_r_3.2.2.2.2.2.2.2.2.2.2.1, u_r_3.2.2.2.2.2.2.2.2.2.2.2.1, u_r_3.2.2.2.2.2.2.2.2.2.2.2.2.1, u_r_3.2.2.2.2.2.2.2.2.2.2.2.2.2)) hx hb hr rfl hlocks hS dX6_choose_55 ?_ (hP.sub [0, 1, 2, 3, 4, 5, 6, 7, 8, 9] rfl) (hD.sub [0, 1, 2, 3, 4, 5, 6, 7, 8, 9] (by decide) rfl)
          exact trivial
      · have t_37_1 := c_37_1
        try simp only [kb_eq0, kb_ne0, lg_cmp_lt, lg_cmp_le, lg_cmp_gt, lg_cmp_ge, lg_cmp_eq] at t_37_1
        try simp only [Int32.lt_iff_toInt_lt, Int32.le_iff_toInt_le, ← Int32.toInt_inj, Int64.lt_iff_toInt_lt, Int64.le_iff_toInt_le, ← Int64.toInt_inj, Int32.toInt_toInt64, Int32.reduceToInt, Int64.reduceToInt] at t_37_1
        refine lv_aloadN hx hb dX6_choose_40 (lv_at hl 0 rfl) ?_
        refine lv_ifnonnullN hx hb dX6_choose_42 ?_
        refine lv_iconst (v := 4) hx hb dX6_choose_45 (by decide) ?_
        refine kIret (u := (ch, ww, n0, n1, n2, n3, p0, p1, p2, p3, f0, f1, f2, f3)) hx hb hr rfl hlocks hS dX6_choose_46 ?_ (hP.sub [8, 9, 0, 1, 2, 3, 4, 5, 6, 7] rfl) (hD.sub [8, 9, 0, 1, 2, 3, 4, 5, 6, 7] (by decide) rfl)
        exact trivial
    · show W _ _ _ _ _ _ _ _ _ _ _ _ _ _ _ (F0 _ _ _ (Value.ref t0 :: _))
      refine lv_astore (lv' := [(4, .ref t0), (3, .int z), (0, .ref aU), (1, .int a), (2, .int t)]) hx hb dX6_choose_34 hl (by decide) rfl (fun ls hl => ?_)
      refine lv_iload_n hx hb dX6_choose_36 rfl (lv_at hl 1 rfl) ?_
      refine lv_if_ne (tgt := 47) hx hb dX6_choose_37 (by decide) (fun c_37_5 => ?_) (fun c_37_5 => ?_)
      · have t_37_5 := c_37_5
        try simp only [kb_eq0, kb_ne0, lg_cmp_lt, lg_cmp_le, lg_cmp_gt, lg_cmp_ge, lg_cmp_eq] at t_37_5
        try simp only [Int32.lt_iff_toInt_lt, Int32.le_iff_toInt_le, ← Int32.toInt_inj, Int64.lt_iff_toInt_lt, Int64.le_iff_toInt_le, ← Int64.toInt_inj, Int32.toInt_toInt64, Int32.reduceToInt, Int64.reduceToInt] at t_37_5
        refine lv_aload_n hx hb dX6_choose_47 rfl (lv_at hl 2 rfl) ?_
        refine kCallI (wr := []) (va_runV (As := []) (rest := []) ⟨hx, hb, hml, hown, hts⟩ (g_endRecord l D cI cL cB cZ cT _ aU bT aD ch ww t0 t1 t2 t3 i0 i1 i2 i3 n0 n1 n2 n3 p0 p1 p2 p3 f0 f1 f2 f3) (cwV 0 hts gX6_choose_X6_endRecord rfl rfl rfl (by decide +kernel) ⟨Nat.le_of_ble_eq_true rfl, Nat.le_of_ble_eq_true rfl⟩) (kPreV hG hP hD [8, 9, 0, 1, 2, 3, 4, 5, 6, 7] rfl (by decide) 0 6 rfl rfl rfl) rfl rfl hl.1 rfl (lv_room (Nat.le_of_ble_eq_true rfl)) dX6_choose_48 ⟨Nat.le_of_ble_eq_true rfl, Nat.le_of_ble_eq_true rfl⟩) hA hP hD hS [8, 9, 0, 1, 2, 3, 4, 5, 6, 7] [] rfl rfl (by decide) (by decide) (fun r_7 u_r_7 H locs wr_7 hP hD hS => ?_)
        have hP : va_P D vwCl [(aU, .inr (6, [.ref bT, .ref aD, .int u_r_7.1, .int u_r_7.2.1])), (bT, .inl (cT, 4, .inr (.inr (.inr (.inr (k4 t0 t1 t2 t3)))))), (t0, .inr (4, [.ref i0, .int u_r_7.2.2.1, .int u_r_7.2.2.2.2.2.2.1])), (i0, .inl (cL, 300, .inr (.inl u_r_7.2.2.2.2.2.2.2.2.2.2.1))), (t1, .inr (4, [.ref i1, .int u_r_7.2.2.2.1, .int u_r_7.2.2.2.2.2.2.2.1])), (i1, .inl (cL, 300, .inr (.inl u_r_7.2.2.2.2.2.2.2.2.2.2.2.1))), (t2, .inr (4, [.ref i2, .int u_r_7.2.2.2.2.1, .int u_r_7.2.2.2.2.2.2.2.2.1])), (i2, .inl (cL, 300, .inr (.inl u_r_7.2.2.2.2.2.2.2.2.2.2.2.2.1))), (t3, .inr (4, [.ref i3, .int u_r_7.2.2.2.2.2.1, .int u_r_7.2.2.2.2.2.2.2.2.2.1])), (i3, .inl (cL, 300, .inr (.inl u_r_7.2.2.2.2.2.2.2.2.2.2.2.2.2)))] H := hP
        have hD : va_D A [(aU, .inr (6, [.ref bT, .ref aD, .int u_r_7.1, .int u_r_7.2.1])), (bT, .inl (cT, 4, .inr (.inr (.inr (.inr (k4 t0 t1 t2 t3)))))), (t0, .inr (4, [.ref i0, .int u_r_7.2.2.1, .int u_r_7.2.2.2.2.2.2.1])), (i0, .inl (cL, 300, .inr (.inl u_r_7.2.2.2.2.2.2.2.2.2.2.1))), (t1, .inr (4, [.ref i1, .int u_r_7.2.2.2.1, .int u_r_7.2.2.2.2.2.2.2.1])), (i1, .inl (cL, 300, .inr (.inl u_r_7.2.2.2.2.2.2.2.2.2.2.2.1))), (t2, .inr (4, [.ref i2, .int u_r_7.2.2.2.2.1, .int u_r_7.2.2.2.2.2.2.2.2.1])), (i2, .inl (cL, 300, .inr (.inl u_r_7.2.2.2.2.2.2.2.2.2.2.2.2.1))), (t3, .inr (4, [.ref i3, .int u_r_7.2.2.2.2.2.1, .int u_r_7.2.2.2.2.2.2.2.2.2.1])), (i3, .inl (cL, 300, .inr (.inl u_r_7.2.2.2.2.2.2.2.2.2.2.2.2.2)))] := hD
        try dsimp only at wr_7
        refine lv_if_ne (tgt := 56) hx hb dX6_choose_51 (by decide) (fun c_51_7 => ?_) (fun c_51_7 => ?_)
        · have t_51_7 := c_51_7
          try simp only [kb_eq0, kb_ne0, lg_cmp_lt, lg_cmp_le, lg_cmp_gt, lg_cmp_ge, lg_cmp_eq] at t_51_7
          try simp only [Int32.lt_iff_toInt_lt, Int32.le_iff_toInt_le, ← Int32.toInt_inj, Int64.lt_iff_toInt_lt, Int64.le_iff_toInt_le, ← Int64.toInt_inj, Int32.toInt_toInt64, Int32.reduceToInt, Int64.reduceToInt] at t_51_7
          refine lv_aload hx hb dX6_choose_56 (lv_at hl 0 rfl) ?_
          refine lv_ifnonnull (tgt := 80) hx hb dX6_choose_58 (by decide) ?_
          refine lv_aload_n hx hb dX6_choose_80 rfl (lv_at hl 2 rfl) ?_
          refine lv_iload_n hx hb dX6_choose_81 rfl (lv_at hl 3 rfl) ?_
          refine lv_aload hx hb dX6_choose_82 (lv_at hl 0 rfl) ?_
          refine lv_iload_n hx hb dX6_choose_84 rfl (lv_at hl 4 rfl) ?_
          refine lv_sipush (v := 256) hx hb dX6_choose_85 (by decide) ?_
          refine lv_isub hx hb dX6_choose_88 ?_
          refine kCallI (wr := [(bT, .inl (cT, 4, .inr (.inr (.inr (.inr (k4 t0 t1 t2 t3)))))), (t1, .inr (4, [.ref i1, .int u_r_7.2.2.2.1, .int u_r_7.2.2.2.2.2.2.2.1])), (i1, .inl (cL, 300, .inr (.inl u_r_7.2.2.2.2.2.2.2.2.2.2.2.1))), (t2, .inr (4, [.ref i2, .int u_r_7.2.2.2.2.1, .int u_r_7.2.2.2.2.2.2.2.2.1])), (i2, .inl (cL, 300, .inr (.inl u_r_7.2.2.2.2.2.2.2.2.2.2.2.2.1))), (t3, .inr (4, [.ref i3, .int u_r_7.2.2.2.2.2.1, .int u_r_7.2.2.2.2.2.2.2.2.2.1])), (i3, .inl (cL, 300, .inr (.inl u_r_7.2.2.2.2.2.2.2.2.2.2.2.2.2)))]) (va_runV (As := [.int a, .ref t0, .int (t - 256)]) (rest := []) ⟨hx, hb, hml, hown, hts⟩ (g_chooseTape l D cI cL cB cZ cT _ aU bT aD (u_r_7.1) (u_r_7.2.1) t0 i0 (u_r_7.2.2.1) (u_r_7.2.2.2.2.2.2.1) (u_r_7.2.2.2.2.2.2.2.2.2.2.1) a (t - 256)) (cwV 3 hts gX6_choose_X6_chooseTape rfl rfl rfl (by decide +kernel) ⟨Nat.le_of_ble_eq_true rfl, Nat.le_of_ble_eq_true rfl⟩) (kPreV hG hP hD [0, 2, 3] rfl (by decide) 0 6 rfl rfl rfl) rfl rfl hl.1 rfl (lv_room (Nat.le_of_ble_eq_true rfl)) dX6_choose_89 ⟨Nat.le_of_ble_eq_true rfl, Nat.le_of_ble_eq_true rfl⟩) hA hP hD hS [0, 2, 3] [1, 4, 5, 6, 7, 8, 9] rfl rfl (by decide) (by decide) (fun r_9 u_r_9 H locs wr_9 hP hD hS => ?_)
          have hP : va_P D vwCl [(bT, .inl (cT, 4, .inr (.inr (.inr (.inr (k4 t0 t1 t2 t3)))))), (t1, .inr (4, [.ref i1, .int u_r_7.2.2.2.1, .int u_r_7.2.2.2.2.2.2.2.1])), (i1, .inl (cL, 300, .inr (.inl u_r_7.2.2.2.2.2.2.2.2.2.2.2.1))), (t2, .inr (4, [.ref i2, .int u_r_7.2.2.2.2.1, .int u_r_7.2.2.2.2.2.2.2.2.1])), (i2, .inl (cL, 300, .inr (.inl u_r_7.2.2.2.2.2.2.2.2.2.2.2.2.1))), (t3, .inr (4, [.ref i3, .int u_r_7.2.2.2.2.2.1, .int u_r_7.2.2.2.2.2.2.2.2.2.1])), (i3, .inl (cL, 300, .inr (.inl u_r_7.2.2.2.2.2.2.2.2.2.2.2.2.2))), (aU, .inr (6, [.ref bT, .ref aD, .int u_r_9.1, .int u_r_9.2.1])), (t0, .inr (4, [.ref i0, .int u_r_9.2.2.1, .int u_r_9.2.2.2.1])), (i0, .inl (cL, 300, .inr (.inl u_r_9.2.2.2.2)))] H := hP
          have hD : va_D A [(bT, .inl (cT, 4, .inr (.inr (.inr (.inr (k4 t0 t1 t2 t3)))))), (t1, .inr (4, [.ref i1, .int u_r_7.2.2.2.1, .int u_r_7.2.2.2.2.2.2.2.1])), (i1, .inl (cL, 300, .inr (.inl u_r_7.2.2.2.2.2.2.2.2.2.2.2.1))), (t2, .inr (4, [.ref i2, .int u_r_7.2.2.2.2.1, .int u_r_7.2.2.2.2.2.2.2.2.1])), (i2, .inl (cL, 300, .inr (.inl u_r_7.2.2.2.2.2.2.2.2.2.2.2.2.1))), (t3, .inr (4, [.ref i3, .int u_r_7.2.2.2.2.2.1, .int u_r_7.2.2.2.2.2.2.2.2.2.1])), (i3, .inl (cL, 300, .inr (.inl u_r_7.2.2.2.2.2.2.2.2.2.2.2.2.2))), (aU, .inr (6, [.ref bT, .ref aD, .int u_r_9.1, .int u_r_9.2.1])), (t0, .inr (4, [.ref i0, .int u_r_9.2.2.1, .int u_r_9.2.2.2.1])), (i0, .inl (cL, 300, .inr (.inl u_r_9.2.2.2.2)))] := hD
          try dsimp only at wr_9
          refine kIret (u := (u_r_9.1, u_r_9.2.1, u_r_9.2.2.1, u_r_7.2.2.2.1, u_r_7.2.2.2.2.1, u_r_7.2.2.2.2.2.1, u_r_9.2.2.2.1, u_r_7.2.2.2.2.2.2.2.1, u_r_7.2.2.2.2.2.2.2.2.1, u_r_7.2.2.2.2.2.2.2.2.2.1, u_r_9.2.2.2.2, u_r_7.2.2.2.2.2.2.2.2.2.2.2.1, u_r_7.2.2.2.2.2.2.2.2.2.2.2.2.1, u_r_7.2.2.2.2.2.2.2.2.2.2.2.2.2)) hx hb hr rfl hlocks hS dX6_choose_92 ?_ (hP.sub [7, 0, 8, 9, 1, 2, 3, 4, 5, 6] rfl) (hD.sub [7, 0, 8, 9, 1, 2, 3, 4, 5, 6] (by decide) rfl)
          exact trivial
        · have t_51_7 := c_51_7
          try simp only [kb_eq0, kb_ne0, lg_cmp_lt, lg_cmp_le, lg_cmp_gt, lg_cmp_ge, lg_cmp_eq] at t_51_7
          try simp only [Int32.lt_iff_toInt_lt, Int32.le_iff_toInt_le, ← Int32.toInt_inj, Int64.lt_iff_toInt_lt, Int64.le_iff_toInt_le, ← Int64.toInt_inj, Int32.toInt_toInt64, Int32.reduceToInt, Int64.reduceToInt] at t_51_7
          refine lv_iconst (v := 5) hx hb dX6_choose_54 (by decide) ?_
          refine kIret (u := (u_r_7.1, u_r_7.2.1, u_r_7.2.2.1, u_r_7.2.2.2.1, u_r_7.2.2.2.2.1, u_r_7.2.2.2.2.2.1, u_r_7.2.2.2.2.2.2.1, u_r_7.2.2.2.2.2.2.2.1, u_r_7.2.2.2.2.2.2.2.2.1, u_r_7.2.2.2.2.2.2.2.2.2.1, u_r_7.2.2.2.2.2.2.2.2.2.2.1, u_r_7.2.2.2.2.2.2.2.2.2.2.2.1, u_r_7.2.2.2.2.2.2.2.2.2.2.2.2.1, u_r_7.2.2.2.2.2.2.2.2.2.2.2.2.2)) hx hb hr rfl hlocks hS dX6_choose_55 ?_ (hP.sub [0, 1, 2, 3, 4, 5, 6, 7, 8, 9] rfl) (hD.sub [0, 1, 2, 3, 4, 5, 6, 7, 8, 9] (by decide) rfl)
          exact trivial
      · have t_37_5 := c_37_5
        try simp only [kb_eq0, kb_ne0, lg_cmp_lt, lg_cmp_le, lg_cmp_gt, lg_cmp_ge, lg_cmp_eq] at t_37_5
        try simp only [Int32.lt_iff_toInt_lt, Int32.le_iff_toInt_le, ← Int32.toInt_inj, Int64.lt_iff_toInt_lt, Int64.le_iff_toInt_le, ← Int64.toInt_inj, Int32.toInt_toInt64, Int32.reduceToInt, Int64.reduceToInt] at t_37_5
        refine lv_aload hx hb dX6_choose_40 (lv_at hl 0 rfl) ?_
        refine lv_ifnonnull (tgt := 47) hx hb dX6_choose_42 (by decide) ?_
        refine lv_aload_n hx hb dX6_choose_47 rfl (lv_at hl 2 rfl) ?_
        refine kCallI (wr := []) (va_runV (As := []) (rest := []) ⟨hx, hb, hml, hown, hts⟩ (g_endRecord l D cI cL cB cZ cT _ aU bT aD ch ww t0 t1 t2 t3 i0 i1 i2 i3 n0 n1 n2 n3 p0 p1 p2 p3 f0 f1 f2 f3) (cwV 0 hts gX6_choose_X6_endRecord rfl rfl rfl (by decide +kernel) ⟨Nat.le_of_ble_eq_true rfl, Nat.le_of_ble_eq_true rfl⟩) (kPreV hG hP hD [8, 9, 0, 1, 2, 3, 4, 5, 6, 7] rfl (by decide) 0 6 rfl rfl rfl) rfl rfl hl.1 rfl (lv_room (Nat.le_of_ble_eq_true rfl)) dX6_choose_48 ⟨Nat.le_of_ble_eq_true rfl, Nat.le_of_ble_eq_true rfl⟩) hA hP hD hS [8, 9, 0, 1, 2, 3, 4, 5, 6, 7] [] rfl rfl (by decide) (by decide) (fun r_10 u_r_10 H locs wr_10 hP hD hS => ?_)
        have hP : va_P D vwCl [(aU, .inr (6, [.ref bT, .ref aD, .int u_r_10.1, .int u_r_10.2.1])), (bT, .inl (cT, 4, .inr (.inr (.inr (.inr (k4 t0 t1 t2 t3)))))), (t0, .inr (4, [.ref i0, .int u_r_10.2.2.1, .int u_r_10.2.2.2.2.2.2.1])), (i0, .inl (cL, 300, .inr (.inl u_r_10.2.2.2.2.2.2.2.2.2.2.1))), (t1, .inr (4, [.ref i1, .int u_r_10.2.2.2.1, .int u_r_10.2.2.2.2.2.2.2.1])), (i1, .inl (cL, 300, .inr (.inl u_r_10.2.2.2.2.2.2.2.2.2.2.2.1))), (t2, .inr (4, [.ref i2, .int u_r_10.2.2.2.2.1, .int u_r_10.2.2.2.2.2.2.2.2.1])), (i2, .inl (cL, 300, .inr (.inl u_r_10.2.2.2.2.2.2.2.2.2.2.2.2.1))), (t3, .inr (4, [.ref i3, .int u_r_10.2.2.2.2.2.1, .int u_r_10.2.2.2.2.2.2.2.2.2.1])), (i3, .inl (cL, 300, .inr (.inl u_r_10.2.2.2.2.2.2.2.2.2.2.2.2.2)))] H := hP
        have hD : va_D A [(aU, .inr (6, [.ref bT, .ref aD, .int u_r_10.1, .int u_r_10.2.1])), (bT, .inl (cT, 4, .inr (.inr (.inr (.inr (k4 t0 t1 t2 t3)))))), (t0, .inr (4, [.ref i0, .int u_r_10.2.2.1, .int u_r_10.2.2.2.2.2.2.1])), (i0, .inl (cL, 300, .inr (.inl u_r_10.2.2.2.2.2.2.2.2.2.2.1))), (t1, .inr (4, [.ref i1, .int u_r_10.2.2.2.1, .int u_r_10.2.2.2.2.2.2.2.1])), (i1, .inl (cL, 300, .inr (.inl u_r_10.2.2.2.2.2.2.2.2.2.2.2.1))), (t2, .inr (4, [.ref i2, .int u_r_10.2.2.2.2.1, .int u_r_10.2.2.2.2.2.2.2.2.1])), (i2, .inl (cL, 300, .inr (.inl u_r_10.2.2.2.2.2.2.2.2.2.2.2.2.1))), (t3, .inr (4, [.ref i3, .int u_r_10.2.2.2.2.2.1, .int u_r_10.2.2.2.2.2.2.2.2.2.1])), (i3, .inl (cL, 300, .inr (.inl u_r_10.2.2.2.2.2.2.2.2.2.2.2.2.2)))] := hD
        try dsimp only at wr_10
        refine lv_if_ne (tgt := 56) hx hb dX6_choose_51 (by decide) (fun c_51_10 => ?_) (fun c_51_10 => ?_)
        · have t_51_10 := c_51_10
          try simp only [kb_eq0, kb_ne0, lg_cmp_lt, lg_cmp_le, lg_cmp_gt, lg_cmp_ge, lg_cmp_eq] at t_51_10
          try simp only [Int32.lt_iff_toInt_lt, Int32.le_iff_toInt_le, ← Int32.toInt_inj, Int64.lt_iff_toInt_lt, Int64.le_iff_toInt_le, ← Int64.toInt_inj, Int32.toInt_toInt64, Int32.reduceToInt, Int64.reduceToInt] at t_51_10
          refine lv_aload hx hb dX6_choose_56 (lv_at hl 0 rfl) ?_
          refine lv_ifnonnull (tgt := 80) hx hb dX6_choose_58 (by decide) ?_
          refine lv_aload_n hx hb dX6_choose_80 rfl (lv_at hl 2 rfl) ?_
          refine lv_iload_n hx hb dX6_choose_81 rfl (lv_at hl 3 rfl) ?_
          refine lv_aload hx hb dX6_choose_82 (lv_at hl 0 rfl) ?_
          refine lv_iload_n hx hb dX6_choose_84 rfl (lv_at hl 4 rfl) ?_
          refine lv_sipush (v := 256) hx hb dX6_choose_85 (by decide) ?_
          refine lv_isub hx hb dX6_choose_88 ?_
          refine kCallI (wr := [(bT, .inl (cT, 4, .inr (.inr (.inr (.inr (k4 t0 t1 t2 t3)))))), (t1, .inr (4, [.ref i1, .int u_r_10.2.2.2.1, .int u_r_10.2.2.2.2.2.2.2.1])), (i1, .inl (cL, 300, .inr (.inl u_r_10.2.2.2.2.2.2.2.2.2.2.2.1))), (t2, .inr (4, [.ref i2, .int u_r_10.2.2.2.2.1, .int u_r_10.2.2.2.2.2.2.2.2.1])), (i2, .inl (cL, 300, .inr (.inl u_r_10.2.2.2.2.2.2.2.2.2.2.2.2.1))), (t3, .inr (4, [.ref i3, .int u_r_10.2.2.2.2.2.1, .int u_r_10.2.2.2.2.2.2.2.2.2.1])), (i3, .inl (cL, 300, .inr (.inl u_r_10.2.2.2.2.2.2.2.2.2.2.2.2.2)))]) (va_runV (As := [.int a, .ref t0, .int (t - 256)]) (rest := []) ⟨hx, hb, hml, hown, hts⟩ (g_chooseTape l D cI cL cB cZ cT _ aU bT aD (u_r_10.1) (u_r_10.2.1) t0 i0 (u_r_10.2.2.1) (u_r_10.2.2.2.2.2.2.1) (u_r_10.2.2.2.2.2.2.2.2.2.2.1) a (t - 256)) (cwV 3 hts gX6_choose_X6_chooseTape rfl rfl rfl (by decide +kernel) ⟨Nat.le_of_ble_eq_true rfl, Nat.le_of_ble_eq_true rfl⟩) (kPreV hG hP hD [0, 2, 3] rfl (by decide) 0 6 rfl rfl rfl) rfl rfl hl.1 rfl (lv_room (Nat.le_of_ble_eq_true rfl)) dX6_choose_89 ⟨Nat.le_of_ble_eq_true rfl, Nat.le_of_ble_eq_true rfl⟩) hA hP hD hS [0, 2, 3] [1, 4, 5, 6, 7, 8, 9] rfl rfl (by decide) (by decide) (fun r_12 u_r_12 H locs wr_12 hP hD hS => ?_)
          have hP : va_P D vwCl [(bT, .inl (cT, 4, .inr (.inr (.inr (.inr (k4 t0 t1 t2 t3)))))), (t1, .inr (4, [.ref i1, .int u_r_10.2.2.2.1, .int u_r_10.2.2.2.2.2.2.2.1])), (i1, .inl (cL, 300, .inr (.inl u_r_10.2.2.2.2.2.2.2.2.2.2.2.1))), (t2, .inr (4, [.ref i2, .int u_r_10.2.2.2.2.1, .int u_r_10.2.2.2.2.2.2.2.2.1])), (i2, .inl (cL, 300, .inr (.inl u_r_10.2.2.2.2.2.2.2.2.2.2.2.2.1))), (t3, .inr (4, [.ref i3, .int u_r_10.2.2.2.2.2.1, .int u_r_10.2.2.2.2.2.2.2.2.2.1])), (i3, .inl (cL, 300, .inr (.inl u_r_10.2.2.2.2.2.2.2.2.2.2.2.2.2))), (aU, .inr (6, [.ref bT, .ref aD, .int u_r_12.1, .int u_r_12.2.1])), (t0, .inr (4, [.ref i0, .int u_r_12.2.2.1, .int u_r_12.2.2.2.1])), (i0, .inl (cL, 300, .inr (.inl u_r_12.2.2.2.2)))] H := hP
          have hD : va_D A [(bT, .inl (cT, 4, .inr (.inr (.inr (.inr (k4 t0 t1 t2 t3)))))), (t1, .inr (4, [.ref i1, .int u_r_10.2.2.2.1, .int u_r_10.2.2.2.2.2.2.2.1])), (i1, .inl (cL, 300, .inr (.inl u_r_10.2.2.2.2.2.2.2.2.2.2.2.1))), (t2, .inr (4, [.ref i2, .int u_r_10.2.2.2.2.1, .int u_r_10.2.2.2.2.2.2.2.2.1])), (i2, .inl (cL, 300, .inr (.inl u_r_10.2.2.2.2.2.2.2.2.2.2.2.2.1))), (t3, .inr (4, [.ref i3, .int u_r_10.2.2.2.2.2.1, .int u_r_10.2.2.2.2.2.2.2.2.2.1])), (i3, .inl (cL, 300, .inr (.inl u_r_10.2.2.2.2.2.2.2.2.2.2.2.2.2))), (aU, .inr (6, [.ref bT, .ref aD, .int u_r_12.1, .int u_r_12.2.1])), (t0, .inr (4, [.ref i0, .int u_r_12.2.2.1, .int u_r_12.2.2.2.1])), (i0, .inl (cL, 300, .inr (.inl u_r_12.2.2.2.2)))] := hD
          try dsimp only at wr_12
          refine kIret (u := (u_r_12.1, u_r_12.2.1, u_r_12.2.2.1, u_r_10.2.2.2.1, u_r_10.2.2.2.2.1, u_r_10.2.2.2.2.2.1, u_r_12.2.2.2.1, u_r_10.2.2.2.2.2.2.2.1, u_r_10.2.2.2.2.2.2.2.2.1, u_r_10.2.2.2.2.2.2.2.2.2.1, u_r_12.2.2.2.2, u_r_10.2.2.2.2.2.2.2.2.2.2.2.1, u_r_10.2.2.2.2.2.2.2.2.2.2.2.2.1, u_r_10.2.2.2.2.2.2.2.2.2.2.2.2.2)) hx hb hr rfl hlocks hS dX6_choose_92 ?_ (hP.sub [7, 0, 8, 9, 1, 2, 3, 4, 5, 6] rfl) (hD.sub [7, 0, 8, 9, 1, 2, 3, 4, 5, 6] (by decide) rfl)
          exact trivial
        · have t_51_10 := c_51_10
          try simp only [kb_eq0, kb_ne0, lg_cmp_lt, lg_cmp_le, lg_cmp_gt, lg_cmp_ge, lg_cmp_eq] at t_51_10
          try simp only [Int32.lt_iff_toInt_lt, Int32.le_iff_toInt_le, ← Int32.toInt_inj, Int64.lt_iff_toInt_lt, Int64.le_iff_toInt_le, ← Int64.toInt_inj, Int32.toInt_toInt64, Int32.reduceToInt, Int64.reduceToInt] at t_51_10
          refine lv_iconst (v := 5) hx hb dX6_choose_54 (by decide) ?_
          refine kIret (u := (u_r_10.1, u_r_10.2.1, u_r_10.2.2.1, u_r_10.2.2.2.1, u_r_10.2.2.2.2.1, u_r_10.2.2.2.2.2.1, u_r_10.2.2.2.2.2.2.1, u_r_10.2.2.2.2.2.2.2.1, u_r_10.2.2.2.2.2.2.2.2.1, u_r_10.2.2.2.2.2.2.2.2.2.1, u_r_10.2.2.2.2.2.2.2.2.2.2.1, u_r_10.2.2.2.2.2.2.2.2.2.2.2.1, u_r_10.2.2.2.2.2.2.2.2.2.2.2.2.1, u_r_10.2.2.2.2.2.2.2.2.2.2.2.2.2)) hx hb hr rfl hlocks hS dX6_choose_55 ?_ (hP.sub [0, 1, 2, 3, 4, 5, 6, 7, 8, 9] rfl) (hD.sub [0, 1, 2, 3, 4, 5, 6, 7, 8, 9] (by decide) rfl)
          exact trivial
    · show W _ _ _ _ _ _ _ _ _ _ _ _ _ _ _ (F0 _ _ _ (Value.ref t1 :: _))
      refine lv_astore (lv' := [(4, .ref t1), (3, .int z), (0, .ref aU), (1, .int a), (2, .int t)]) hx hb dX6_choose_34 hl (by decide) rfl (fun ls hl => ?_)
      refine lv_iload_n hx hb dX6_choose_36 rfl (lv_at hl 1 rfl) ?_
      refine lv_if_ne (tgt := 47) hx hb dX6_choose_37 (by decide) (fun c_37_12 => ?_) (fun c_37_12 => ?_)
      · have t_37_12 := c_37_12
        try simp only [kb_eq0, kb_ne0, lg_cmp_lt, lg_cmp_le, lg_cmp_gt, lg_cmp_ge, lg_cmp_eq] at t_37_12
        try simp only [Int32.lt_iff_toInt_lt, Int32.le_iff_toInt_le, ← Int32.toInt_inj, Int64.lt_iff_toInt_lt, Int64.le_iff_toInt_le, ← Int64.toInt_inj, Int32.toInt_toInt64, Int32.reduceToInt, Int64.reduceToInt] at t_37_12
        refine lv_aload_n hx hb dX6_choose_47 rfl (lv_at hl 2 rfl) ?_
        refine kCallI (wr := []) (va_runV (As := []) (rest := []) ⟨hx, hb, hml, hown, hts⟩ (g_endRecord l D cI cL cB cZ cT _ aU bT aD ch ww t0 t1 t2 t3 i0 i1 i2 i3 n0 n1 n2 n3 p0 p1 p2 p3 f0 f1 f2 f3) (cwV 0 hts gX6_choose_X6_endRecord rfl rfl rfl (by decide +kernel) ⟨Nat.le_of_ble_eq_true rfl, Nat.le_of_ble_eq_true rfl⟩) (kPreV hG hP hD [8, 9, 0, 1, 2, 3, 4, 5, 6, 7] rfl (by decide) 0 6 rfl rfl rfl) rfl rfl hl.1 rfl (lv_room (Nat.le_of_ble_eq_true rfl)) dX6_choose_48 ⟨Nat.le_of_ble_eq_true rfl, Nat.le_of_ble_eq_true rfl⟩) hA hP hD hS [8, 9, 0, 1, 2, 3, 4, 5, 6, 7] [] rfl rfl (by decide) (by decide) (fun r_14 u_r_14 H locs wr_14 hP hD hS => ?_)
        have hP : va_P D vwCl [(aU, .inr (6, [.ref bT, .ref aD, .int u_r_14.1, .int u_r_14.2.1])), (bT, .inl (cT, 4, .inr (.inr (.inr (.inr (k4 t0 t1 t2 t3)))))), (t0, .inr (4, [.ref i0, .int u_r_14.2.2.1, .int u_r_14.2.2.2.2.2.2.1])), (i0, .inl (cL, 300, .inr (.inl u_r_14.2.2.2.2.2.2.2.2.2.2.1))), (t1, .inr (4, [.ref i1, .int u_r_14.2.2.2.1, .int u_r_14.2.2.2.2.2.2.2.1])), (i1, .inl (cL, 300, .inr (.inl u_r_14.2.2.2.2.2.2.2.2.2.2.2.1))), (t2, .inr (4, [.ref i2, .int u_r_14.2.2.2.2.1, .int u_r_14.2.2.2.2.2.2.2.2.1])), (i2, .inl (cL, 300, .inr (.inl u_r_14.2.2.2.2.2.2.2.2.2.2.2.2.1))), (t3, .inr (4, [.ref i3, .int u_r_14.2.2.2.2.2.1, .int u_r_14.2.2.2.2.2.2.2.2.2.1])), (i3, .inl (cL, 300, .inr (.inl u_r_14.2.2.2.2.2.2.2.2.2.2.2.2.2)))] H := hP
        have hD : va_D A [(aU, .inr (6, [.ref bT, .ref aD, .int u_r_14.1, .int u_r_14.2.1])), (bT, .inl (cT, 4, .inr (.inr (.inr (.inr (k4 t0 t1 t2 t3)))))), (t0, .inr (4, [.ref i0, .int u_r_14.2.2.1, .int u_r_14.2.2.2.2.2.2.1])), (i0, .inl (cL, 300, .inr (.inl u_r_14.2.2.2.2.2.2.2.2.2.2.1))), (t1, .inr (4, [.ref i1, .int u_r_14.2.2.2.1, .int u_r_14.2.2.2.2.2.2.2.1])), (i1, .inl (cL, 300, .inr (.inl u_r_14.2.2.2.2.2.2.2.2.2.2.2.1))), (t2, .inr (4, [.ref i2, .int u_r_14.2.2.2.2.1, .int u_r_14.2.2.2.2.2.2.2.2.1])), (i2, .inl (cL, 300, .inr (.inl u_r_14.2.2.2.2.2.2.2.2.2.2.2.2.1))), (t3, .inr (4, [.ref i3, .int u_r_14.2.2.2.2.2.1, .int u_r_14.2.2.2.2.2.2.2.2.2.1])), (i3, .inl (cL, 300, .inr (.inl u_r_14.2.2.2.2.2.2.2.2.2.2.2.2.2)))] := hD
        try dsimp only at wr_14
        refine lv_if_ne (tgt := 56) hx hb dX6_choose_51 (by decide) (fun c_51_14 => ?_) (fun c_51_14 => ?_)
        · have t_51_14 := c_51_14
          try simp only [kb_eq0, kb_ne0, lg_cmp_lt, lg_cmp_le, lg_cmp_gt, lg_cmp_ge, lg_cmp_eq] at t_51_14
          try simp only [Int32.lt_iff_toInt_lt, Int32.le_iff_toInt_le, ← Int32.toInt_inj, Int64.lt_iff_toInt_lt, Int64.le_iff_toInt_le, ← Int64.toInt_inj, Int32.toInt_toInt64, Int32.reduceToInt, Int64.reduceToInt] at t_51_14
          refine lv_aload hx hb dX6_choose_56 (lv_at hl 0 rfl) ?_
          refine lv_ifnonnull (tgt := 80) hx hb dX6_choose_58 (by decide) ?_
          refine lv_aload_n hx hb dX6_choose_80 rfl (lv_at hl 2 rfl) ?_
          refine lv_iload_n hx hb dX6_choose_81 rfl (lv_at hl 3 rfl) ?_
          refine lv_aload hx hb dX6_choose_82 (lv_at hl 0 rfl) ?_
          refine lv_iload_n hx hb dX6_choose_84 rfl (lv_at hl 4 rfl) ?_
          refine lv_sipush (v := 256) hx hb dX6_choose_85 (by decide) ?_
          refine lv_isub hx hb dX6_choose_88 ?_
          refine kCallI (wr := [(bT, .inl (cT, 4, .inr (.inr (.inr (.inr (k4 t0 t1 t2 t3)))))), (t0, .inr (4, [.ref i0, .int u_r_14.2.2.1, .int u_r_14.2.2.2.2.2.2.1])), (i0, .inl (cL, 300, .inr (.inl u_r_14.2.2.2.2.2.2.2.2.2.2.1))), (t2, .inr (4, [.ref i2, .int u_r_14.2.2.2.2.1, .int u_r_14.2.2.2.2.2.2.2.2.1])), (i2, .inl (cL, 300, .inr (.inl u_r_14.2.2.2.2.2.2.2.2.2.2.2.2.1))), (t3, .inr (4, [.ref i3, .int u_r_14.2.2.2.2.2.1, .int u_r_14.2.2.2.2.2.2.2.2.2.1])), (i3, .inl (cL, 300, .inr (.inl u_r_14.2.2.2.2.2.2.2.2.2.2.2.2.2)))]) (va_runV (As := [.int a, .ref t1, .int (t - 256)]) (rest := []) ⟨hx, hb, hml, hown, hts⟩ (g_chooseTape l D cI cL cB cZ cT _ aU bT aD (u_r_14.1) (u_r_14.2.1) t1 i1 (u_r_14.2.2.2.1) (u_r_14.2.2.2.2.2.2.2.1) (u_r_14.2.2.2.2.2.2.2.2.2.2.2.1) a (t - 256)) (cwV 3 hts gX6_choose_X6_chooseTape rfl rfl rfl (by decide +kernel) ⟨Nat.le_of_ble_eq_true rfl, Nat.le_of_ble_eq_true rfl⟩) (kPreV hG hP hD [0, 4, 5] rfl (by decide) 0 6 rfl rfl rfl) rfl rfl hl.1 rfl (lv_room (Nat.le_of_ble_eq_true rfl)) dX6_choose_89 ⟨Nat.le_of_ble_eq_true rfl, Nat.le_of_ble_eq_true rfl⟩) hA hP hD hS [0, 4, 5] [1, 2, 3, 6, 7, 8, 9] rfl rfl (by decide) (by decide) (fun r_16 u_r_16 H locs wr_16 hP hD hS => ?_)
          have hP : va_P D vwCl [(bT, .inl (cT, 4, .inr (.inr (.inr (.inr (k4 t0 t1 t2 t3)))))), (t0, .inr (4, [.ref i0, .int u_r_14.2.2.1, .int u_r_14.2.2.2.2.2.2.1])), (i0, .inl (cL, 300, .inr (.inl u_r_14.2.2.2.2.2.2.2.2.2.2.1))), (t2, .inr (4, [.ref i2, .int u_r_14.2.2.2.2.1, .int u_r_14.2.2.2.2.2.2.2.2.1])), (i2, .inl (cL, 300, .inr (.inl u_r_14.2.2.2.2.2.2.2.2.2.2.2.2.1))), (t3, .inr (4, [.ref i3, .int u_r_14.2.2.2.2.2.1, .int u_r_14.2.2.2.2.2.2.2.2.2.1])), (i3, .inl (cL, 300, .inr (.inl u_r_14.2.2.2.2.2.2.2.2.2.2.2.2.2))), (aU, .inr (6, [.ref bT, .ref aD, .int u_r_16.1, .int u_r_16.2.1])), (t1, .inr (4, [.ref i1, .int u_r_16.2.2.1, .int u_r_16.2.2.2.1])), (i1, .inl (cL, 300, .inr (.inl u_r_16.2.2.2.2)))] H := hP
          have hD : va_D A [(bT, .inl (cT, 4, .inr (.inr (.inr (.inr (k4 t0 t1 t2 t3)))))), (t0, .inr (4, [.ref i0, .int u_r_14.2.2.1, .int u_r_14.2.2.2.2.2.2.1])), (i0, .inl (cL, 300, .inr (.inl u_r_14.2.2.2.2.2.2.2.2.2.2.1))), (t2, .inr (4, [.ref i2, .int u_r_14.2.2.2.2.1, .int u_r_14.2.2.2.2.2.2.2.2.1])), (i2, .inl (cL, 300, .inr (.inl u_r_14.2.2.2.2.2.2.2.2.2.2.2.2.1))), (t3, .inr (4, [.ref i3, .int u_r_14.2.2.2.2.2.1, .int u_r_14.2.2.2.2.2.2.2.2.2.1])), (i3, .inl (cL, 300, .inr (.inl u_r_14.2.2.2.2.2.2.2.2.2.2.2.2.2))), (aU, .inr (6, [.ref bT, .ref aD, .int u_r_16.1, .int u_r_16.2.1])), (t1, .inr (4, [.ref i1, .int u_r_16.2.2.1, .int u_r_16.2.2.2.1])), (i1, .inl (cL, 300, .inr (.inl u_r_16.2.2.2.2)))] := hD
          try dsimp only at wr_16
          refine kIret (u := (u_r_16.1, u_r_16.2.1, u_r_14.2.2.1, u_r_16.2.2.1, u_r_14.2.2.2.2.1, u_r_14.2.2.2.2.2.1, u_r_14.2.2.2.2.2.2.1, u_r_16.2.2.2.1, u_r_14.2.2.2.2.2.2.2.2.1, u_r_14.2.2.2.2.2.2.2.2.2.1, u_r_14.2.2.2.2.2.2.2.2.2.2.1, u_r_16.2.2.2.2, u_r_14.2.2.2.2.2.2.2.2.2.2.2.2.1, u_r_14.2.2.2.2.2.2.2.2.2.2.2.2.2)) hx hb hr rfl hlocks hS dX6_choose_92 ?_ (hP.sub [7, 0, 1, 2, 8, 9, 3, 4, 5, 6] rfl) (hD.sub [7, 0, 1, 2, 8, 9, 3, 4, 5, 6] (by decide) rfl)
          exact trivial
        · have t_51_14 := c_51_14
          try simp only [kb_eq0, kb_ne0, lg_cmp_lt, lg_cmp_le, lg_cmp_gt, lg_cmp_ge, lg_cmp_eq] at t_51_14
          try simp only [Int32.lt_iff_toInt_lt, Int32.le_iff_toInt_le, ← Int32.toInt_inj, Int64.lt_iff_toInt_lt, Int64.le_iff_toInt_le, ← Int64.toInt_inj, Int32.toInt_toInt64, Int32.reduceToInt, Int64.reduceToInt] at t_51_14
          refine lv_iconst (v := 5) hx hb dX6_choose_54 (by decide) ?_
          refine kIret (u := (u_r_14.1, u_r_14.2.1, u_r_14.2.2.1, u_r_14.2.2.2.1, u_r_14.2.2.2.2.1, u_r_14.2.2.2.2.2.1, u_r_14.2.2.2.2.2.2.1, u_r_14.2.2.2.2.2.2.2.1, u_r_14.2.2.2.2.2.2.2.2.1, u_r_14.2.2.2.2.2.2.2.2.2.1, u_r_14.2.2.2.2.2.2.2.2.2.2.1, u_r_14.2.2.2.2.2.2.2.2.2.2.2.1, u_r_14.2.2.2.2.2.2.2.2.2.2.2.2.1, u_r_14.2.2.2.2.2.2.2.2.2.2.2.2.2)) hx hb hr rfl hlocks hS dX6_choose_55 ?_ (hP.sub [0, 1, 2, 3, 4, 5, 6, 7, 8, 9] rfl) (hD.sub [0, 1, 2, 3, 4, 5, 6, 7, 8, 9] (by decide) rfl)
          exact trivial
      · have t_37_12 := c_37_12
        try simp only [kb_eq0, kb_ne0, lg_cmp_lt, lg_cmp_le, lg_cmp_gt, lg_cmp_ge, lg_cmp_eq] at t_37_12
        try simp only [Int32.lt_iff_toInt_lt, Int32.le_iff_toInt_le, ← Int32.toInt_inj, Int64.lt_iff_toInt_lt, Int64.le_iff_toInt_le, ← Int64.toInt_inj, Int32.toInt_toInt64, Int32.reduceToInt, Int64.reduceToInt] at t_37_12
        refine lv_aload hx hb dX6_choose_40 (lv_at hl 0 rfl) ?_
        refine lv_ifnonnull (tgt := 47) hx hb dX6_choose_42 (by decide) ?_
        refine lv_aload_n hx hb dX6_choose_47 rfl (lv_at hl 2 rfl) ?_
        refine kCallI (wr := []) (va_runV (As := []) (rest := []) ⟨hx, hb, hml, hown, hts⟩ (g_endRecord l D cI cL cB cZ cT _ aU bT aD ch ww t0 t1 t2 t3 i0 i1 i2 i3 n0 n1 n2 n3 p0 p1 p2 p3 f0 f1 f2 f3) (cwV 0 hts gX6_choose_X6_endRecord rfl rfl rfl (by decide +kernel) ⟨Nat.le_of_ble_eq_true rfl, Nat.le_of_ble_eq_true rfl⟩) (kPreV hG hP hD [8, 9, 0, 1, 2, 3, 4, 5, 6, 7] rfl (by decide) 0 6 rfl rfl rfl) rfl rfl hl.1 rfl (lv_room (Nat.le_of_ble_eq_true rfl)) dX6_choose_48 ⟨Nat.le_of_ble_eq_true rfl, Nat.le_of_ble_eq_true rfl⟩) hA hP hD hS [8, 9, 0, 1, 2, 3, 4, 5, 6, 7] [] rfl rfl (by decide) (by decide) (fun r_17 u_r_17 H locs wr_17 hP hD hS => ?_)
        have hP : va_P D vwCl [(aU, .inr (6, [.ref bT, .ref aD, .int u_r_17.1, .int u_r_17.2.1])), (bT, .inl (cT, 4, .inr (.inr (.inr (.inr (k4 t0 t1 t2 t3)))))), (t0, .inr (4, [.ref i0, .int u_r_17.2.2.1, .int u_r_17.2.2.2.2.2.2.1])), (i0, .inl (cL, 300, .inr (.inl u_r_17.2.2.2.2.2.2.2.2.2.2.1))), (t1, .inr (4, [.ref i1, .int u_r_17.2.2.2.1, .int u_r_17.2.2.2.2.2.2.2.1])), (i1, .inl (cL, 300, .inr (.inl u_r_17.2.2.2.2.2.2.2.2.2.2.2.1))), (t2, .inr (4, [.ref i2, .int u_r_17.2.2.2.2.1, .int u_r_17.2.2.2.2.2.2.2.2.1])), (i2, .inl (cL, 300, .inr (.inl u_r_17.2.2.2.2.2.2.2.2.2.2.2.2.1))), (t3, .inr (4, [.ref i3, .int u_r_17.2.2.2.2.2.1, .int u_r_17.2.2.2.2.2.2.2.2.2.1])), (i3, .inl (cL, 300, .inr (.inl u_r_17.2.2.2.2.2.2.2.2.2.2.2.2.2)))] H := hP
        have hD : va_D A [(aU, .inr (6, [.ref bT, .ref aD, .int u_r_17.1, .int u_r_17.2.1])), (bT, .inl (cT, 4, .inr (.inr (.inr (.inr (k4 t0 t1 t2 t3)))))), (t0, .inr (4, [.ref i0, .int u_r_17.2.2.1, .int u_r_17.2.2.2.2.2.2.1])), (i0, .inl (cL, 300, .inr (.inl u_r_17.2.2.2.2.2.2.2.2.2.2.1))), (t1, .inr (4, [.ref i1, .int u_r_17.2.2.2.1, .int u_r_17.2.2.2.2.2.2.2.1])), (i1, .inl (cL, 300, .inr (.inl u_r_17.2.2.2.2.2.2.2.2.2.2.2.1))), (t2, .inr (4, [.ref i2, .int u_r_17.2.2.2.2.1, .int u_r_17.2.2.2.2.2.2.2.2.1])), (i2, .inl (cL, 300, .inr (.inl u_r_17.2.2.2.2.2.2.2.2.2.2.2.2.1))), (t3, .inr (4, [.ref i3, .int u_r_17.2.2.2.2.2.1, .int u_r_17.2.2.2.2.2.2.2.2.2.1])), (i3, .inl (cL, 300, .inr (.inl u_r_17.2.2.2.2.2.2.2.2.2.2.2.2.2)))] := hD
        try dsimp only at wr_17
        refine lv_if_ne (tgt := 56) hx hb dX6_choose_51 (by decide) (fun c_51_17 => ?_) (fun c_51_17 => ?_)
        · have t_51_17 := c_51_17
          try simp only [kb_eq0, kb_ne0, lg_cmp_lt, lg_cmp_le, lg_cmp_gt, lg_cmp_ge, lg_cmp_eq] at t_51_17
          try simp only [Int32.lt_iff_toInt_lt, Int32.le_iff_toInt_le, ← Int32.toInt_inj, Int64.lt_iff_toInt_lt, Int64.le_iff_toInt_le, ← Int64.toInt_inj, Int32.toInt_toInt64, Int32.reduceToInt, Int64.reduceToInt] at t_51_17
          refine lv_aload hx hb dX6_choose_56 (lv_at hl 0 rfl) ?_
          refine lv_ifnonnull (tgt := 80) hx hb dX6_choose_58 (by decide) ?_
          refine lv_aload_n hx hb dX6_choose_80 rfl (lv_at hl 2 rfl) ?_
          refine lv_iload_n hx hb dX6_choose_81 rfl (lv_at hl 3 rfl) ?_
          refine lv_aload hx hb dX6_choose_82 (lv_at hl 0 rfl) ?_
          refine lv_iload_n hx hb dX6_choose_84 rfl (lv_at hl 4 rfl) ?_
          refine lv_sipush (v := 256) hx hb dX6_choose_85 (by decide) ?_
          refine lv_isub hx hb dX6_choose_88 ?_
          refine kCallI (wr := [(bT, .inl (cT, 4, .inr (.inr (.inr (.inr (k4 t0 t1 t2 t3)))))), (t0, .inr (4, [.ref i0, .int u_r_17.2.2.1, .int u_r_17.2.2.2.2.2.2.1])), (i0, .inl (cL, 300, .inr (.inl u_r_17.2.2.2.2.2.2.2.2.2.2.1))), (t2, .inr (4, [.ref i2, .int u_r_17.2.2.2.2.1, .int u_r_17.2.2.2.2.2.2.2.2.1])), (i2, .inl (cL, 300, .inr (.inl u_r_17.2.2.2.2.2.2.2.2.2.2.2.2.1))), (t3, .inr (4, [.ref i3, .int u_r_17.2.2.2.2.2.1, .int u_r_17.2.2.2.2.2.2.2.2.2.1])), (i3, .inl (cL, 300, .inr (.inl u_r_17.2.2.2.2.2.2.2.2.2.2.2.2.2)))]) (va_runV (As := [.int a, .ref t1, .int (t - 256)]) (rest := []) ⟨hx, hb, hml, hown, hts⟩ (g_chooseTape l D cI cL cB cZ cT _ aU bT aD (u_r_17.1) (u_r_17.2.1) t1 i1 (u_r_17.2.2.2.1) (u_r_17.2.2.2.2.2.2.2.1) (u_r_17.2.2.2.2.2.2.2.2.2.2.2.1) a (t - 256)) (cwV 3 hts gX6_choose_X6_chooseTape rfl rfl rfl (by decide +kernel) ⟨Nat.le_of_ble_eq_true rfl, Nat.le_of_ble_eq_true rfl⟩) (kPreV hG hP hD [0, 4, 5] rfl (by decide) 0 6 rfl rfl rfl) rfl rfl hl.1 rfl (lv_room (Nat.le_of_ble_eq_true rfl)) dX6_choose_89 ⟨Nat.le_of_ble_eq_true rfl, Nat.le_of_ble_eq_true rfl⟩) hA hP hD hS [0, 4, 5] [1, 2, 3, 6, 7, 8, 9] rfl rfl (by decide) (by decide) (fun r_19 u_r_19 H locs wr_19 hP hD hS => ?_)
          have hP : va_P D vwCl [(bT, .inl (cT, 4, .inr (.inr (.inr (.inr (k4 t0 t1 t2 t3)))))), (t0, .inr (4, [.ref i0, .int u_r_17.2.2.1, .int u_r_17.2.2.2.2.2.2.1])), (i0, .inl (cL, 300, .inr (.inl u_r_17.2.2.2.2.2.2.2.2.2.2.1))), (t2, .inr (4, [.ref i2, .int u_r_17.2.2.2.2.1, .int u_r_17.2.2.2.2.2.2.2.2.1])), (i2, .inl (cL, 300, .inr (.inl u_r_17.2.2.2.2.2.2.2.2.2.2.2.2.1))), (t3, .inr (4, [.ref i3, .int u_r_17.2.2.2.2.2.1, .int u_r_17.2.2.2.2.2.2.2.2.2.1])), (i3, .inl (cL, 300, .inr (.inl u_r_17.2.2.2.2.2.2.2.2.2.2.2.2.2))), (aU, .inr (6, [.ref bT, .ref aD, .int u_r_19.1, .int u_r_19.2.1])), (t1, .inr (4, [.ref i1, .int u_r_19.2.2.1, .int u_r_19.2.2.2.1])), (i1, .inl (cL, 300, .inr (.inl u_r_19.2.2.2.2)))] H := hP
          have hD : va_D A [(bT, .inl (cT, 4, .inr (.inr (.inr (.inr (k4 t0 t1 t2 t3)))))), (t0, .inr (4, [.ref i0, .int u_r_17.2.2.1, .int u_r_17.2.2.2.2.2.2.1])), (i0, .inl (cL, 300, .inr (.inl u_r_17.2.2.2.2.2.2.2.2.2.2.1))), (t2, .inr (4, [.ref i2, .int u_r_17.2.2.2.2.1, .int u_r_17.2.2.2.2.2.2.2.2.1])), (i2, .inl (cL, 300, .inr (.inl u_r_17.2.2.2.2.2.2.2.2.2.2.2.2.1))), (t3, .inr (4, [.ref i3, .int u_r_17.2.2.2.2.2.1, .int u_r_17.2.2.2.2.2.2.2.2.2.1])), (i3, .inl (cL, 300, .inr (.inl u_r_17.2.2.2.2.2.2.2.2.2.2.2.2.2))), (aU, .inr (6, [.ref bT, .ref aD, .int u_r_19.1, .int u_r_19.2.1])), (t1, .inr (4, [.ref i1, .int u_r_19.2.2.1, .int u_r_19.2.2.2.1])), (i1, .inl (cL, 300, .inr (.inl u_r_19.2.2.2.2)))] := hD
          try dsimp only at wr_19
          refine kIret (u := (u_r_19.1, u_r_19.2.1, u_r_17.2.2.1, u_r_19.2.2.1, u_r_17.2.2.2.2.1, u_r_17.2.2.2.2.2.1, u_r_17.2.2.2.2.2.2.1, u_r_19.2.2.2.1, u_r_17.2.2.2.2.2.2.2.2.1, u_r_17.2.2.2.2.2.2.2.2.2.1, u_r_17.2.2.2.2.2.2.2.2.2.2.1, u_r_19.2.2.2.2, u_r_17.2.2.2.2.2.2.2.2.2.2.2.2.1, u_r_17.2.2.2.2.2.2.2.2.2.2.2.2.2)) hx hb hr rfl hlocks hS dX6_choose_92 ?_ (hP.sub [7, 0, 1, 2, 8, 9, 3, 4, 5, 6] rfl) (hD.sub [7, 0, 1, 2, 8, 9, 3, 4, 5, 6] (by decide) rfl)
          exact trivial
        · have t_51_17 := c_51_17
          try simp only [kb_eq0, kb_ne0, lg_cmp_lt, lg_cmp_le, lg_cmp_gt, lg_cmp_ge, lg_cmp_eq] at t_51_17
          try simp only [Int32.lt_iff_toInt_lt, Int32.le_iff_toInt_le, ← Int32.toInt_inj, Int64.lt_iff_toInt_lt, Int64.le_iff_toInt_le, ← Int64.toInt_inj, Int32.toInt_toInt64, Int32.reduceToInt, Int64.reduceToInt] at t_51_17
          refine lv_iconst (v := 5) hx hb dX6_choose_54 (by decide) ?_
          refine kIret (u := (u_r_17.1, u_r_17.2.1, u_r_17.2.2.1, u_r_17.2.2.2.1, u_r_17.2.2.2.2.1, u_r_17.2.2.2.2.2.1, u_r_17.2.2.2.2.2.2.1, u_r_17.2.2.2.2.2.2.2.1, u_r_17.2.2.2.2.2.2.2.2.1, u_r_17.2.2.2.2.2.2.2.2.2.1, u_r_17.2.2.2.2.2.2.2.2.2.2.1, u_r_17.2.2.2.2.2.2.2.2.2.2.2.1, u_r_17.2.2.2.2.2.2.2.2.2.2.2.2.1, u_r_17.2.2.2.2.2.2.2.2.2.2.2.2.2)) hx hb hr rfl hlocks hS dX6_choose_55 ?_ (hP.sub [0, 1, 2, 3, 4, 5, 6, 7, 8, 9] rfl) (hD.sub [0, 1, 2, 3, 4, 5, 6, 7, 8, 9] (by decide) rfl)
          exact trivial
    · show W _ _ _ _ _ _ _ _ _ _ _ _ _ _ _ (F0 _ _ _ (Value.ref t2 :: _))
      refine lv_astore (lv' := [(4, .ref t2), (3, .int z), (0, .ref aU), (1, .int a), (2, .int t)]) hx hb dX6_choose_34 hl (by decide) rfl (fun ls hl => ?_)
      refine lv_iload_n hx hb dX6_choose_36 rfl (lv_at hl 1 rfl) ?_
      refine lv_if_ne (tgt := 47) hx hb dX6_choose_37 (by decide) (fun c_37_19 => ?_) (fun c_37_19 => ?_)
      · have t_37_19 := c_37_19
        try simp only [kb_eq0, kb_ne0, lg_cmp_lt, lg_cmp_le, lg_cmp_gt, lg_cmp_ge, lg_cmp_eq] at t_37_19
        try simp only [Int32.lt_iff_toInt_lt, Int32.le_iff_toInt_le, ← Int32.toInt_inj, Int64.lt_iff_toInt_lt, Int64.le_iff_toInt_le, ← Int64.toInt_inj, Int32.toInt_toInt64, Int32.reduceToInt, Int64.reduceToInt] at t_37_19
        refine lv_aload_n hx hb dX6_choose_47 rfl (lv_at hl 2 rfl) ?_
        refine kCallI (wr := []) (va_runV (As := []) (rest := []) ⟨hx, hb, hml, hown, hts⟩ (g_endRecord l D cI cL cB cZ cT _ aU bT aD ch ww t0 t1 t2 t3 i0 i1 i2 i3 n0 n1 n2 n3 p0 p1 p2 p3 f0 f1 f2 f3) (cwV 0 hts gX6_choose_X6_endRecord rfl rfl rfl (by decide +kernel) ⟨Nat.le_of_ble_eq_true rfl, Nat.le_of_ble_eq_true rfl⟩) (kPreV hG hP hD [8, 9, 0, 1, 2, 3, 4, 5, 6, 7] rfl (by decide) 0 6 rfl rfl rfl) rfl rfl hl.1 rfl (lv_room (Nat.le_of_ble_eq_true rfl)) dX6_choose_48 ⟨Nat.le_of_ble_eq_true rfl, Nat.le_of_ble_eq_true rfl⟩) hA hP hD hS [8, 9, 0, 1, 2, 3, 4, 5, 6, 7] [] rfl rfl (by decide) (by decide) (fun r_21 u_r_21 H locs wr_21 hP hD hS => ?_)
        have hP : va_P D vwCl [(aU, .inr (6, [.ref bT, .ref aD, .int u_r_21.1, .int u_r_21.2.1])), (bT, .inl (cT, 4, .inr (.inr (.inr (.inr (k4 t0 t1 t2 t3)))))), (t0, .inr (4, [.ref i0, .int u_r_21.2.2.1, .int u_r_21.2.2.2.2.2.2.1])), (i0, .inl (cL, 300, .inr (.inl u_r_21.2.2.2.2.2.2.2.2.2.2.1))), (t1, .inr (4, [.ref i1, .int u_r_21.2.2.2.1, .int u_r_21.2.2.2.2.2.2.2.1])), (i1, .inl (cL, 300, .inr (.inl u_r_21.2.2.2.2.2.2.2.2.2.2.2.1))), (t2, .inr (4, [.ref i2, .int u_r_21.2.2.2.2.1, .int u_r_21.2.2.2.2.2.2.2.2.1])), (i2, .inl (cL, 300, .inr (.inl u_r_21.2.2.2.2.2.2.2.2.2.2.2.2.1))), (t3, .inr (4, [.ref i3, .int u_r_21.2.2.2.2.2.1, .int u_r_21.2.2.2.2.2.2.2.2.2.1])), (i3, .inl (cL, 300, .inr (.inl u_r_21.2.2.2.2.2.2.2.2.2.2.2.2.2)))] H := hP
        have hD : va_D A [(aU, .inr (6, [.ref bT, .ref aD, .int u_r_21.1, .int u_r_21.2.1])), (bT, .inl (cT, 4, .inr (.inr (.inr (.inr (k4 t0 t1 t2 t3)))))), (t0, .inr (4, [.ref i0, .int u_r_21.2.2.1, .int u_r_21.2.2.2.2.2.2.1])), (i0, .inl (cL, 300, .inr (.inl u_r_21.2.2.2.2.2.2.2.2.2.2.1))), (t1, .inr (4, [.ref i1, .int u_r_21.2.2.2.1, .int u_r_21.2.2.2.2.2.2.2.1])), (i1, .inl (cL, 300, .inr (.inl u_r_21.2.2.2.2.2.2.2.2.2.2.2.1))), (t2, .inr (4, [.ref i2, .int u_r_21.2.2.2.2.1, .int u_r_21.2.2.2.2.2.2.2.2.1])), (i2, .inl (cL, 300, .inr (.inl u_r_21.2.2.2.2.2.2.2.2.2.2.2.2.1))), (t3, .inr (4, [.ref i3, .int u_r_21.2.2.2.2.2.1, .int u_r_21.2.2.2.2.2.2.2.2.2.1])), (i3, .inl (cL, 300, .inr (.inl u_r_21.2.2.2.2.2.2.2.2.2.2.2.2.2)))] := hD
        try dsimp only at wr_21
        refine lv_if_ne (tgt := 56) hx hb dX6_choose_51 (by decide) (fun c_51_21 => ?_) (fun c_51_21 => ?_)
        · have t_51_21 := c_51_21
          try simp only [kb_eq0, kb_ne0, lg_cmp_lt, lg_cmp_le, lg_cmp_gt, lg_cmp_ge, lg_cmp_eq] at t_51_21
          try simp only [Int32.lt_iff_toInt_lt, Int32.le_iff_toInt_le, ← Int32.toInt_inj, Int64.lt_iff_toInt_lt, Int64.le_iff_toInt_le, ← Int64.toInt_inj, Int32.toInt_toInt64, Int32.reduceToInt, Int64.reduceToInt] at t_51_21
          refine lv_aload hx hb dX6_choose_56 (lv_at hl 0 rfl) ?_
          refine lv_ifnonnull (tgt := 80) hx hb dX6_choose_58 (by decide) ?_
          refine lv_aload_n hx hb dX6_choose_80 rfl (lv_at hl 2 rfl) ?_
          refine lv_iload_n hx hb dX6_choose_81 rfl (lv_at hl 3 rfl) ?_
          refine lv_aload hx hb dX6_choose_82 (lv_at hl 0 rfl) ?_
          refine lv_iload_n hx hb dX6_choose_84 rfl (lv_at hl 4 rfl) ?_
          refine lv_sipush (v := 256) hx hb dX6_choose_85 (by decide) ?_
          refine lv_isub hx hb dX6_choose_88 ?_
          refine kCallI (wr := [(bT, .inl (cT, 4, .inr (.inr (.inr (.inr (k4 t0 t1 t2 t3)))))), (t0, .inr (4, [.ref i0, .int u_r_21.2.2.1, .int u_r_21.2.2.2.2.2.2.1])), (i0, .inl (cL, 300, .inr (.inl u_r_21.2.2.2.2.2.2.2.2.2.2.1))), (t1, .inr (4, [.ref i1, .int u_r_21.2.2.2.1, .int u_r_21.2.2.2.2.2.2.2.1])), (i1, .inl (cL, 300, .inr (.inl u_r_21.2.2.2.2.2.2.2.2.2.2.2.1))), (t3, .inr (4, [.ref i3, .int u_r_21.2.2.2.2.2.1, .int u_r_21.2.2.2.2.2.2.2.2.2.1])), (i3, .inl (cL, 300, .inr (.inl u_r_21.2.2.2.2.2.2.2.2.2.2.2.2.2)))]) (va_runV (As := [.int a, .ref t2, .int (t - 256)]) (rest := []) ⟨hx, hb, hml, hown, hts⟩ (g_chooseTape l D cI cL cB cZ cT _ aU bT aD (u_r_21.1) (u_r_21.2.1) t2 i2 (u_r_21.2.2.2.2.1) (u_r_21.2.2.2.2.2.2.2.2.1) (u_r_21.2.2.2.2.2.2.2.2.2.2.2.2.1) a (t - 256)) (cwV 3 hts gX6_choose_X6_chooseTape rfl rfl rfl (by decide +kernel) ⟨Nat.le_of_ble_eq_true rfl, Nat.le_of_ble_eq_true rfl⟩) (kPreV hG hP hD [0, 6, 7] rfl (by decide) 0 6 rfl rfl rfl) rfl rfl hl.1 rfl (lv_room (Nat.le_of_ble_eq_true rfl)) dX6_choose_89 ⟨Nat.le_of_ble_eq_true rfl, Nat.le_of_ble_eq_true rfl⟩) hA hP hD hS [0, 6, 7] [1, 2, 3, 4, 5, 8, 9] rfl rfl (by decide) (by decide) (fun r_23 u_r_23 H locs wr_23 hP hD hS => ?_)
          have hP : va_P D vwCl [(bT, .inl (cT, 4, .inr (.inr (.inr (.inr (k4 t0 t1 t2 t3)))))), (t0, .inr (4, [.ref i0, .int u_r_21.2.2.1, .int u_r_21.2.2.2.2.2.2.1])), (i0, .inl (cL, 300, .inr (.inl u_r_21.2.2.2.2.2.2.2.2.2.2.1))), (t1, .inr (4, [.ref i1, .int u_r_21.2.2.2.1, .int u_r_21.2.2.2.2.2.2.2.1])), (i1, .inl (cL, 300, .inr (.inl u_r_21.2.2.2.2.2.2.2.2.2.2.2.1))), (t3, .inr (4, [.ref i3, .int u_r_21.2.2.2.2.2.1, .int u_r_21.2.2.2.2.2.2.2.2.2.1])), (i3, .inl (cL, 300, .inr (.inl u_r_21.2.2.2.2.2.2.2.2.2.2.2.2.2))), (aU, .inr (6, [.ref bT, .ref aD, .int u_r_23.1, .int u_r_23.2.1])), (t2, .inr (4, [.ref i2, .int u_r_23.2.2.1, .int u_r_23.2.2.2.1])), (i2, .inl (cL, 300, .inr (.inl u_r_23.2.2.2.2)))] H := hP
          have hD : va_D A [(bT, .inl (cT, 4, .inr (.inr (.inr (.inr (k4 t0 t1 t2 t3)))))), (t0, .inr (4, [.ref i0, .int u_r_21.2.2.1, .int u_r_21.2.2.2.2.2.2.1])), (i0, .inl (cL, 300, .inr (.inl u_r_21.2.2.2.2.2.2.2.2.2.2.1))), (t1, .inr (4, [.ref i1, .int u_r_21.2.2.2.1, .int u_r_21.2.2.2.2.2.2.2.1])), (i1, .inl (cL, 300, .inr (.inl u_r_21.2.2.2.2.2.2.2.2.2.2.2.1))), (t3, .inr (4, [.ref i3, .int u_r_21.2.2.2.2.2.1, .int u_r_21.2.2.2.2.2.2.2.2.2.1])), (i3, .inl (cL, 300, .inr (.inl u_r_21.2.2.2.2.2.2.2.2.2.2.2.2.2))), (aU, .inr (6, [.ref bT, .ref aD, .int u_r_23.1, .int u_r_23.2.1])), (t2, .inr (4, [.ref i2, .int u_r_23.2.2.1, .int u_r_23.2.2.2.1])), (i2, .inl (cL, 300, .inr (.inl u_r_23.2.2.2.2)))] := hD
          try dsimp only at wr_23
          refine kIret (u := (u_r_23.1, u_r_23.2.1, u_r_21.2.2.1, u_r_21.2.2.2.1, u_r_23.2.2.1, u_r_21.2.2.2.2.2.1, u_r_21.2.2.2.2.2.2.1, u_r_21.2.2.2.2.2.2.2.1, u_r_23.2.2.2.1, u_r_21.2.2.2.2.2.2.2.2.2.1, u_r_21.2.2.2.2.2.2.2.2.2.2.1, u_r_21.2.2.2.2.2.2.2.2.2.2.2.1, u_r_23.2.2.2.2, u_r_21.2.2.2.2.2.2.2.2.2.2.2.2.2)) hx hb hr rfl hlocks hS dX6_choose_92 ?_ (hP.sub [7, 0, 1, 2, 3, 4, 8, 9, 5, 6] rfl) (hD.sub [7, 0, 1, 2, 3, 4, 8, 9, 5, 6] (by decide) rfl)
          exact trivial
        · have t_51_21 := c_51_21
          try simp only [kb_eq0, kb_ne0, lg_cmp_lt, lg_cmp_le, lg_cmp_gt, lg_cmp_ge, lg_cmp_eq] at t_51_21
          try simp only [Int32.lt_iff_toInt_lt, Int32.le_iff_toInt_le, ← Int32.toInt_inj, Int64.lt_iff_toInt_lt, Int64.le_iff_toInt_le, ← Int64.toInt_inj, Int32.toInt_toInt64, Int32.reduceToInt, Int64.reduceToInt] at t_51_21
          refine lv_iconst (v := 5) hx hb dX6_choose_54 (by decide) ?_
          refine kIret (u := (u_r_21.1, u_r_21.2.1, u_r_21.2.2.1, u_r_21.2.2.2.1, u_r_21.2.2.2.2.1, u_r_21.2.2.2.2.2.1, u_r_21.2.2.2.2.2.2.1, u_r_21.2.2.2.2.2.2.2.1, u_r_21.2.2.2.2.2.2.2.2.1, u_r_21.2.2.2.2.2.2.2.2.2.1, u_r_21.2.2.2.2.2.2.2.2.2.2.1, u_r_21.2.2.2.2.2.2.2.2.2.2.2.1, u_r_21.2.2.2.2.2.2.2.2.2.2.2.2.1, u_r_21.2.2.2.2.2.2.2.2.2.2.2.2.2)) hx hb hr rfl hlocks hS dX6_choose_55 ?_ (hP.sub [0, 1, 2, 3, 4, 5, 6, 7, 8, 9] rfl) (hD.sub [0, 1, 2, 3, 4, 5, 6, 7, 8, 9] (by decide) rfl)
          exact trivial
      · have t_37_19 := c_37_19
        try simp only [kb_eq0, kb_ne0, lg_cmp_lt, lg_cmp_le, lg_cmp_gt, lg_cmp_ge, lg_cmp_eq] at t_37_19
        try simp only [Int32.lt_iff_toInt_lt, Int32.le_iff_toInt_le, ← Int32.toInt_inj, Int64.lt_iff_toInt_lt, Int64.le_iff_toInt_le, ← Int64.toInt_inj, Int32.toInt_toInt64, Int32.reduceToInt, Int64.reduceToInt] at t_37_19
        refine lv_aload hx hb dX6_choose_40 (lv_at hl 0 rfl) ?_
        refine lv_ifnonnull (tgt := 47) hx hb dX6_choose_42 (by decide) ?_
        refine lv_aload_n hx hb dX6_choose_47 rfl (lv_at hl 2 rfl) ?_
        refine kCallI (wr := []) (va_runV (As := []) (rest := []) ⟨hx, hb, hml, hown, hts⟩ (g_endRecord l D cI cL cB cZ cT _ aU bT aD ch ww t0 t1 t2 t3 i0 i1 i2 i3 n0 n1 n2 n3 p0 p1 p2 p3 f0 f1 f2 f3) (cwV 0 hts gX6_choose_X6_endRecord rfl rfl rfl (by decide +kernel) ⟨Nat.le_of_ble_eq_true rfl, Nat.le_of_ble_eq_true rfl⟩) (kPreV hG hP hD [8, 9, 0, 1, 2, 3, 4, 5, 6, 7] rfl (by decide) 0 6 rfl rfl rfl) rfl rfl hl.1 rfl (lv_room (Nat.le_of_ble_eq_true rfl)) dX6_choose_48 ⟨Nat.le_of_ble_eq_true rfl, Nat.le_of_ble_eq_true rfl⟩) hA hP hD hS [8, 9, 0, 1, 2, 3, 4, 5, 6, 7] [] rfl rfl (by decide) (by decide) (fun r_24 u_r_24 H locs wr_24 hP hD hS => ?_)
        have hP : va_P D vwCl [(aU, .inr (6, [.ref bT, .ref aD, .int u_r_24.1, .int u_r_24.2.1])), (bT, .inl (cT, 4, .inr (.inr (.inr (.inr (k4 t0 t1 t2 t3)))))), (t0, .inr (4, [.ref i0, .int u_r_24.2.2.1, .int u_r_24.2.2.2.2.2.2.1])), (i0, .inl (cL, 300, .inr (.inl u_r_24.2.2.2.2.2.2.2.2.2.2.1))), (t1, .inr (4, [.ref i1, .int u_r_24.2.2.2.1, .int u_r_24.2.2.2.2.2.2.2.1])), (i1, .inl (cL, 300, .inr (.inl u_r_24.2.2.2.2.2.2.2.2.2.2.2.1))), (t2, .inr (4, [.ref i2, .int u_r_24.2.2.2.2.1, .int u_r_24.2.2.2.2.2.2.2.2.1])), (i2, .inl (cL, 300, .inr (.inl u_r_24.2.2.2.2.2.2.2.2.2.2.2.2.1))), (t3, .inr (4, [.ref i3, .int u_r_24.2.2.2.2.2.1, .int u_r_24.2.2.2.2.2.2.2.2.2.1])), (i3, .inl (cL, 300, .inr (.inl u_r_24.2.2.2.2.2.2.2.2.2.2.2.2.2)))] H := hP
        have hD : va_D A [(aU, .inr (6, [.ref bT, .ref aD, .int u_r_24.1, .int u_r_24.2.1])), (bT, .inl (cT, 4, .inr (.inr (.inr (.inr (k4 t0 t1 t2 t3)))))), (t0, .inr (4, [.ref i0, .int u_r_24.2.2.1, .int u_r_24.2.2.2.2.2.2.1])), (i0, .inl (cL, 300, .inr (.inl u_r_24.2.2.2.2.2.2.2.2.2.2.1))), (t1, .inr (4, [.ref i1, .int u_r_24.2.2.2.1, .int u_r_24.2.2.2.2.2.2.2.1])), (i1, .inl (cL, 300, .inr (.inl u_r_24.2.2.2.2.2.2.2.2.2.2.2.1))), (t2, .inr (4, [.ref i2, .int u_r_24.2.2.2.2.1, .int u_r_24.2.2.2.2.2.2.2.2.1])), (i2, .inl (cL, 300, .inr (.inl u_r_24.2.2.2.2.2.2.2.2.2.2.2.2.1))), (t3, .inr (4, [.ref i3, .int u_r_24.2.2.2.2.2.1, .int u_r_24.2.2.2.2.2.2.2.2.2.1])), (i3, .inl (cL, 300, .inr (.inl u_r_24.2.2.2.2.2.2.2.2.2.2.2.2.2)))] := hD
        try dsimp only at wr_24
        refine lv_if_ne (tgt := 56) hx hb dX6_choose_51 (by decide) (fun c_51_24 => ?_) (fun c_51_24 => ?_)
        · have t_51_24 := c_51_24
          try simp only [kb_eq0, kb_ne0, lg_cmp_lt, lg_cmp_le, lg_cmp_gt, lg_cmp_ge, lg_cmp_eq] at t_51_24
          try simp only [Int32.lt_iff_toInt_lt, Int32.le_iff_toInt_le, ← Int32.toInt_inj, Int64.lt_iff_toInt_lt, Int64.le_iff_toInt_le, ← Int64.toInt_inj, Int32.toInt_toInt64, Int32.reduceToInt, Int64.reduceToInt] at t_51_24
          refine lv_aload hx hb dX6_choose_56 (lv_at hl 0 rfl) ?_
          refine lv_ifnonnull (tgt := 80) hx hb dX6_choose_58 (by decide) ?_
          refine lv_aload_n hx hb dX6_choose_80 rfl (lv_at hl 2 rfl) ?_
          refine lv_iload_n hx hb dX6_choose_81 rfl (lv_at hl 3 rfl) ?_
          refine lv_aload hx hb dX6_choose_82 (lv_at hl 0 rfl) ?_
          refine lv_iload_n hx hb dX6_choose_84 rfl (lv_at hl 4 rfl) ?_
          refine lv_sipush (v := 256) hx hb dX6_choose_85 (by decide) ?_
          refine lv_isub hx hb dX6_choose_88 ?_
          refine kCallI (wr := [(bT, .inl (cT, 4, .inr (.inr (.inr (.inr (k4 t0 t1 t2 t3)))))), (t0, .inr (4, [.ref i0, .int u_r_24.2.2.1, .int u_r_24.2.2.2.2.2.2.1])), (i0, .inl (cL, 300, .inr (.inl u_r_24.2.2.2.2.2.2.2.2.2.2.1))), (t1, .inr (4, [.ref i1, .int u_r_24.2.2.2.1, .int u_r_24.2.2.2.2.2.2.2.1])), (i1, .inl (cL, 300, .inr (.inl u_r_24.2.2.2.2.2.2.2.2.2.2.2.1))), (t3, .inr (4, [.ref i3, .int u_r_24.2.2.2.2.2.1, .int u_r_24.2.2.2.2.2.2.2.2.2.1])), (i3, .inl (cL, 300, .inr (.inl u_r_24.2.2.2.2.2.2.2.2.2.2.2.2.2)))]) (va_runV (As := [.int a, .ref t2, .int (t - 256)]) (rest := []) ⟨hx, hb, hml, hown, hts⟩ (g_chooseTape l D cI cL cB cZ cT _ aU bT aD (u_r_24.1) (u_r_24.2.1) t2 i2 (u_r_24.2.2.2.2.1) (u_r_24.2.2.2.2.2.2.2.2.1) (u_r_24.2.2.2.2.2.2.2.2.2.2.2.2.1) a (t - 256)) (cwV 3 hts gX6_choose_X6_chooseTape rfl rfl rfl (by decide +kernel) ⟨Nat.le_of_ble_eq_true rfl, Nat.le_of_ble_eq_true rfl⟩) (kPreV hG hP hD [0, 6, 7] rfl (by decide) 0 6 rfl rfl rfl) rfl rfl hl.1 rfl (lv_room (Nat.le_of_ble_eq_true rfl)) dX6_choose_89 ⟨Nat.le_of_ble_eq_true rfl, Nat.le_of_ble_eq_true rfl⟩) hA hP hD hS [0, 6, 7] [1, 2, 3, 4, 5, 8, 9] rfl rfl (by decide) (by decide) (fun r_26 u_r_26 H locs wr_26 hP hD hS => ?_)
          have hP : va_P D vwCl [(bT, .inl (cT, 4, .inr (.inr (.inr (.inr (k4 t0 t1 t2 t3)))))), (t0, .inr (4, [.ref i0, .int u_r_24.2.2.1, .int u_r_24.2.2.2.2.2.2.1])), (i0, .inl (cL, 300, .inr (.inl u_r_24.2.2.2.2.2.2.2.2.2.2.1))), (t1, .inr (4, [.ref i1, .int u_r_24.2.2.2.1, .int u_r_24.2.2.2.2.2.2.2.1])), (i1, .inl (cL, 300, .inr (.inl u_r_24.2.2.2.2.2.2.2.2.2.2.2.1))), (t3, .inr (4, [.ref i3, .int u_r_24.2.2.2.2.2.1, .int u_r_24.2.2.2.2.2.2.2.2.2.1])), (i3, .inl (cL, 300, .inr (.inl u_r_24.2.2.2.2.2.2.2.2.2.2.2.2.2))), (aU, .inr (6, [.ref bT, .ref aD, .int u_r_26.1, .int u_r_26.2.1])), (t2, .inr (4, [.ref i2, .int u_r_26.2.2.1, .int u_r_26.2.2.2.1])), (i2, .inl (cL, 300, .inr (.inl u_r_26.2.2.2.2)))] H := hP
          have hD : va_D A [(bT, .inl (cT, 4, .inr (.inr (.inr (.inr (k4 t0 t1 t2 t3)))))), (t0, .inr (4, [.ref i0, .int u_r_24.2.2.1, .int u_r_24.2.2.2.2.2.2.1])), (i0, .inl (cL, 300, .inr (.inl u_r_24.2.2.2.2.2.2.2.2.2.2.1))), (t1, .inr (4, [.ref i1, .int u_r_24.2.2.2.1, .int u_r_24.2.2.2.2.2.2.2.1])), (i1, .inl (cL, 300, .inr (.inl u_r_24.2.2.2.2.2.2.2.2.2.2.2.1))), (t3, .inr (4, [.ref i3, .int u_r_24.2.2.2.2.2.1, .int u_r_24.2.2.2.2.2.2.2.2.2.1])), (i3, .inl (cL, 300, .inr (.inl u_r_24.2.2.2.2.2.2.2.2.2.2.2.2.2))), (aU, .inr (6, [.ref bT, .ref aD, .int u_r_26.1, .int u_r_26.2.1])), (t2, .inr (4, [.ref i2, .int u_r_26.2.2.1, .int u_r_26.2.2.2.1])), (i2, .inl (cL, 300, .inr (.inl u_r_26.2.2.2.2)))] := hD
          try dsimp only at wr_26
          refine kIret (u := (u_r_26.1, u_r_26.2.1, u_r_24.2.2.1, u_r_24.2.2.2.1, u_r_26.2.2.1, u_r_24.2.2.2.2.2.1, u_r_24.2.2.2.2.2.2.1, u_r_24.2.2.2.2.2.2.2.1, u_r_26.2.2.2.1, u_r_24.2.2.2.2.2.2.2.2.2.1, u_r_24.2.2.2.2.2.2.2.2.2.2.1, u_r_24.2.2.2.2.2.2.2.2.2.2.2.1, u_r_26.2.2.2.2, u_r_24.2.2.2.2.2.2.2.2.2.2.2.2.2)) hx hb hr rfl hlocks hS dX6_choose_92 ?_ (hP.sub [7, 0, 1, 2, 3, 4, 8, 9, 5, 6] rfl) (hD.sub [7, 0, 1, 2, 3, 4, 8, 9, 5, 6] (by decide) rfl)
          exact trivial
        · have t_51_24 := c_51_24
          try simp only [kb_eq0, kb_ne0, lg_cmp_lt, lg_cmp_le, lg_cmp_gt, lg_cmp_ge, lg_cmp_eq] at t_51_24
          try simp only [Int32.lt_iff_toInt_lt, Int32.le_iff_toInt_le, ← Int32.toInt_inj, Int64.lt_iff_toInt_lt, Int64.le_iff_toInt_le, ← Int64.toInt_inj, Int32.toInt_toInt64, Int32.reduceToInt, Int64.reduceToInt] at t_51_24
          refine lv_iconst (v := 5) hx hb dX6_choose_54 (by decide) ?_
          refine kIret (u := (u_r_24.1, u_r_24.2.1, u_r_24.2.2.1, u_r_24.2.2.2.1, u_r_24.2.2.2.2.1, u_r_24.2.2.2.2.2.1, u_r_24.2.2.2.2.2.2.1, u_r_24.2.2.2.2.2.2.2.1, u_r_24.2.2.2.2.2.2.2.2.1, u_r_24.2.2.2.2.2.2.2.2.2.1, u_r_24.2.2.2.2.2.2.2.2.2.2.1, u_r_24.2.2.2.2.2.2.2.2.2.2.2.1, u_r_24.2.2.2.2.2.2.2.2.2.2.2.2.1, u_r_24.2.2.2.2.2.2.2.2.2.2.2.2.2)) hx hb hr rfl hlocks hS dX6_choose_55 ?_ (hP.sub [0, 1, 2, 3, 4, 5, 6, 7, 8, 9] rfl) (hD.sub [0, 1, 2, 3, 4, 5, 6, 7, 8, 9] (by decide) rfl)
          exact trivial
    · show W _ _ _ _ _ _ _ _ _ _ _ _ _ _ _ (F0 _ _ _ (Value.ref t3 :: _))
      refine lv_astore (lv' := [(4, .ref t3), (3, .int z), (0, .ref aU), (1, .int a), (2, .int t)]) hx hb dX6_choose_34 hl (by decide) rfl (fun ls hl => ?_)
      refine lv_iload_n hx hb dX6_choose_36 rfl (lv_at hl 1 rfl) ?_
      refine lv_if_ne (tgt := 47) hx hb dX6_choose_37 (by decide) (fun c_37_26 => ?_) (fun c_37_26 => ?_)
      · have t_37_26 := c_37_26
        try simp only [kb_eq0, kb_ne0, lg_cmp_lt, lg_cmp_le, lg_cmp_gt, lg_cmp_ge, lg_cmp_eq] at t_37_26
        try simp only [Int32.lt_iff_toInt_lt, Int32.le_iff_toInt_le, ← Int32.toInt_inj, Int64.lt_iff_toInt_lt, Int64.le_iff_toInt_le, ← Int64.toInt_inj, Int32.toInt_toInt64, Int32.reduceToInt, Int64.reduceToInt] at t_37_26
        refine lv_aload_n hx hb dX6_choose_47 rfl (lv_at hl 2 rfl) ?_
        refine kCallI (wr := []) (va_runV (As := []) (rest := []) ⟨hx, hb, hml, hown, hts⟩ (g_endRecord l D cI cL cB cZ cT _ aU bT aD ch ww t0 t1 t2 t3 i0 i1 i2 i3 n0 n1 n2 n3 p0 p1 p2 p3 f0 f1 f2 f3) (cwV 0 hts gX6_choose_X6_endRecord rfl rfl rfl (by decide +kernel) ⟨Nat.le_of_ble_eq_true rfl, Nat.le_of_ble_eq_true rfl⟩) (kPreV hG hP hD [8, 9, 0, 1, 2, 3, 4, 5, 6, 7] rfl (by decide) 0 6 rfl rfl rfl) rfl rfl hl.1 rfl (lv_room (Nat.le_of_ble_eq_true rfl)) dX6_choose_48 ⟨Nat.le_of_ble_eq_true rfl, Nat.le_of_ble_eq_true rfl⟩) hA hP hD hS [8, 9, 0, 1, 2, 3, 4, 5, 6, 7] [] rfl rfl (by decide) (by decide) (fun r_28 u_r_28 H locs wr_28 hP hD hS => ?_)
        have hP : va_P D vwCl [(aU, .inr (6, [.ref bT, .ref aD, .int u_r_28.1, .int u_r_28.2.1])), (bT, .inl (cT, 4, .inr (.inr (.inr (.inr (k4 t0 t1 t2 t3)))))), (t0, .inr (4, [.ref i0, .int u_r_28.2.2.1, .int u_r_28.2.2.2.2.2.2.1])), (i0, .inl (cL, 300, .inr (.inl u_r_28.2.2.2.2.2.2.2.2.2.2.1))), (t1, .inr (4, [.ref i1, .int u_r_28.2.2.2.1, .int u_r_28.2.2.2.2.2.2.2.1])), (i1, .inl (cL, 300, .inr (.inl u_r_28.2.2.2.2.2.2.2.2.2.2.2.1))), (t2, .inr (4, [.ref i2, .int u_r_28.2.2.2.2.1, .int u_r_28.2.2.2.2.2.2.2.2.1])), (i2, .inl (cL, 300, .inr (.inl u_r_28.2.2.2.2.2.2.2.2.2.2.2.2.1))), (t3, .inr (4, [.ref i3, .int u_r_28.2.2.2.2.2.1, .int u_r_28.2.2.2.2.2.2.2.2.2.1])), (i3, .inl (cL, 300, .inr (.inl u_r_28.2.2.2.2.2.2.2.2.2.2.2.2.2)))] H := hP
        have hD : va_D A [(aU, .inr (6, [.ref bT, .ref aD, .int u_r_28.1, .int u_r_28.2.1])), (bT, .inl (cT, 4, .inr (.inr (.inr (.inr (k4 t0 t1 t2 t3)))))), (t0, .inr (4, [.ref i0, .int u_r_28.2.2.1, .int u_r_28.2.2.2.2.2.2.1])), (i0, .inl (cL, 300, .inr (.inl u_r_28.2.2.2.2.2.2.2.2.2.2.1))), (t1, .inr (4, [.ref i1, .int u_r_28.2.2.2.1, .int u_r_28.2.2.2.2.2.2.2.1])), (i1, .inl (cL, 300, .inr (.inl u_r_28.2.2.2.2.2.2.2.2.2.2.2.1))), (t2, .inr (4, [.ref i2, .int u_r_28.2.2.2.2.1, .int u_r_28.2.2.2.2.2.2.2.2.1])), (i2, .inl (cL, 300, .inr (.inl u_r_28.2.2.2.2.2.2.2.2.2.2.2.2.1))), (t3, .inr (4, [.ref i3, .int u_r_28.2.2.2.2.2.1, .int u_r_28.2.2.2.2.2.2.2.2.2.1])), (i3, .inl (cL, 300, .inr (.inl u_r_28.2.2.2.2.2.2.2.2.2.2.2.2.2)))] := hD
        try dsimp only at wr_28
        refine lv_if_ne (tgt := 56) hx hb dX6_choose_51 (by decide) (fun c_51_28 => ?_) (fun c_51_28 => ?_)
        · have t_51_28 := c_51_28
          try simp only [kb_eq0, kb_ne0, lg_cmp_lt, lg_cmp_le, lg_cmp_gt, lg_cmp_ge, lg_cmp_eq] at t_51_28
          try simp only [Int32.lt_iff_toInt_lt, Int32.le_iff_toInt_le, ← Int32.toInt_inj, Int64.lt_iff_toInt_lt, Int64.le_iff_toInt_le, ← Int64.toInt_inj, Int32.toInt_toInt64, Int32.reduceToInt, Int64.reduceToInt] at t_51_28
          refine lv_aload hx hb dX6_choose_56 (lv_at hl 0 rfl) ?_
          refine lv_ifnonnull (tgt := 80) hx hb dX6_choose_58 (by decide) ?_
          refine lv_aload_n hx hb dX6_choose_80 rfl (lv_at hl 2 rfl) ?_
          refine lv_iload_n hx hb dX6_choose_81 rfl (lv_at hl 3 rfl) ?_
          refine lv_aload hx hb dX6_choose_82 (lv_at hl 0 rfl) ?_
          refine lv_iload_n hx hb dX6_choose_84 rfl (lv_at hl 4 rfl) ?_
          refine lv_sipush (v := 256) hx hb dX6_choose_85 (by decide) ?_
          refine lv_isub hx hb dX6_choose_88 ?_
          refine kCallI (wr := [(bT, .inl (cT, 4, .inr (.inr (.inr (.inr (k4 t0 t1 t2 t3)))))), (t0, .inr (4, [.ref i0, .int u_r_28.2.2.1, .int u_r_28.2.2.2.2.2.2.1])), (i0, .inl (cL, 300, .inr (.inl u_r_28.2.2.2.2.2.2.2.2.2.2.1))), (t1, .inr (4, [.ref i1, .int u_r_28.2.2.2.1, .int u_r_28.2.2.2.2.2.2.2.1])), (i1, .inl (cL, 300, .inr (.inl u_r_28.2.2.2.2.2.2.2.2.2.2.2.1))), (t2, .inr (4, [.ref i2, .int u_r_28.2.2.2.2.1, .int u_r_28.2.2.2.2.2.2.2.2.1])), (i2, .inl (cL, 300, .inr (.inl u_r_28.2.2.2.2.2.2.2.2.2.2.2.2.1)))]) (va_runV (As := [.int a, .ref t3, .int (t - 256)]) (rest := []) ⟨hx, hb, hml, hown, hts⟩ (g_chooseTape l D cI cL cB cZ cT _ aU bT aD (u_r_28.1) (u_r_28.2.1) t3 i3 (u_r_28.2.2.2.2.2.1) (u_r_28.2.2.2.2.2.2.2.2.2.1) (u_r_28.2.2.2.2.2.2.2.2.2.2.2.2.2) a (t - 256)) (cwV 3 hts gX6_choose_X6_chooseTape rfl rfl rfl (by decide +kernel) ⟨Nat.le_of_ble_eq_true rfl, Nat.le_of_ble_eq_true rfl⟩) (kPreV hG hP hD [0, 8, 9] rfl (by decide) 0 6 rfl rfl rfl) rfl rfl hl.1 rfl (lv_room (Nat.le_of_ble_eq_true rfl)) dX6_choose_89 ⟨Nat.le_of_ble_eq_true rfl, Nat.le_of_ble_eq_true rfl⟩) hA hP hD hS [0, 8, 9] [1, 2, 3, 4, 5, 6, 7] rfl rfl (by decide) (by decide) (fun r_30 u_r_30 H locs wr_30 hP hD hS => ?_)
          have hP : va_P D vwCl [(bT, .inl (cT, 4, .inr (.inr (.inr (.inr (k4 t0 t1 t2 t3)))))), (t0, .inr (4, [.ref i0, .int u_r_28.2.2.1, .int u_r_28.2.2.2.2.2.2.1])), (i0, .inl (cL, 300, .inr (.inl u_r_28.2.2.2.2.2.2.2.2.2.2.1))), (t1, .inr (4, [.ref i1, .int u_r_28.2.2.2.1, .int u_r_28.2.2.2.2.2.2.2.1])), (i1, .inl (cL, 300, .inr (.inl u_r_28.2.2.2.2.2.2.2.2.2.2.2.1))), (t2, .inr (4, [.ref i2, .int u_r_28.2.2.2.2.1, .int u_r_28.2.2.2.2.2.2.2.2.1])), (i2, .inl (cL, 300, .inr (.inl u_r_28.2.2.2.2.2.2.2.2.2.2.2.2.1))), (aU, .inr (6, [.ref bT, .ref aD, .int u_r_30.1, .int u_r_30.2.1])), (t3, .inr (4, [.ref i3, .int u_r_30.2.2.1, .int u_r_30.2.2.2.1])), (i3, .inl (cL, 300, .inr (.inl u_r_30.2.2.2.2)))] H := hP
          have hD : va_D A [(bT, .inl (cT, 4, .inr (.inr (.inr (.inr (k4 t0 t1 t2 t3)))))), (t0, .inr (4, [.ref i0, .int u_r_28.2.2.1, .int u_r_28.2.2.2.2.2.2.1])), (i0, .inl (cL, 300, .inr (.inl u_r_28.2.2.2.2.2.2.2.2.2.2.1))), (t1, .inr (4, [.ref i1, .int u_r_28.2.2.2.1, .int u_r_28.2.2.2.2.2.2.2.1])), (i1, .inl (cL, 300, .inr (.inl u_r_28.2.2.2.2.2.2.2.2.2.2.2.1))), (t2, .inr (4, [.ref i2, .int u_r_28.2.2.2.2.1, .int u_r_28.2.2.2.2.2.2.2.2.1])), (i2, .inl (cL, 300, .inr (.inl u_r_28.2.2.2.2.2.2.2.2.2.2.2.2.1))), (aU, .inr (6, [.ref bT, .ref aD, .int u_r_30.1, .int u_r_30.2.1])), (t3, .inr (4, [.ref i3, .int u_r_30.2.2.1, .int u_r_30.2.2.2.1])), (i3, .inl (cL, 300, .inr (.inl u_r_30.2.2.2.2)))] := hD
          try dsimp only at wr_30
          refine kIret (u := (u_r_30.1, u_r_30.2.1, u_r_28.2.2.1, u_r_28.2.2.2.1, u_r_28.2.2.2.2.1, u_r_30.2.2.1, u_r_28.2.2.2.2.2.2.1, u_r_28.2.2.2.2.2.2.2.1, u_r_28.2.2.2.2.2.2.2.2.1, u_r_30.2.2.2.1, u_r_28.2.2.2.2.2.2.2.2.2.2.1, u_r_28.2.2.2.2.2.2.2.2.2.2.2.1, u_r_28.2.2.2.2.2.2.2.2.2.2.2.2.1, u_r_30.2.2.2.2)) hx hb hr rfl hlocks hS dX6_choose_92 ?_ (hP.sub [7, 0, 1, 2, 3, 4, 5, 6, 8, 9] rfl) (hD.sub [7, 0, 1, 2, 3, 4, 5, 6, 8, 9] (by decide) rfl)
          exact trivial
        · have t_51_28 := c_51_28
          try simp only [kb_eq0, kb_ne0, lg_cmp_lt, lg_cmp_le, lg_cmp_gt, lg_cmp_ge, lg_cmp_eq] at t_51_28
          try simp only [Int32.lt_iff_toInt_lt, Int32.le_iff_toInt_le, ← Int32.toInt_inj, Int64.lt_iff_toInt_lt, Int64.le_iff_toInt_le, ← Int64.toInt_inj, Int32.toInt_toInt64, Int32.reduceToInt, Int64.reduceToInt] at t_51_28
          refine lv_iconst (v := 5) hx hb dX6_choose_54 (by decide) ?_
          refine kIret (u := (u_r_28.1, u_r_28.2.1, u_r_28.2.2.1, u_r_28.2.2.2.1, u_r_28.2.2.2.2.1, u_r_28.2.2.2.2.2.1, u_r_28.2.2.2.2.2.2.1, u_r_28.2.2.2.2.2.2.2.1, u_r_28.2.2.2.2.2.2.2.2.1, u_r_28.2.2.2.2.2.2.2.2.2.1, u_r_28.2.2.2.2.2.2.2.2.2.2.1, u_r_28.2.2.2.2.2.2.2.2.2.2.2.1, u_r_28.2.2.2.2.2.2.2.2.2.2.2.2.1, u_r_28.2.2.2.2.2.2.2.2.2.2.2.2.2)) hx hb hr rfl hlocks hS dX6_choose_55 ?_ (hP.sub [0, 1, 2, 3, 4, 5, 6, 7, 8, 9] rfl) (hD.sub [0, 1, 2, 3, 4, 5, 6, 7, 8, 9] (by decide) rfl)
          exact trivial
      · have t_37_26 := c_37_26
        try simp only [kb_eq0, kb_ne0, lg_cmp_lt, lg_cmp_le, lg_cmp_gt, lg_cmp_ge, lg_cmp_eq] at t_37_26
        try simp only [Int32.lt_iff_toInt_lt, Int32.le_iff_toInt_le, ← Int32.toInt_inj, Int64.lt_iff_toInt_lt, Int64.le_iff_toInt_le, ← Int64.toInt_inj, Int32.toInt_toInt64, Int32.reduceToInt, Int64.reduceToInt] at t_37_26
        refine lv_aload hx hb dX6_choose_40 (lv_at hl 0 rfl) ?_
        refine lv_ifnonnull (tgt := 47) hx hb dX6_choose_42 (by decide) ?_
        refine lv_aload_n hx hb dX6_choose_47 rfl (lv_at hl 2 rfl) ?_
        refine kCallI (wr := []) (va_runV (As := []) (rest := []) ⟨hx, hb, hml, hown, hts⟩ (g_endRecord l D cI cL cB cZ cT _ aU bT aD ch ww t0 t1 t2 t3 i0 i1 i2 i3 n0 n1 n2 n3 p0 p1 p2 p3 f0 f1 f2 f3) (cwV 0 hts gX6_choose_X6_endRecord rfl rfl rfl (by decide +kernel) ⟨Nat.le_of_ble_eq_true rfl, Nat.le_of_ble_eq_true rfl⟩) (kPreV hG hP hD [8, 9, 0, 1, 2, 3, 4, 5, 6, 7] rfl (by decide) 0 6 rfl rfl rfl) rfl rfl hl.1 rfl (lv_room (Nat.le_of_ble_eq_true rfl)) dX6_choose_48 ⟨Nat.le_of_ble_eq_true rfl, Nat.le_of_ble_eq_true rfl⟩) hA hP hD hS [8, 9, 0, 1, 2, 3, 4, 5, 6, 7] [] rfl rfl (by decide) (by decide) (fun r_31 u_r_31 H locs wr_31 hP hD hS => ?_)
        have hP : va_P D vwCl [(aU, .inr (6, [.ref bT, .ref aD, .int u_r_31.1, .int u_r_31.2.1])), (bT, .inl (cT, 4, .inr (.inr (.inr (.inr (k4 t0 t1 t2 t3)))))), (t0, .inr (4, [.ref i0, .int u_r_31.2.2.1, .int u_r_31.2.2.2.2.2.2.1])), (i0, .inl (cL, 300, .inr (.inl u_r_31.2.2.2.2.2.2.2.2.2.2.1))), (t1, .inr (4, [.ref i1, .int u_r_31.2.2.2.1, .int u_r_31.2.2.2.2.2.2.2.1])), (i1, .inl (cL, 300, .inr (.inl u_r_31.2.2.2.2.2.2.2.2.2.2.2.1))), (t2, .inr (4, [.ref i2, .int u_r_31.2.2.2.2.1, .int u_r_31.2.2.2.2.2.2.2.2.1])), (i2, .inl (cL, 300, .inr (.inl u_r_31.2.2.2.2.2.2.2.2.2.2.2.2.1))), (t3, .inr (4, [.ref i3, .int u_r_31.2.2.2.2.2.1, .int u_r_31.2.2.2.2.2.2.2.2.2.1])), (i3, .inl (cL, 300, .inr (.inl u_r_31.2.2.2.2.2.2.2.2.2.2.2.2.2)))] H := hP
        have hD : va_D A [(aU, .inr (6, [.ref bT, .ref aD, .int u_r_31.1, .int u_r_31.2.1])), (bT, .inl (cT, 4, .inr (.inr (.inr (.inr (k4 t0 t1 t2 t3)))))), (t0, .inr (4, [.ref i0, .int u_r_31.2.2.1, .int u_r_31.2.2.2.2.2.2.1])), (i0, .inl (cL, 300, .inr (.inl u_r_31.2.2.2.2.2.2.2.2.2.2.1))), (t1, .inr (4, [.ref i1, .int u_r_31.2.2.2.1, .int u_r_31.2.2.2.2.2.2.2.1])), (i1, .inl (cL, 300, .inr (.inl u_r_31.2.2.2.2.2.2.2.2.2.2.2.1))), (t2, .inr (4, [.ref i2, .int u_r_31.2.2.2.2.1, .int u_r_31.2.2.2.2.2.2.2.2.1])), (i2, .inl (cL, 300, .inr (.inl u_r_31.2.2.2.2.2.2.2.2.2.2.2.2.1))), (t3, .inr (4, [.ref i3, .int u_r_31.2.2.2.2.2.1, .int u_r_31.2.2.2.2.2.2.2.2.2.1])), (i3, .inl (cL, 300, .inr (.inl u_r_31.2.2.2.2.2.2.2.2.2.2.2.2.2)))] := hD
        try dsimp only at wr_31
        refine lv_if_ne (tgt := 56) hx hb dX6_choose_51 (by decide) (fun c_51_31 => ?_) (fun c_51_31 => ?_)
        · have t_51_31 := c_51_31
          try simp only [kb_eq0, kb_ne0, lg_cmp_lt, lg_cmp_le, lg_cmp_gt, lg_cmp_ge, lg_cmp_eq] at t_51_31
          try simp only [Int32.lt_iff_toInt_lt, Int32.le_iff_toInt_le, ← Int32.toInt_inj, Int64.lt_iff_toInt_lt, Int64.le_iff_toInt_le, ← Int64.toInt_inj, Int32.toInt_toInt64, Int32.reduceToInt, Int64.reduceToInt] at t_51_31
          refine lv_aload hx hb dX6_choose_56 (lv_at hl 0 rfl) ?_
          refine lv_ifnonnull (tgt := 80) hx hb dX6_choose_58 (by decide) ?_
          refine lv_aload_n hx hb dX6_choose_80 rfl (lv_at hl 2 rfl) ?_
          refine lv_iload_n hx hb dX6_choose_81 rfl (lv_at hl 3 rfl) ?_
          refine lv_aload hx hb dX6_choose_82 (lv_at hl 0 rfl) ?_
          refine lv_iload_n hx hb dX6_choose_84 rfl (lv_at hl 4 rfl) ?_
          refine lv_sipush (v := 256) hx hb dX6_choose_85 (by decide) ?_
          refine lv_isub hx hb dX6_choose_88 ?_
          refine kCallI (wr := [(bT, .inl (cT, 4, .inr (.inr (.inr (.inr (k4 t0 t1 t2 t3)))))), (t0, .inr (4, [.ref i0, .int u_r_31.2.2.1, .int u_r_31.2.2.2.2.2.2.1])), (i0, .inl (cL, 300, .inr (.inl u_r_31.2.2.2.2.2.2.2.2.2.2.1))), (t1, .inr (4, [.ref i1, .int u_r_31.2.2.2.1, .int u_r_31.2.2.2.2.2.2.2.1])), (i1, .inl (cL, 300, .inr (.inl u_r_31.2.2.2.2.2.2.2.2.2.2.2.1))), (t2, .inr (4, [.ref i2, .int u_r_31.2.2.2.2.1, .int u_r_31.2.2.2.2.2.2.2.2.1])), (i2, .inl (cL, 300, .inr (.inl u_r_31.2.2.2.2.2.2.2.2.2.2.2.2.1)))]) (va_runV (As := [.int a, .ref t3, .int (t - 256)]) (rest := []) ⟨hx, hb, hml, hown, hts⟩ (g_chooseTape l D cI cL cB cZ cT _ aU bT aD (u_r_31.1) (u_r_31.2.1) t3 i3 (u_r_31.2.2.2.2.2.1) (u_r_31.2.2.2.2.2.2.2.2.2.1) (u_r_31.2.2.2.2.2.2.2.2.2.2.2.2.2) a (t - 256)) (cwV 3 hts gX6_choose_X6_chooseTape rfl rfl rfl (by decide +kernel) ⟨Nat.le_of_ble_eq_true rfl, Nat.le_of_ble_eq_true rfl⟩) (kPreV hG hP hD [0, 8, 9] rfl (by decide) 0 6 rfl rfl rfl) rfl rfl hl.1 rfl (lv_room (Nat.le_of_ble_eq_true rfl)) dX6_choose_89 ⟨Nat.le_of_ble_eq_true rfl, Nat.le_of_ble_eq_true rfl⟩) hA hP hD hS [0, 8, 9] [1, 2, 3, 4, 5, 6, 7] rfl rfl (by decide) (by decide) (fun r_33 u_r_33 H locs wr_33 hP hD hS => ?_)
          have hP : va_P D vwCl [(bT, .inl (cT, 4, .inr (.inr (.inr (.inr (k4 t0 t1 t2 t3)))))), (t0, .inr (4, [.ref i0, .int u_r_31.2.2.1, .int u_r_31.2.2.2.2.2.2.1])), (i0, .inl (cL, 300, .inr (.inl u_r_31.2.2.2.2.2.2.2.2.2.2.1))), (t1, .inr (4, [.ref i1, .int u_r_31.2.2.2.1, .int u_r_31.2.2.2.2.2.2.2.1])), (i1, .inl (cL, 300, .inr (.inl u_r_31.2.2.2.2.2.2.2.2.2.2.2.1))), (t2, .inr (4, [.ref i2, .int u_r_31.2.2.2.2.1, .int u_r_31.2.2.2.2.2.2.2.2.1])), (i2, .inl (cL, 300, .inr (.inl u_r_31.2.2.2.2.2.2.2.2.2.2.2.2.1))), (aU, .inr (6, [.ref bT, .ref aD, .int u_r_33.1, .int u_r_33.2.1])), (t3, .inr (4, [.ref i3, .int u_r_33.2.2.1, .int u_r_33.2.2.2.1])), (i3, .inl (cL, 300, .inr (.inl u_r_33.2.2.2.2)))] H := hP
          have hD : va_D A [(bT, .inl (cT, 4, .inr (.inr (.inr (.inr (k4 t0 t1 t2 t3)))))), (t0, .inr (4, [.ref i0, .int u_r_31.2.2.1, .int u_r_31.2.2.2.2.2.2.1])), (i0, .inl (cL, 300, .inr (.inl u_r_31.2.2.2.2.2.2.2.2.2.2.1))), (t1, .inr (4, [.ref i1, .int u_r_31.2.2.2.1, .int u_r_31.2.2.2.2.2.2.2.1])), (i1, .inl (cL, 300, .inr (.inl u_r_31.2.2.2.2.2.2.2.2.2.2.2.1))), (t2, .inr (4, [.ref i2, .int u_r_31.2.2.2.2.1, .int u_r_31.2.2.2.2.2.2.2.2.1])), (i2, .inl (cL, 300, .inr (.inl u_r_31.2.2.2.2.2.2.2.2.2.2.2.2.1))), (aU, .inr (6, [.ref bT, .ref aD, .int u_r_33.1, .int u_r_33.2.1])), (t3, .inr (4, [.ref i3, .int u_r_33.2.2.1, .int u_r_33.2.2.2.1])), (i3, .inl (cL, 300, .inr (.inl u_r_33.2.2.2.2)))] := hD
          try dsimp only at wr_33
          refine kIret (u := (u_r_33.1, u_r_33.2.1, u_r_31.2.2.1, u_r_31.2.2.2.1, u_r_31.2.2.2.2.1, u_r_33.2.2.1, u_r_31.2.2.2.2.2.2.1, u_r_31.2.2.2.2.2.2.2.1, u_r_31.2.2.2.2.2.2.2.2.1, u_r_33.2.2.2.1, u_r_31.2.2.2.2.2.2.2.2.2.2.1, u_r_31.2.2.2.2.2.2.2.2.2.2.2.1, u_r_31.2.2.2.2.2.2.2.2.2.2.2.2.1, u_r_33.2.2.2.2)) hx hb hr rfl hlocks hS dX6_choose_92 ?_ (hP.sub [7, 0, 1, 2, 3, 4, 5, 6, 8, 9] rfl) (hD.sub [7, 0, 1, 2, 3, 4, 5, 6, 8, 9] (by decide) rfl)
          exact trivial
        · have t_51_31 := c_51_31
          try simp only [kb_eq0, kb_ne0, lg_cmp_lt, lg_cmp_le, lg_cmp_gt, lg_cmp_ge, lg_cmp_eq] at t_51_31
          try simp only [Int32.lt_iff_toInt_lt, Int32.le_iff_toInt_le, ← Int32.toInt_inj, Int64.lt_iff_toInt_lt, Int64.le_iff_toInt_le, ← Int64.toInt_inj, Int32.toInt_toInt64, Int32.reduceToInt, Int64.reduceToInt] at t_51_31
          refine lv_iconst (v := 5) hx hb dX6_choose_54 (by decide) ?_
          refine kIret (u := (u_r_31.1, u_r_31.2.1, u_r_31.2.2.1, u_r_31.2.2.2.1, u_r_31.2.2.2.2.1, u_r_31.2.2.2.2.2.1, u_r_31.2.2.2.2.2.2.1, u_r_31.2.2.2.2.2.2.2.1, u_r_31.2.2.2.2.2.2.2.2.1, u_r_31.2.2.2.2.2.2.2.2.2.1, u_r_31.2.2.2.2.2.2.2.2.2.2.1, u_r_31.2.2.2.2.2.2.2.2.2.2.2.1, u_r_31.2.2.2.2.2.2.2.2.2.2.2.2.1, u_r_31.2.2.2.2.2.2.2.2.2.2.2.2.2)) hx hb hr rfl hlocks hS dX6_choose_55 ?_ (hP.sub [0, 1, 2, 3, 4, 5, 6, 7, 8, 9] rfl) (hD.sub [0, 1, 2, 3, 4, 5, 6, 7, 8, 9] (by decide) rfl)
          exact trivial
  refine lv_iload_n hx hb dX6_choose_0 rfl (lv_at hl 2 rfl) ?_
  refine lv_sipush (v := 128) hx hb dX6_choose_1 (by decide) ?_
  refine lv_icmp_ne (tgt := 23) hx hb dX6_choose_4 (by decide) (fun c_4_33 => ?_) (fun c_4_33 => ?_)
  · have t_4_33 := c_4_33
    try simp only [kb_eq0, kb_ne0, lg_cmp_lt, lg_cmp_le, lg_cmp_gt, lg_cmp_ge, lg_cmp_eq] at t_4_33
    try simp only [Int32.lt_iff_toInt_lt, Int32.le_iff_toInt_le, ← Int32.toInt_inj, Int64.lt_iff_toInt_lt, Int64.le_iff_toInt_le, ← Int64.toInt_inj, Int32.toInt_toInt64, Int32.reduceToInt, Int64.reduceToInt] at t_4_33
    refine lv_iconst (v := 0) hx hb dX6_choose_23 (by decide) ?_
    exact J24 0  _ _ (hP.sub [0, 1, 2, 3, 4, 5, 6, 7, 8, 9] rfl) (hD.sub [0, 1, 2, 3, 4, 5, 6, 7, 8, 9] (by decide) rfl) hS ls (lv_sub hl [0, 1, 2] rfl)
  · have t_4_33 := c_4_33
    try simp only [kb_eq0, kb_ne0, lg_cmp_lt, lg_cmp_le, lg_cmp_gt, lg_cmp_ge, lg_cmp_eq] at t_4_33
    try simp only [Int32.lt_iff_toInt_lt, Int32.le_iff_toInt_le, ← Int32.toInt_inj, Int64.lt_iff_toInt_lt, Int64.le_iff_toInt_le, ← Int64.toInt_inj, Int32.toInt_toInt64, Int32.reduceToInt, Int64.reduceToInt] at t_4_33
    refine lv_iload_n hx hb dX6_choose_7 rfl (lv_at hl 1 rfl) ?_
    refine lv_bipush (v := 24) hx hb dX6_choose_8 (by decide) ?_
    refine lv_icmp_eq (tgt := 19) hx hb dX6_choose_10 (by decide) (fun c_10_34 => ?_) (fun c_10_34 => ?_)
    · have t_10_34 := c_10_34
      try simp only [kb_eq0, kb_ne0, lg_cmp_lt, lg_cmp_le, lg_cmp_gt, lg_cmp_ge, lg_cmp_eq] at t_10_34
      try simp only [Int32.lt_iff_toInt_lt, Int32.le_iff_toInt_le, ← Int32.toInt_inj, Int64.lt_iff_toInt_lt, Int64.le_iff_toInt_le, ← Int64.toInt_inj, Int32.toInt_toInt64, Int32.reduceToInt, Int64.reduceToInt] at t_10_34
      refine lv_iconst (v := 1) hx hb dX6_choose_19 (by decide) ?_
      refine lv_goto (tgt := 24) hx hb dX6_choose_20 (by decide) ?_
      exact J24 1  _ _ (hP.sub [0, 1, 2, 3, 4, 5, 6, 7, 8, 9] rfl) (hD.sub [0, 1, 2, 3, 4, 5, 6, 7, 8, 9] (by decide) rfl) hS ls (lv_sub hl [0, 1, 2] rfl)
    · have t_10_34 := c_10_34
      try simp only [kb_eq0, kb_ne0, lg_cmp_lt, lg_cmp_le, lg_cmp_gt, lg_cmp_ge, lg_cmp_eq] at t_10_34
      try simp only [Int32.lt_iff_toInt_lt, Int32.le_iff_toInt_le, ← Int32.toInt_inj, Int64.lt_iff_toInt_lt, Int64.le_iff_toInt_le, ← Int64.toInt_inj, Int32.toInt_toInt64, Int32.reduceToInt, Int64.reduceToInt] at t_10_34
      refine lv_iload_n hx hb dX6_choose_13 rfl (lv_at hl 1 rfl) ?_
      refine lv_bipush (v := 26) hx hb dX6_choose_14 (by decide) ?_
      refine lv_icmp_ne (tgt := 23) hx hb dX6_choose_16 (by decide) (fun c_16_35 => ?_) (fun c_16_35 => ?_)
      · have t_16_35 := c_16_35
        try simp only [kb_eq0, kb_ne0, lg_cmp_lt, lg_cmp_le, lg_cmp_gt, lg_cmp_ge, lg_cmp_eq] at t_16_35
        try simp only [Int32.lt_iff_toInt_lt, Int32.le_iff_toInt_le, ← Int32.toInt_inj, Int64.lt_iff_toInt_lt, Int64.le_iff_toInt_le, ← Int64.toInt_inj, Int32.toInt_toInt64, Int32.reduceToInt, Int64.reduceToInt] at t_16_35
        refine lv_iconst (v := 0) hx hb dX6_choose_23 (by decide) ?_
        exact J24 0  _ _ (hP.sub [0, 1, 2, 3, 4, 5, 6, 7, 8, 9] rfl) (hD.sub [0, 1, 2, 3, 4, 5, 6, 7, 8, 9] (by decide) rfl) hS ls (lv_sub hl [0, 1, 2] rfl)
      · have t_16_35 := c_16_35
        try simp only [kb_eq0, kb_ne0, lg_cmp_lt, lg_cmp_le, lg_cmp_gt, lg_cmp_ge, lg_cmp_eq] at t_16_35
        try simp only [Int32.lt_iff_toInt_lt, Int32.le_iff_toInt_le, ← Int32.toInt_inj, Int64.lt_iff_toInt_lt, Int64.le_iff_toInt_le, ← Int64.toInt_inj, Int32.toInt_toInt64, Int32.reduceToInt, Int64.reduceToInt] at t_16_35
        refine lv_iconst (v := 1) hx hb dX6_choose_19 (by decide) ?_
        refine lv_goto (tgt := 24) hx hb dX6_choose_20 (by decide) ?_
        exact J24 1  _ _ (hP.sub [0, 1, 2, 3, 4, 5, 6, 7, 8, 9] rfl) (hD.sub [0, 1, 2, 3, 4, 5, 6, 7, 8, 9] (by decide) rfl) hS ls (lv_sub hl [0, 1, 2] rfl)
set_option maxRecDepth 100000 in
theorem iX6_setDrumPlace_X6 : ∀ w ∈ wsX60, w ∈ wsX6_setDrumPlace := fun w h => (goodIn_r (big := wsX6_setDrumPlace) wsX60 [9, 10, 11, 12] rfl (by decide +kernel) w h).1
set_option maxRecDepth 100000 in
set_option maxHeartbeats 4000000 in
theorem g_setDrumPlace (l : Launch) (D : va_G) (cI cL cB cZ cT : ClassId) (sz : Nat) (aU bT aD : Nat) (ch ww : Int32) (bD : Nat) (dp : Int32) (fd : Nat → Int64) (i : Int32) : kM (S := (Int32)) l yX6_setDrumPlace wsX6_setDrumPlace ({ frames := 1, cells := 0, slots := 0, locals := 21 }) D (kT cI cL cB cZ cT) [.ref aU, .int i] [(aU, .inr (6, [.ref bT, .ref aD, .int ch, .int ww])), (aD, .inr (1, [.ref bD, .int dp])), (bD, .inl (cL, 256, .inr (.inl fd)))] sz eI (fun r _ => r = 0 ∨ r = 1) (fun u => [(aU, .inr (6, [.ref bT, .ref aD, .int ch, .int ww])), (aD, .inr (1, [.ref bD, .int u])), (bD, .inl (cL, 256, .inr (.inl fd)))]) 0 0 := by
  refine kStart (cc := cX6_setDrumPlace) (maxL := 2) (ret := (some .boolean)) (own := RX6) (by decide) rfl rfl (Nat.le_of_ble_eq_true rfl) ?_
  intro p e s m args below meth c A ls hx hb hr hml hown hts hlocks hnm hsz hA hG hP hD hS hl
  have hK := hG.1
  have hl : lv_has ls 2 [(0, .ref aU), (1, .int i)] := hl
  refine lv_aload_n hx hb dX6_setDrumPlace_0 rfl (lv_at hl 0 rfl) ?_
  refine va_get (D := D) (ci := 6) (v := .int ch) (C := RX6) (T := TX6) (N := 4) hx hb hts iX6_setDrumPlace_X6 hown hK hP 0 rfl rfl 2 (by decide) (hts (.fieldLink RX6 36 "TapeCalculator$Units" "chosen" "I") (List.mem_of_getElem? (i := 1) rfl)) (fun _ h9 => h9) rfl dX6_setDrumPlace_1 ?_
  refine lv_bipush (v := 13) hx hb dX6_setDrumPlace_4 (by decide) ?_
  refine lv_icmp_eq (tgt := 20) hx hb dX6_setDrumPlace_6 (by decide) (fun c_6_0 => ?_) (fun c_6_0 => ?_)
  · have t_6_0 := c_6_0
    try simp only [kb_eq0, kb_ne0, lg_cmp_lt, lg_cmp_le, lg_cmp_gt, lg_cmp_ge, lg_cmp_eq] at t_6_0
    try simp only [Int32.lt_iff_toInt_lt, Int32.le_iff_toInt_le, ← Int32.toInt_inj, Int64.lt_iff_toInt_lt, Int64.le_iff_toInt_le, ← Int64.toInt_inj, Int32.toInt_toInt64, Int32.reduceToInt, Int64.reduceToInt] at t_6_0
    refine lv_aload_n hx hb dX6_setDrumPlace_20 rfl (lv_at hl 0 rfl) ?_
    refine va_get (D := D) (ci := 6) (v := .ref aD) (C := RX6) (T := TX6) (N := 4) hx hb hts iX6_setDrumPlace_X6 hown hK hP 0 rfl rfl 1 (by decide) (hts (.fieldLink RX6 21 "TapeCalculator$Units" "drum" "LTapeCalculator$Drum;") (List.mem_of_getElem? (i := 2) rfl)) (fun _ h9 => h9) rfl dX6_setDrumPlace_21 ?_
    refine lv_iload_n hx hb dX6_setDrumPlace_24 rfl (lv_at hl 1 rfl) ?_
    refine kCallVd (wr := [(aU, .inr (6, [.ref bT, .ref aD, .int ch, .int ww]))]) (va_runV (As := [.int i]) (rest := []) ⟨hx, hb, hml, hown, hts⟩ (g_moveTo l D cI cL cB cZ cT _ aD bD dp fd i) (cwV 1 hts gX6_setDrumPlace_X1_moveTo rfl rfl rfl (by decide +kernel) ⟨Nat.le_of_ble_eq_true rfl, Nat.le_of_ble_eq_true rfl⟩) (kPreV hG hP hD [1, 2] rfl (by decide) 0 1 rfl rfl rfl) rfl rfl hl.1 rfl (lv_room (Nat.le_of_ble_eq_true rfl)) dX6_setDrumPlace_25 ⟨Nat.le_of_ble_eq_true rfl, Nat.le_of_ble_eq_true rfl⟩) hA hP hD hS [1, 2] [0] rfl rfl (by decide) (by decide) (fun _ u_r_2 H locs wr_2 hP hD hS => ?_)
    have hP : va_P D vwCl [(aU, .inr (6, [.ref bT, .ref aD, .int ch, .int ww])), (aD, .inr (1, [.ref bD, .int u_r_2])), (bD, .inl (cL, 256, .inr (.inl fd)))] H := hP
    have hD : va_D A [(aU, .inr (6, [.ref bT, .ref aD, .int ch, .int ww])), (aD, .inr (1, [.ref bD, .int u_r_2])), (bD, .inl (cL, 256, .inr (.inl fd)))] := hD
    try dsimp only at wr_2
    refine lv_iconst (v := 1) hx hb dX6_setDrumPlace_28 (by decide) ?_
    refine kIret (u := u_r_2) hx hb hr rfl hlocks hS dX6_setDrumPlace_29 ?_ (hP.sub [0, 1, 2] rfl) (hD.sub [0, 1, 2] (by decide) rfl)
    first
      | exact Or.inl rfl
      | exact Or.inr rfl
      | assumption
  · have t_6_0 := c_6_0
    try simp only [kb_eq0, kb_ne0, lg_cmp_lt, lg_cmp_le, lg_cmp_gt, lg_cmp_ge, lg_cmp_eq] at t_6_0
    try simp only [Int32.lt_iff_toInt_lt, Int32.le_iff_toInt_le, ← Int32.toInt_inj, Int64.lt_iff_toInt_lt, Int64.le_iff_toInt_le, ← Int64.toInt_inj, Int32.toInt_toInt64, Int32.reduceToInt, Int64.reduceToInt] at t_6_0
    refine lv_aload_n hx hb dX6_setDrumPlace_9 rfl (lv_at hl 0 rfl) ?_
    refine va_get (D := D) (ci := 6) (v := .int ch) (C := RX6) (T := TX6) (N := 4) hx hb hts iX6_setDrumPlace_X6 hown hK hP 0 rfl rfl 2 (by decide) (hts (.fieldLink RX6 36 "TapeCalculator$Units" "chosen" "I") (List.mem_of_getElem? (i := 1) rfl)) (fun _ h9 => h9) rfl dX6_setDrumPlace_10 ?_
    refine lv_bipush (v := 14) hx hb dX6_setDrumPlace_13 (by decide) ?_
    refine lv_icmp_eq (tgt := 20) hx hb dX6_setDrumPlace_15 (by decide) (fun c_15_2 => ?_) (fun c_15_2 => ?_)
    · have t_15_2 := c_15_2
      try simp only [kb_eq0, kb_ne0, lg_cmp_lt, lg_cmp_le, lg_cmp_gt, lg_cmp_ge, lg_cmp_eq] at t_15_2
      try simp only [Int32.lt_iff_toInt_lt, Int32.le_iff_toInt_le, ← Int32.toInt_inj, Int64.lt_iff_toInt_lt, Int64.le_iff_toInt_le, ← Int64.toInt_inj, Int32.toInt_toInt64, Int32.reduceToInt, Int64.reduceToInt] at t_15_2
      refine lv_aload_n hx hb dX6_setDrumPlace_20 rfl (lv_at hl 0 rfl) ?_
      refine va_get (D := D) (ci := 6) (v := .ref aD) (C := RX6) (T := TX6) (N := 4) hx hb hts iX6_setDrumPlace_X6 hown hK hP 0 rfl rfl 1 (by decide) (hts (.fieldLink RX6 21 "TapeCalculator$Units" "drum" "LTapeCalculator$Drum;") (List.mem_of_getElem? (i := 2) rfl)) (fun _ h9 => h9) rfl dX6_setDrumPlace_21 ?_
      refine lv_iload_n hx hb dX6_setDrumPlace_24 rfl (lv_at hl 1 rfl) ?_
      refine kCallVd (wr := [(aU, .inr (6, [.ref bT, .ref aD, .int ch, .int ww]))]) (va_runV (As := [.int i]) (rest := []) ⟨hx, hb, hml, hown, hts⟩ (g_moveTo l D cI cL cB cZ cT _ aD bD dp fd i) (cwV 1 hts gX6_setDrumPlace_X1_moveTo rfl rfl rfl (by decide +kernel) ⟨Nat.le_of_ble_eq_true rfl, Nat.le_of_ble_eq_true rfl⟩) (kPreV hG hP hD [1, 2] rfl (by decide) 0 1 rfl rfl rfl) rfl rfl hl.1 rfl (lv_room (Nat.le_of_ble_eq_true rfl)) dX6_setDrumPlace_25 ⟨Nat.le_of_ble_eq_true rfl, Nat.le_of_ble_eq_true rfl⟩) hA hP hD hS [1, 2] [0] rfl rfl (by decide) (by decide) (fun _ u_r_4 H locs wr_4 hP hD hS => ?_)
      have hP : va_P D vwCl [(aU, .inr (6, [.ref bT, .ref aD, .int ch, .int ww])), (aD, .inr (1, [.ref bD, .int u_r_4])), (bD, .inl (cL, 256, .inr (.inl fd)))] H := hP
      have hD : va_D A [(aU, .inr (6, [.ref bT, .ref aD, .int ch, .int ww])), (aD, .inr (1, [.ref bD, .int u_r_4])), (bD, .inl (cL, 256, .inr (.inl fd)))] := hD
      try dsimp only at wr_4
      refine lv_iconst (v := 1) hx hb dX6_setDrumPlace_28 (by decide) ?_
      refine kIret (u := u_r_4) hx hb hr rfl hlocks hS dX6_setDrumPlace_29 ?_ (hP.sub [0, 1, 2] rfl) (hD.sub [0, 1, 2] (by decide) rfl)
      first
        | exact Or.inl rfl
        | exact Or.inr rfl
        | assumption
    · have t_15_2 := c_15_2
      try simp only [kb_eq0, kb_ne0, lg_cmp_lt, lg_cmp_le, lg_cmp_gt, lg_cmp_ge, lg_cmp_eq] at t_15_2
      try simp only [Int32.lt_iff_toInt_lt, Int32.le_iff_toInt_le, ← Int32.toInt_inj, Int64.lt_iff_toInt_lt, Int64.le_iff_toInt_le, ← Int64.toInt_inj, Int32.toInt_toInt64, Int32.reduceToInt, Int64.reduceToInt] at t_15_2
      refine lv_iconst (v := 0) hx hb dX6_setDrumPlace_18 (by decide) ?_
      refine kIret (u := dp) hx hb hr rfl hlocks hS dX6_setDrumPlace_19 ?_ (hP.sub [0, 1, 2] rfl) (hD.sub [0, 1, 2] (by decide) rfl)
      first
        | exact Or.inl rfl
        | exact Or.inr rfl
        | assumption
set_option maxRecDepth 100000 in
theorem iX6_writeWord_X6 : ∀ w ∈ wsX60, w ∈ wsX6_writeWord := fun w h => (goodIn_r (big := wsX6_writeWord) wsX60 [33, 34, 35, 36] rfl (by decide +kernel) w h).1
set_option maxRecDepth 100000 in
set_option maxHeartbeats 4000000 in
theorem g_writeWord (l : Launch) (D : va_G) (cI cL cB cZ cT : ClassId) (sz : Nat) (aU bT aD : Nat) (ch ww : Int32) (t0 t1 t2 t3 : Nat) (i0 i1 i2 i3 : Nat) (n0 n1 n2 n3 p0 p1 p2 p3 : Int32) (f0 f1 f2 f3 : Nat → Int64) (bD : Nat) (dp : Int32) (fd : Nat → Int64) (v : Int64) : kM (S := (Int32 × Int32 × Int32 × Int32 × Int32 × Int32 × Int32 × Int32 × Int32 × Int32 × (Nat → Int64) × (Nat → Int64) × (Nat → Int64) × (Nat → Int64) × Int32 × (Nat → Int64))) l yX6_writeWord wsX6_writeWord ({ frames := 2, cells := 0, slots := 0, locals := 43 }) D (kT cI cL cB cZ cT) [.ref aU, .long v] [(aU, .inr (6, [.ref bT, .ref aD, .int ch, .int ww])), (bT, .inl (cT, 4, .inr (.inr (.inr (.inr (k4 t0 t1 t2 t3)))))), (t0, .inr (4, [.ref i0, .int n0, .int p0])), (i0, .inl (cL, 300, .inr (.inl f0))), (t1, .inr (4, [.ref i1, .int n1, .int p1])), (i1, .inl (cL, 300, .inr (.inl f1))), (t2, .inr (4, [.ref i2, .int n2, .int p2])), (i2, .inl (cL, 300, .inr (.inl f2))), (t3, .inr (4, [.ref i3, .int n3, .int p3])), (i3, .inl (cL, 300, .inr (.inl f3))), (aD, .inr (1, [.ref bD, .int dp])), (bD, .inl (cL, 256, .inr (.inl fd)))] sz eI (fun r _ => r = 0 ∨ r = 1) (fun u => [(aU, .inr (6, [.ref bT, .ref aD, .int u.1, .int u.2.1])), (bT, .inl (cT, 4, .inr (.inr (.inr (.inr (k4 t0 t1 t2 t3)))))), (t0, .inr (4, [.ref i0, .int u.2.2.1, .int u.2.2.2.2.2.2.1])), (i0, .inl (cL, 300, .inr (.inl u.2.2.2.2.2.2.2.2.2.2.1))), (t1, .inr (4, [.ref i1, .int u.2.2.2.1, .int u.2.2.2.2.2.2.2.1])), (i1, .inl (cL, 300, .inr (.inl u.2.2.2.2.2.2.2.2.2.2.2.1))), (t2, .inr (4, [.ref i2, .int u.2.2.2.2.1, .int u.2.2.2.2.2.2.2.2.1])), (i2, .inl (cL, 300, .inr (.inl u.2.2.2.2.2.2.2.2.2.2.2.2.1))), (t3, .inr (4, [.ref i3, .int u.2.2.2.2.2.1, .int u.2.2.2.2.2.2.2.2.2.1])), (i3, .inl (cL, 300, .inr (.inl u.2.2.2.2.2.2.2.2.2.2.2.2.2.1))), (aD, .inr (1, [.ref bD, .int u.2.2.2.2.2.2.2.2.2.2.2.2.2.2.1])), (bD, .inl (cL, 256, .inr (.inl u.2.2.2.2.2.2.2.2.2.2.2.2.2.2.2)))]) 0 0 := by
  refine kStart (cc := cX6_writeWord) (maxL := 5) (ret := (some .boolean)) (own := RX6) (by decide) rfl rfl (Nat.le_of_ble_eq_true rfl) ?_
  intro p e s m args below meth c A ls hx hb hr hml hown hts hlocks hnm hsz hA hG hP hD hS hl
  have hK := hG.1
  have hl : lv_has ls 5 [(0, .ref aU), (1, .long v)] := hl
  refine lv_aload_n hx hb dX6_writeWord_0 rfl (lv_at hl 0 rfl) ?_
  refine kCallR (wr := [(t0, .inr (4, [.ref i0, .int n0, .int p0])), (i0, .inl (cL, 300, .inr (.inl f0))), (t1, .inr (4, [.ref i1, .int n1, .int p1])), (i1, .inl (cL, 300, .inr (.inl f1))), (t2, .inr (4, [.ref i2, .int n2, .int p2])), (i2, .inl (cL, 300, .inr (.inl f2))), (t3, .inr (4, [.ref i3, .int n3, .int p3])), (i3, .inl (cL, 300, .inr (.inl f3))), (aD, .inr (1, [.ref bD, .int dp])), (bD, .inl (cL, 256, .inr (.inl fd)))]) (va_runV (As := []) (rest := []) ⟨hx, hb, hml, hown, hts⟩ (g_writtenTape l D cI cL cB cZ cT _ aU bT aD ch ww t0 t1 t2 t3) (cwV 0 hts gX6_writeWord_X6_writtenTape rfl rfl rfl (by decide +kernel) ⟨Nat.le_of_ble_eq_true rfl, Nat.le_of_ble_eq_true rfl⟩) (kPreV hG hP hD [0, 1] rfl (by decide) 0 6 rfl rfl rfl) rfl rfl hl.1 rfl (lv_room (Nat.le_of_ble_eq_true rfl)) dX6_writeWord_1 ⟨Nat.le_of_ble_eq_true rfl, Nat.le_of_ble_eq_true rfl⟩) hA hP hD hS [0, 1] [2, 3, 4, 5, 6, 7, 8, 9, 10, 11] rfl rfl (by decide) (by decide) (fun r_1 u_r_1 H locs wr_1 hP hD hS => ?_)
  have hP : va_P D vwCl [(t0, .inr (4, [.ref i0, .int n0, .int p0])), (i0, .inl (cL, 300, .inr (.inl f0))), (t1, .inr (4, [.ref i1, .int n1, .int p1])), (i1, .inl (cL, 300, .inr (.inl f1))), (t2, .inr (4, [.ref i2, .int n2, .int p2])), (i2, .inl (cL, 300, .inr (.inl f2))), (t3, .inr (4, [.ref i3, .int n3, .int p3])), (i3, .inl (cL, 300, .inr (.inl f3))), (aD, .inr (1, [.ref bD, .int dp])), (bD, .inl (cL, 256, .inr (.inl fd))), (aU, .inr (6, [.ref bT, .ref aD, .int ch, .int ww])), (bT, .inl (cT, 4, .inr (.inr (.inr (.inr (k4 t0 t1 t2 t3))))))] H := hP
  have hD : va_D A [(t0, .inr (4, [.ref i0, .int n0, .int p0])), (i0, .inl (cL, 300, .inr (.inl f0))), (t1, .inr (4, [.ref i1, .int n1, .int p1])), (i1, .inl (cL, 300, .inr (.inl f1))), (t2, .inr (4, [.ref i2, .int n2, .int p2])), (i2, .inl (cL, 300, .inr (.inl f2))), (t3, .inr (4, [.ref i3, .int n3, .int p3])), (i3, .inl (cL, 300, .inr (.inl f3))), (aD, .inr (1, [.ref bD, .int dp])), (bD, .inl (cL, 256, .inr (.inl fd))), (aU, .inr (6, [.ref bT, .ref aD, .int ch, .int ww])), (bT, .inl (cT, 4, .inr (.inr (.inr (.inr (k4 t0 t1 t2 t3))))))] := hD
  try dsimp only at wr_1
  rcases wr_1 with rfl | rfl | rfl | rfl | rfl
  · show W _ _ _ _ _ _ _ _ _ _ _ _ _ _ _ (F0 _ _ _ (Value.null :: _))
    refine lv_astore_nN (lv' := [(3, .null), (0, .ref aU), (1, .long v)]) hx hb dX6_writeWord_4 rfl hl (by decide) rfl (fun ls hl => ?_)
    refine lv_aload_nN hx hb dX6_writeWord_5 rfl (lv_at hl 0 rfl) ?_
    refine lv_ifnonnullN hx hb dX6_writeWord_6 ?_
    refine lv_aload_n hx hb dX6_writeWord_9 rfl (lv_at hl 1 rfl) ?_
    refine va_get (D := D) (ci := 6) (v := .ref aD) (C := RX6) (T := TX6) (N := 4) hx hb hts iX6_writeWord_X6 hown hK hP 10 rfl rfl 1 (by decide) (hts (.fieldLink RX6 21 "TapeCalculator$Units" "drum" "LTapeCalculator$Drum;") (List.mem_of_getElem? (i := 1) rfl)) (fun _ h9 => h9) rfl dX6_writeWord_10 ?_
    refine lv_lload_n hx hb dX6_writeWord_13 rfl (lv_at hl 2 rfl) ?_
    refine kCallVd (wr := [(t0, .inr (4, [.ref i0, .int n0, .int p0])), (i0, .inl (cL, 300, .inr (.inl f0))), (t1, .inr (4, [.ref i1, .int n1, .int p1])), (i1, .inl (cL, 300, .inr (.inl f1))), (t2, .inr (4, [.ref i2, .int n2, .int p2])), (i2, .inl (cL, 300, .inr (.inl f2))), (t3, .inr (4, [.ref i3, .int n3, .int p3])), (i3, .inl (cL, 300, .inr (.inl f3))), (aU, .inr (6, [.ref bT, .ref aD, .int ch, .int ww])), (bT, .inl (cT, 4, .inr (.inr (.inr (.inr (k4 t0 t1 t2 t3))))))]) (va_runV (As := [.long v]) (rest := []) ⟨hx, hb, hml, hown, hts⟩ (g_writeHere l D cI cL cB cZ cT _ aD bD dp fd v) (cwV 1 hts gX6_writeWord_X1_writeHere rfl rfl rfl (by decide +kernel) ⟨Nat.le_of_ble_eq_true rfl, Nat.le_of_ble_eq_true rfl⟩) (kPreV hG hP hD [8, 9] rfl (by decide) 0 1 rfl rfl rfl) rfl rfl hl.1 rfl (lv_room (Nat.le_of_ble_eq_true rfl)) dX6_writeWord_14 ⟨Nat.le_of_ble_eq_true rfl, Nat.le_of_ble_eq_true rfl⟩) hA hP hD hS [8, 9] [0, 1, 2, 3, 4, 5, 6, 7, 10, 11] rfl rfl (by decide) (by decide) (fun _ u_r_2 H locs wr_2 hP hD hS => ?_)
    have hP : va_P D vwCl [(t0, .inr (4, [.ref i0, .int n0, .int p0])), (i0, .inl (cL, 300, .inr (.inl f0))), (t1, .inr (4, [.ref i1, .int n1, .int p1])), (i1, .inl (cL, 300, .inr (.inl f1))), (t2, .inr (4, [.ref i2, .int n2, .int p2])), (i2, .inl (cL, 300, .inr (.inl f2))), (t3, .inr (4, [.ref i3, .int n3, .int p3])), (i3, .inl (cL, 300, .inr (.inl f3))), (aU, .inr (6, [.ref bT, .ref aD, .int ch, .int ww])), (bT, .inl (cT, 4, .inr (.inr (.inr (.inr (k4 t0 t1 t2 t3)))))), (aD, .inr (1, [.ref bD, .int u_r_2.1])), (bD, .inl (cL, 256, .inr (.inl u_r_2.2)))] H := hP
    have hD : va_D A [(t0, .inr (4, [.ref i0, .int n0, .int p0])), (i0, .inl (cL, 300, .inr (.inl f0))), (t1, .inr (4, [.ref i1, .int n1, .int p1])), (i1, .inl (cL, 300, .inr (.inl f1))), (t2, .inr (4, [.ref i2, .int n2, .int p2])), (i2, .inl (cL, 300, .inr (.inl f2))), (t3, .inr (4, [.ref i3, .int n3, .int p3])), (i3, .inl (cL, 300, .inr (.inl f3))), (aU, .inr (6, [.ref bT, .ref aD, .int ch, .int ww])), (bT, .inl (cT, 4, .inr (.inr (.inr (.inr (k4 t0 t1 t2 t3)))))), (aD, .inr (1, [.ref bD, .int u_r_2.1])), (bD, .inl (cL, 256, .inr (.inl u_r_2.2)))] := hD
    try dsimp only at wr_2
    refine lv_iconst (v := 1) hx hb dX6_writeWord_17 (by decide) ?_
    refine kIret (u := (ch, ww, n0, n1, n2, n3, p0, p1, p2, p3, f0, f1, f2, f3, u_r_2.1, u_r_2.2)) hx hb hr rfl hlocks hS dX6_writeWord_18 ?_ (hP.sub [8, 9, 0, 1, 2, 3, 4, 5, 6, 7, 10, 11] rfl) (hD.sub [8, 9, 0, 1, 2, 3, 4, 5, 6, 7, 10, 11] (by decide) rfl)
    first
      | exact Or.inl rfl
      | exact Or.inr rfl
      | assumption
  · show W _ _ _ _ _ _ _ _ _ _ _ _ _ _ _ (F0 _ _ _ (Value.ref t0 :: _))
    refine lv_astore_n (lv' := [(3, .ref t0), (0, .ref aU), (1, .long v)]) hx hb dX6_writeWord_4 rfl hl (by decide) rfl (fun ls hl => ?_)
    refine lv_aload_n hx hb dX6_writeWord_5 rfl (lv_at hl 0 rfl) ?_
    refine lv_ifnonnull (tgt := 19) hx hb dX6_writeWord_6 (by decide) ?_
    refine lv_aload_n hx hb dX6_writeWord_19 rfl (lv_at hl 0 rfl) ?_
    refine lv_lload_n hx hb dX6_writeWord_20 rfl (lv_at hl 2 rfl) ?_
    refine kCallI (wr := [(t1, .inr (4, [.ref i1, .int n1, .int p1])), (i1, .inl (cL, 300, .inr (.inl f1))), (t2, .inr (4, [.ref i2, .int n2, .int p2])), (i2, .inl (cL, 300, .inr (.inl f2))), (t3, .inr (4, [.ref i3, .int n3, .int p3])), (i3, .inl (cL, 300, .inr (.inl f3))), (aD, .inr (1, [.ref bD, .int dp])), (bD, .inl (cL, 256, .inr (.inl fd))), (aU, .inr (6, [.ref bT, .ref aD, .int ch, .int ww])), (bT, .inl (cT, 4, .inr (.inr (.inr (.inr (k4 t0 t1 t2 t3))))))]) (va_runV (As := [.long v]) (rest := []) ⟨hx, hb, hml, hown, hts⟩ (g_putHere l D cI cL cB cZ cT _ t0 i0 n0 p0 f0 v) (cwV 1 hts gX6_writeWord_X4_putHere rfl rfl rfl (by decide +kernel) ⟨Nat.le_of_ble_eq_true rfl, Nat.le_of_ble_eq_true rfl⟩) (kPreV hG hP hD [0, 1] rfl (by decide) 0 4 rfl rfl rfl) rfl rfl hl.1 rfl (lv_room (Nat.le_of_ble_eq_true rfl)) dX6_writeWord_21 ⟨Nat.le_of_ble_eq_true rfl, Nat.le_of_ble_eq_true rfl⟩) hA hP hD hS [0, 1] [2, 3, 4, 5, 6, 7, 8, 9, 10, 11] rfl rfl (by decide) (by decide) (fun r_3 u_r_3 H locs wr_3 hP hD hS => ?_)
    have hP : va_P D vwCl [(t1, .inr (4, [.ref i1, .int n1, .int p1])), (i1, .inl (cL, 300, .inr (.inl f1))), (t2, .inr (4, [.ref i2, .int n2, .int p2])), (i2, .inl (cL, 300, .inr (.inl f2))), (t3, .inr (4, [.ref i3, .int n3, .int p3])), (i3, .inl (cL, 300, .inr (.inl f3))), (aD, .inr (1, [.ref bD, .int dp])), (bD, .inl (cL, 256, .inr (.inl fd))), (aU, .inr (6, [.ref bT, .ref aD, .int ch, .int ww])), (bT, .inl (cT, 4, .inr (.inr (.inr (.inr (k4 t0 t1 t2 t3)))))), (t0, .inr (4, [.ref i0, .int u_r_3.1, .int u_r_3.2.1])), (i0, .inl (cL, 300, .inr (.inl u_r_3.2.2)))] H := hP
    have hD : va_D A [(t1, .inr (4, [.ref i1, .int n1, .int p1])), (i1, .inl (cL, 300, .inr (.inl f1))), (t2, .inr (4, [.ref i2, .int n2, .int p2])), (i2, .inl (cL, 300, .inr (.inl f2))), (t3, .inr (4, [.ref i3, .int n3, .int p3])), (i3, .inl (cL, 300, .inr (.inl f3))), (aD, .inr (1, [.ref bD, .int dp])), (bD, .inl (cL, 256, .inr (.inl fd))), (aU, .inr (6, [.ref bT, .ref aD, .int ch, .int ww])), (bT, .inl (cT, 4, .inr (.inr (.inr (.inr (k4 t0 t1 t2 t3)))))), (t0, .inr (4, [.ref i0, .int u_r_3.1, .int u_r_3.2.1])), (i0, .inl (cL, 300, .inr (.inl u_r_3.2.2)))] := hD
    try dsimp only at wr_3
    refine lv_istore (lv' := [(4, .int r_3), (3, .ref t0), (0, .ref aU), (1, .long v)]) hx hb dX6_writeWord_24 hl (by decide) rfl (fun ls hl => ?_)
    refine lv_aload_n hx hb dX6_writeWord_26 rfl (lv_at hl 2 rfl) ?_
    refine lv_aload_n hx hb dX6_writeWord_27 rfl (lv_at hl 2 rfl) ?_
    refine va_get (D := D) (ci := 6) (v := .int ww) (C := RX6) (T := TX6) (N := 4) hx hb hts iX6_writeWord_X6 hown hK hP 8 rfl rfl 3 (by decide) (hts (.fieldLink RX6 39 "TapeCalculator$Units" "wordWritten" "Z") (List.mem_of_getElem? (i := 2) rfl)) (fun _ h9 => h9) rfl dX6_writeWord_28 ?_
    refine lv_if_ne (tgt := 39) hx hb dX6_writeWord_31 (by decide) (fun c_31_3 => ?_) (fun c_31_3 => ?_)
    · have t_31_3 := c_31_3
      try simp only [kb_eq0, kb_ne0, lg_cmp_lt, lg_cmp_le, lg_cmp_gt, lg_cmp_ge, lg_cmp_eq] at t_31_3
      try simp only [Int32.lt_iff_toInt_lt, Int32.le_iff_toInt_le, ← Int32.toInt_inj, Int64.lt_iff_toInt_lt, Int64.le_iff_toInt_le, ← Int64.toInt_inj, Int32.toInt_toInt64, Int32.reduceToInt, Int64.reduceToInt] at t_31_3
      refine lv_iconst (v := 1) hx hb dX6_writeWord_39 (by decide) ?_
      refine lv_goto (tgt := 44) hx hb dX6_writeWord_40 (by decide) ?_
      refine va_put (D := D) (ci := 6) (v := .int 1) (ty := .boolean) (C := RX6) (T := TX6) (N := 4) hx hb hts iX6_writeWord_X6 tyX6 tyX6_ok nmX6 hown hK hP hD hS 8 rfl rfl 3 (by decide) (hts (.fieldLink RX6 39 "TapeCalculator$Units" "wordWritten" "Z") (List.mem_of_getElem? (i := 2) rfl)) (fun _ h9 => h9) rfl (by decide +kernel) rfl rfl (Nat.le_of_ble_eq_true rfl) dX6_writeWord_44 (fun H locs hP hD hS => ?_)
      have hP : va_P D vwCl [(t1, .inr (4, [.ref i1, .int n1, .int p1])), (i1, .inl (cL, 300, .inr (.inl f1))), (t2, .inr (4, [.ref i2, .int n2, .int p2])), (i2, .inl (cL, 300, .inr (.inl f2))), (t3, .inr (4, [.ref i3, .int n3, .int p3])), (i3, .inl (cL, 300, .inr (.inl f3))), (aD, .inr (1, [.ref bD, .int dp])), (bD, .inl (cL, 256, .inr (.inl fd))), (aU, .inr (6, [.ref bT, .ref aD, .int ch, .int 1])), (bT, .inl (cT, 4, .inr (.inr (.inr (.inr (k4 t0 t1 t2 t3)))))), (t0, .inr (4, [.ref i0, .int u_r_3.1, .int u_r_3.2.1])), (i0, .inl (cL, 300, .inr (.inl u_r_3.2.2)))] H := hP
      have hD : va_D A [(t1, .inr (4, [.ref i1, .int n1, .int p1])), (i1, .inl (cL, 300, .inr (.inl f1))), (t2, .inr (4, [.ref i2, .int n2, .int p2])), (i2, .inl (cL, 300, .inr (.inl f2))), (t3, .inr (4, [.ref i3, .int n3, .int p3])), (i3, .inl (cL, 300, .inr (.inl f3))), (aD, .inr (1, [.ref bD, .int dp])), (bD, .inl (cL, 256, .inr (.inl fd))), (aU, .inr (6, [.ref bT, .ref aD, .int ch, .int 1])), (bT, .inl (cT, 4, .inr (.inr (.inr (.inr (k4 t0 t1 t2 t3)))))), (t0, .inr (4, [.ref i0, .int u_r_3.1, .int u_r_3.2.1])), (i0, .inl (cL, 300, .inr (.inl u_r_3.2.2)))] := hD
      refine lv_iload hx hb dX6_writeWord_47 (lv_at hl 0 rfl) ?_
      refine kIret (u := (ch, 1, u_r_3.1, n1, n2, n3, u_r_3.2.1, p1, p2, p3, u_r_3.2.2, f1, f2, f3, dp, fd)) hx hb hr (kz_n wr_3) hlocks hS dX6_writeWord_49 ?_ (hP.sub [8, 9, 10, 11, 0, 1, 2, 3, 4, 5, 6, 7] rfl) (hD.sub [8, 9, 10, 11, 0, 1, 2, 3, 4, 5, 6, 7] (by decide) rfl)
      first
        | exact Or.inl rfl
        | exact Or.inr rfl
        | assumption
    · have t_31_3 := c_31_3
      try simp only [kb_eq0, kb_ne0, lg_cmp_lt, lg_cmp_le, lg_cmp_gt, lg_cmp_ge, lg_cmp_eq] at t_31_3
      try simp only [Int32.lt_iff_toInt_lt, Int32.le_iff_toInt_le, ← Int32.toInt_inj, Int64.lt_iff_toInt_lt, Int64.le_iff_toInt_le, ← Int64.toInt_inj, Int32.toInt_toInt64, Int32.reduceToInt, Int64.reduceToInt] at t_31_3
      refine lv_iload hx hb dX6_writeWord_34 (lv_at hl 0 rfl) ?_
      refine lv_if_eq (tgt := 43) hx hb dX6_writeWord_36 (by decide) (fun c_36_4 => ?_) (fun c_36_4 => ?_)
      · have t_36_4 := c_36_4
        try simp only [kb_eq0, kb_ne0, lg_cmp_lt, lg_cmp_le, lg_cmp_gt, lg_cmp_ge, lg_cmp_eq] at t_36_4
        try simp only [Int32.lt_iff_toInt_lt, Int32.le_iff_toInt_le, ← Int32.toInt_inj, Int64.lt_iff_toInt_lt, Int64.le_iff_toInt_le, ← Int64.toInt_inj, Int32.toInt_toInt64, Int32.reduceToInt, Int64.reduceToInt] at t_36_4
        refine lv_iconst (v := 0) hx hb dX6_writeWord_43 (by decide) ?_
        refine va_put (D := D) (ci := 6) (v := .int 0) (ty := .boolean) (C := RX6) (T := TX6) (N := 4) hx hb hts iX6_writeWord_X6 tyX6 tyX6_ok nmX6 hown hK hP hD hS 8 rfl rfl 3 (by decide) (hts (.fieldLink RX6 39 "TapeCalculator$Units" "wordWritten" "Z") (List.mem_of_getElem? (i := 2) rfl)) (fun _ h9 => h9) rfl (by decide +kernel) rfl rfl (Nat.le_of_ble_eq_true rfl) dX6_writeWord_44 (fun H locs hP hD hS => ?_)
        have hP : va_P D vwCl [(t1, .inr (4, [.ref i1, .int n1, .int p1])), (i1, .inl (cL, 300, .inr (.inl f1))), (t2, .inr (4, [.ref i2, .int n2, .int p2])), (i2, .inl (cL, 300, .inr (.inl f2))), (t3, .inr (4, [.ref i3, .int n3, .int p3])), (i3, .inl (cL, 300, .inr (.inl f3))), (aD, .inr (1, [.ref bD, .int dp])), (bD, .inl (cL, 256, .inr (.inl fd))), (aU, .inr (6, [.ref bT, .ref aD, .int ch, .int 0])), (bT, .inl (cT, 4, .inr (.inr (.inr (.inr (k4 t0 t1 t2 t3)))))), (t0, .inr (4, [.ref i0, .int u_r_3.1, .int u_r_3.2.1])), (i0, .inl (cL, 300, .inr (.inl u_r_3.2.2)))] H := hP
        have hD : va_D A [(t1, .inr (4, [.ref i1, .int n1, .int p1])), (i1, .inl (cL, 300, .inr (.inl f1))), (t2, .inr (4, [.ref i2, .int n2, .int p2])), (i2, .inl (cL, 300, .inr (.inl f2))), (t3, .inr (4, [.ref i3, .int n3, .int p3])), (i3, .inl (cL, 300, .inr (.inl f3))), (aD, .inr (1, [.ref bD, .int dp])), (bD, .inl (cL, 256, .inr (.inl fd))), (aU, .inr (6, [.ref bT, .ref aD, .int ch, .int 0])), (bT, .inl (cT, 4, .inr (.inr (.inr (.inr (k4 t0 t1 t2 t3)))))), (t0, .inr (4, [.ref i0, .int u_r_3.1, .int u_r_3.2.1])), (i0, .inl (cL, 300, .inr (.inl u_r_3.2.2)))] := hD
        refine lv_iload hx hb dX6_writeWord_47 (lv_at hl 0 rfl) ?_
        refine kIret (u := (ch, 0, u_r_3.1, n1, n2, n3, u_r_3.2.1, p1, p2, p3, u_r_3.2.2, f1, f2, f3, dp, fd)) hx hb hr (kz_n wr_3) hlocks hS dX6_writeWord_49 ?_ (hP.sub [8, 9, 10, 11, 0, 1, 2, 3, 4, 5, 6, 7] rfl) (hD.sub [8, 9, 10, 11, 0, 1, 2, 3, 4, 5, 6, 7] (by decide) rfl)
        first
          | exact Or.inl rfl
          | exact Or.inr rfl
          | assumption
      · have t_36_4 := c_36_4
        try simp only [kb_eq0, kb_ne0, lg_cmp_lt, lg_cmp_le, lg_cmp_gt, lg_cmp_ge, lg_cmp_eq] at t_36_4
        try simp only [Int32.lt_iff_toInt_lt, Int32.le_iff_toInt_le, ← Int32.toInt_inj, Int64.lt_iff_toInt_lt, Int64.le_iff_toInt_le, ← Int64.toInt_inj, Int32.toInt_toInt64, Int32.reduceToInt, Int64.reduceToInt] at t_36_4
        refine lv_iconst (v := 1) hx hb dX6_writeWord_39 (by decide) ?_
        refine lv_goto (tgt := 44) hx hb dX6_writeWord_40 (by decide) ?_
        refine va_put (D := D) (ci := 6) (v := .int 1) (ty := .boolean) (C := RX6) (T := TX6) (N := 4) hx hb hts iX6_writeWord_X6 tyX6 tyX6_ok nmX6 hown hK hP hD hS 8 rfl rfl 3 (by decide) (hts (.fieldLink RX6 39 "TapeCalculator$Units" "wordWritten" "Z") (List.mem_of_getElem? (i := 2) rfl)) (fun _ h9 => h9) rfl (by decide +kernel) rfl rfl (Nat.le_of_ble_eq_true rfl) dX6_writeWord_44 (fun H locs hP hD hS => ?_)
        have hP : va_P D vwCl [(t1, .inr (4, [.ref i1, .int n1, .int p1])), (i1, .inl (cL, 300, .inr (.inl f1))), (t2, .inr (4, [.ref i2, .int n2, .int p2])), (i2, .inl (cL, 300, .inr (.inl f2))), (t3, .inr (4, [.ref i3, .int n3, .int p3])), (i3, .inl (cL, 300, .inr (.inl f3))), (aD, .inr (1, [.ref bD, .int dp])), (bD, .inl (cL, 256, .inr (.inl fd))), (aU, .inr (6, [.ref bT, .ref aD, .int ch, .int 1])), (bT, .inl (cT, 4, .inr (.inr (.inr (.inr (k4 t0 t1 t2 t3)))))), (t0, .inr (4, [.ref i0, .int u_r_3.1, .int u_r_3.2.1])), (i0, .inl (cL, 300, .inr (.inl u_r_3.2.2)))] H := hP
        have hD : va_D A [(t1, .inr (4, [.ref i1, .int n1, .int p1])), (i1, .inl (cL, 300, .inr (.inl f1))), (t2, .inr (4, [.ref i2, .int n2, .int p2])), (i2, .inl (cL, 300, .inr (.inl f2))), (t3, .inr (4, [.ref i3, .int n3, .int p3])), (i3, .inl (cL, 300, .inr (.inl f3))), (aD, .inr (1, [.ref bD, .int dp])), (bD, .inl (cL, 256, .inr (.inl fd))), (aU, .inr (6, [.ref bT, .ref aD, .int ch, .int 1])), (bT, .inl (cT, 4, .inr (.inr (.inr (.inr (k4 t0 t1 t2 t3)))))), (t0, .inr (4, [.ref i0, .int u_r_3.1, .int u_r_3.2.1])), (i0, .inl (cL, 300, .inr (.inl u_r_3.2.2)))] := hD
        refine lv_iload hx hb dX6_writeWord_47 (lv_at hl 0 rfl) ?_
        refine kIret (u := (ch, 1, u_r_3.1, n1, n2, n3, u_r_3.2.1, p1, p2, p3, u_r_3.2.2, f1, f2, f3, dp, fd)) hx hb hr (kz_n wr_3) hlocks hS dX6_writeWord_49 ?_ (hP.sub [8, 9, 10, 11, 0, 1, 2, 3, 4, 5, 6, 7] rfl) (hD.sub [8, 9, 10, 11, 0, 1, 2, 3, 4, 5, 6, 7] (by decide) rfl)
        first
          | exact Or.inl rfl
          | exact Or.inr rfl
          | assumption
  · show W _ _ _ _ _ _ _ _ _ _ _ _ _ _ _ (F0 _ _ _ (Value.ref t1 :: _))
    refine lv_astore_n (lv' := [(3, .ref t1), (0, .ref aU), (1, .long v)]) hx hb dX6_writeWord_4 rfl hl (by decide) rfl (fun ls hl => ?_)
    refine lv_aload_n hx hb dX6_writeWord_5 rfl (lv_at hl 0 rfl) ?_
    refine lv_ifnonnull (tgt := 19) hx hb dX6_writeWord_6 (by decide) ?_
    refine lv_aload_n hx hb dX6_writeWord_19 rfl (lv_at hl 0 rfl) ?_
    refine lv_lload_n hx hb dX6_writeWord_20 rfl (lv_at hl 2 rfl) ?_
    refine kCallI (wr := [(t0, .inr (4, [.ref i0, .int n0, .int p0])), (i0, .inl (cL, 300, .inr (.inl f0))), (t2, .inr (4, [.ref i2, .int n2, .int p2])), (i2, .inl (cL, 300, .inr (.inl f2))), (t3, .inr (4, [.ref i3, .int n3, .int p3])), (i3, .inl (cL, 300, .inr (.inl f3))), (aD, .inr (1, [.ref bD, .int dp])), (bD, .inl (cL, 256, .inr (.inl fd))), (aU, .inr (6, [.ref bT, .ref aD, .int ch, .int ww])), (bT, .inl (cT, 4, .inr (.inr (.inr (.inr (k4 t0 t1 t2 t3))))))]) (va_runV (As := [.long v]) (rest := []) ⟨hx, hb, hml, hown, hts⟩ (g_putHere l D cI cL cB cZ cT _ t1 i1 n1 p1 f1 v) (cwV 1 hts gX6_writeWord_X4_putHere rfl rfl rfl (by decide +kernel) ⟨Nat.le_of_ble_eq_true rfl, Nat.le_of_ble_eq_true rfl⟩) (kPreV hG hP hD [2, 3] rfl (by decide) 0 4 rfl rfl rfl) rfl rfl hl.1 rfl (lv_room (Nat.le_of_ble_eq_true rfl)) dX6_writeWord_21 ⟨Nat.le_of_ble_eq_true rfl, Nat.le_of_ble_eq_true rfl⟩) hA hP hD hS [2, 3] [0, 1, 4, 5, 6, 7, 8, 9, 10, 11] rfl rfl (by decide) (by decide) (fun r_6 u_r_6 H locs wr_6 hP hD hS => ?_)
    have hP : va_P D vwCl [(t0, .inr (4, [.ref i0, .int n0, .int p0])), (i0, .inl (cL, 300, .inr (.inl f0))), (t2, .inr (4, [.ref i2, .int n2, .int p2])), (i2, .inl (cL, 300, .inr (.inl f2))), (t3, .inr (4, [.ref i3, .int n3, .int p3])), (i3, .inl (cL, 300, .inr (.inl f3))), (aD, .inr (1, [.ref bD, .int dp])), (bD, .inl (cL, 256, .inr (.inl fd))), (aU, .inr (6, [.ref bT, .ref aD, .int ch, .int ww])), (bT, .inl (cT, 4, .inr (.inr (.inr (.inr (k4 t0 t1 t2 t3)))))), (t1, .inr (4, [.ref i1, .int u_r_6.1, .int u_r_6.2.1])), (i1, .inl (cL, 300, .inr (.inl u_r_6.2.2)))] H := hP
    have hD : va_D A [(t0, .inr (4, [.ref i0, .int n0, .int p0])), (i0, .inl (cL, 300, .inr (.inl f0))), (t2, .inr (4, [.ref i2, .int n2, .int p2])), (i2, .inl (cL, 300, .inr (.inl f2))), (t3, .inr (4, [.ref i3, .int n3, .int p3])), (i3, .inl (cL, 300, .inr (.inl f3))), (aD, .inr (1, [.ref bD, .int dp])), (bD, .inl (cL, 256, .inr (.inl fd))), (aU, .inr (6, [.ref bT, .ref aD, .int ch, .int ww])), (bT, .inl (cT, 4, .inr (.inr (.inr (.inr (k4 t0 t1 t2 t3)))))), (t1, .inr (4, [.ref i1, .int u_r_6.1, .int u_r_6.2.1])), (i1, .inl (cL, 300, .inr (.inl u_r_6.2.2)))] := hD
    try dsimp only at wr_6
    refine lv_istore (lv' := [(4, .int r_6), (3, .ref t1), (0, .ref aU), (1, .long v)]) hx hb dX6_writeWord_24 hl (by decide) rfl (fun ls hl => ?_)
    refine lv_aload_n hx hb dX6_writeWord_26 rfl (lv_at hl 2 rfl) ?_
    refine lv_aload_n hx hb dX6_writeWord_27 rfl (lv_at hl 2 rfl) ?_
    refine va_get (D := D) (ci := 6) (v := .int ww) (C := RX6) (T := TX6) (N := 4) hx hb hts iX6_writeWord_X6 hown hK hP 8 rfl rfl 3 (by decide) (hts (.fieldLink RX6 39 "TapeCalculator$Units" "wordWritten" "Z") (List.mem_of_getElem? (i := 2) rfl)) (fun _ h9 => h9) rfl dX6_writeWord_28 ?_
    refine lv_if_ne (tgt := 39) hx hb dX6_writeWord_31 (by decide) (fun c_31_6 => ?_) (fun c_31_6 => ?_)
    · have t_31_6 := c_31_6
      try simp only [kb_eq0, kb_ne0, lg_cmp_lt, lg_cmp_le, lg_cmp_gt, lg_cmp_ge, lg_cmp_eq] at t_31_6
      try simp only [Int32.lt_iff_toInt_lt, Int32.le_iff_toInt_le, ← Int32.toInt_inj, Int64.lt_iff_toInt_lt, Int64.le_iff_toInt_le, ← Int64.toInt_inj, Int32.toInt_toInt64, Int32.reduceToInt, Int64.reduceToInt] at t_31_6
      refine lv_iconst (v := 1) hx hb dX6_writeWord_39 (by decide) ?_
      refine lv_goto (tgt := 44) hx hb dX6_writeWord_40 (by decide) ?_
      refine va_put (D := D) (ci := 6) (v := .int 1) (ty := .boolean) (C := RX6) (T := TX6) (N := 4) hx hb hts iX6_writeWord_X6 tyX6 tyX6_ok nmX6 hown hK hP hD hS 8 rfl rfl 3 (by decide) (hts (.fieldLink RX6 39 "TapeCalculator$Units" "wordWritten" "Z") (List.mem_of_getElem? (i := 2) rfl)) (fun _ h9 => h9) rfl (by decide +kernel) rfl rfl (Nat.le_of_ble_eq_true rfl) dX6_writeWord_44 (fun H locs hP hD hS => ?_)
      have hP : va_P D vwCl [(t0, .inr (4, [.ref i0, .int n0, .int p0])), (i0, .inl (cL, 300, .inr (.inl f0))), (t2, .inr (4, [.ref i2, .int n2, .int p2])), (i2, .inl (cL, 300, .inr (.inl f2))), (t3, .inr (4, [.ref i3, .int n3, .int p3])), (i3, .inl (cL, 300, .inr (.inl f3))), (aD, .inr (1, [.ref bD, .int dp])), (bD, .inl (cL, 256, .inr (.inl fd))), (aU, .inr (6, [.ref bT, .ref aD, .int ch, .int 1])), (bT, .inl (cT, 4, .inr (.inr (.inr (.inr (k4 t0 t1 t2 t3)))))), (t1, .inr (4, [.ref i1, .int u_r_6.1, .int u_r_6.2.1])), (i1, .inl (cL, 300, .inr (.inl u_r_6.2.2)))] H := hP
      have hD : va_D A [(t0, .inr (4, [.ref i0, .int n0, .int p0])), (i0, .inl (cL, 300, .inr (.inl f0))), (t2, .inr (4, [.ref i2, .int n2, .int p2])), (i2, .inl (cL, 300, .inr (.inl f2))), (t3, .inr (4, [.ref i3, .int n3, .int p3])), (i3, .inl (cL, 300, .inr (.inl f3))), (aD, .inr (1, [.ref bD, .int dp])), (bD, .inl (cL, 256, .inr (.inl fd))), (aU, .inr (6, [.ref bT, .ref aD, .int ch, .int 1])), (bT, .inl (cT, 4, .inr (.inr (.inr (.inr (k4 t0 t1 t2 t3)))))), (t1, .inr (4, [.ref i1, .int u_r_6.1, .int u_r_6.2.1])), (i1, .inl (cL, 300, .inr (.inl u_r_6.2.2)))] := hD
      refine lv_iload hx hb dX6_writeWord_47 (lv_at hl 0 rfl) ?_
      refine kIret (u := (ch, 1, n0, u_r_6.1, n2, n3, p0, u_r_6.2.1, p2, p3, f0, u_r_6.2.2, f2, f3, dp, fd)) hx hb hr (kz_n wr_6) hlocks hS dX6_writeWord_49 ?_ (hP.sub [8, 9, 0, 1, 10, 11, 2, 3, 4, 5, 6, 7] rfl) (hD.sub [8, 9, 0, 1, 10, 11, 2, 3, 4, 5, 6, 7] (by decide) rfl)
      first
        | exact Or.inl rfl
        | exact Or.inr rfl
        | assumption
    · have t_31_6 := c_31_6
      try simp only [kb_eq0, kb_ne0, lg_cmp_lt, lg_cmp_le, lg_cmp_gt, lg_cmp_ge, lg_cmp_eq] at t_31_6
      try simp only [Int32.lt_iff_toInt_lt, Int32.le_iff_toInt_le, ← Int32.toInt_inj, Int64.lt_iff_toInt_lt, Int64.le_iff_toInt_le, ← Int64.toInt_inj, Int32.toInt_toInt64, Int32.reduceToInt, Int64.reduceToInt] at t_31_6
      refine lv_iload hx hb dX6_writeWord_34 (lv_at hl 0 rfl) ?_
      refine lv_if_eq (tgt := 43) hx hb dX6_writeWord_36 (by decide) (fun c_36_7 => ?_) (fun c_36_7 => ?_)
      · have t_36_7 := c_36_7
        try simp only [kb_eq0, kb_ne0, lg_cmp_lt, lg_cmp_le, lg_cmp_gt, lg_cmp_ge, lg_cmp_eq] at t_36_7
        try simp only [Int32.lt_iff_toInt_lt, Int32.le_iff_toInt_le, ← Int32.toInt_inj, Int64.lt_iff_toInt_lt, Int64.le_iff_toInt_le, ← Int64.toInt_inj, Int32.toInt_toInt64, Int32.reduceToInt, Int64.reduceToInt] at t_36_7
        refine lv_iconst (v := 0) hx hb dX6_writeWord_43 (by decide) ?_
        refine va_put (D := D) (ci := 6) (v := .int 0) (ty := .boolean) (C := RX6) (T := TX6) (N := 4) hx hb hts iX6_writeWord_X6 tyX6 tyX6_ok nmX6 hown hK hP hD hS 8 rfl rfl 3 (by decide) (hts (.fieldLink RX6 39 "TapeCalculator$Units" "wordWritten" "Z") (List.mem_of_getElem? (i := 2) rfl)) (fun _ h9 => h9) rfl (by decide +kernel) rfl rfl (Nat.le_of_ble_eq_true rfl) dX6_writeWord_44 (fun H locs hP hD hS => ?_)
        have hP : va_P D vwCl [(t0, .inr (4, [.ref i0, .int n0, .int p0])), (i0, .inl (cL, 300, .inr (.inl f0))), (t2, .inr (4, [.ref i2, .int n2, .int p2])), (i2, .inl (cL, 300, .inr (.inl f2))), (t3, .inr (4, [.ref i3, .int n3, .int p3])), (i3, .inl (cL, 300, .inr (.inl f3))), (aD, .inr (1, [.ref bD, .int dp])), (bD, .inl (cL, 256, .inr (.inl fd))), (aU, .inr (6, [.ref bT, .ref aD, .int ch, .int 0])), (bT, .inl (cT, 4, .inr (.inr (.inr (.inr (k4 t0 t1 t2 t3)))))), (t1, .inr (4, [.ref i1, .int u_r_6.1, .int u_r_6.2.1])), (i1, .inl (cL, 300, .inr (.inl u_r_6.2.2)))] H := hP
        have hD : va_D A [(t0, .inr (4, [.ref i0, .int n0, .int p0])), (i0, .inl (cL, 300, .inr (.inl f0))), (t2, .inr (4, [.ref i2, .int n2, .int p2])), (i2, .inl (cL, 300, .inr (.inl f2))), (t3, .inr (4, [.ref i3, .int n3, .int p3])), (i3, .inl (cL, 300, .inr (.inl f3))), (aD, .inr (1, [.ref bD, .int dp])), (bD, .inl (cL, 256, .inr (.inl fd))), (aU, .inr (6, [.ref bT, .ref aD, .int ch, .int 0])), (bT, .inl (cT, 4, .inr (.inr (.inr (.inr (k4 t0 t1 t2 t3)))))), (t1, .inr (4, [.ref i1, .int u_r_6.1, .int u_r_6.2.1])), (i1, .inl (cL, 300, .inr (.inl u_r_6.2.2)))] := hD
        refine lv_iload hx hb dX6_writeWord_47 (lv_at hl 0 rfl) ?_
        refine kIret (u := (ch, 0, n0, u_r_6.1, n2, n3, p0, u_r_6.2.1, p2, p3, f0, u_r_6.2.2, f2, f3, dp, fd)) hx hb hr (kz_n wr_6) hlocks hS dX6_writeWord_49 ?_ (hP.sub [8, 9, 0, 1, 10, 11, 2, 3, 4, 5, 6, 7] rfl) (hD.sub [8, 9, 0, 1, 10, 11, 2, 3, 4, 5, 6, 7] (by decide) rfl)
        first
          | exact Or.inl rfl
          | exact Or.inr rfl
          | assumption
      · have t_36_7 := c_36_7
        try simp only [kb_eq0, kb_ne0, lg_cmp_lt, lg_cmp_le, lg_cmp_gt, lg_cmp_ge, lg_cmp_eq] at t_36_7
        try simp only [Int32.lt_iff_toInt_lt, Int32.le_iff_toInt_le, ← Int32.toInt_inj, Int64.lt_iff_toInt_lt, Int64.le_iff_toInt_le, ← Int64.toInt_inj, Int32.toInt_toInt64, Int32.reduceToInt, Int64.reduceToInt] at t_36_7
        refine lv_iconst (v := 1) hx hb dX6_writeWord_39 (by decide) ?_
        refine lv_goto (tgt := 44) hx hb dX6_writeWord_40 (by decide) ?_
        refine va_put (D := D) (ci := 6) (v := .int 1) (ty := .boolean) (C := RX6) (T := TX6) (N := 4) hx hb hts iX6_writeWord_X6 tyX6 tyX6_ok nmX6 hown hK hP hD hS 8 rfl rfl 3 (by decide) (hts (.fieldLink RX6 39 "TapeCalculator$Units" "wordWritten" "Z") (List.mem_of_getElem? (i := 2) rfl)) (fun _ h9 => h9) rfl (by decide +kernel) rfl rfl (Nat.le_of_ble_eq_true rfl) dX6_writeWord_44 (fun H locs hP hD hS => ?_)
        have hP : va_P D vwCl [(t0, .inr (4, [.ref i0, .int n0, .int p0])), (i0, .inl (cL, 300, .inr (.inl f0))), (t2, .inr (4, [.ref i2, .int n2, .int p2])), (i2, .inl (cL, 300, .inr (.inl f2))), (t3, .inr (4, [.ref i3, .int n3, .int p3])), (i3, .inl (cL, 300, .inr (.inl f3))), (aD, .inr (1, [.ref bD, .int dp])), (bD, .inl (cL, 256, .inr (.inl fd))), (aU, .inr (6, [.ref bT, .ref aD, .int ch, .int 1])), (bT, .inl (cT, 4, .inr (.inr (.inr (.inr (k4 t0 t1 t2 t3)))))), (t1, .inr (4, [.ref i1, .int u_r_6.1, .int u_r_6.2.1])), (i1, .inl (cL, 300, .inr (.inl u_r_6.2.2)))] H := hP
        have hD : va_D A [(t0, .inr (4, [.ref i0, .int n0, .int p0])), (i0, .inl (cL, 300, .inr (.inl f0))), (t2, .inr (4, [.ref i2, .int n2, .int p2])), (i2, .inl (cL, 300, .inr (.inl f2))), (t3, .inr (4, [.ref i3, .int n3, .int p3])), (i3, .inl (cL, 300, .inr (.inl f3))), (aD, .inr (1, [.ref bD, .int dp])), (bD, .inl (cL, 256, .inr (.inl fd))), (aU, .inr (6, [.ref bT, .ref aD, .int ch, .int 1])), (bT, .inl (cT, 4, .inr (.inr (.inr (.inr (k4 t0 t1 t2 t3)))))), (t1, .inr (4, [.ref i1, .int u_r_6.1, .int u_r_6.2.1])), (i1, .inl (cL, 300, .inr (.inl u_r_6.2.2)))] := hD
        refine lv_iload hx hb dX6_writeWord_47 (lv_at hl 0 rfl) ?_
        refine kIret (u := (ch, 1, n0, u_r_6.1, n2, n3, p0, u_r_6.2.1, p2, p3, f0, u_r_6.2.2, f2, f3, dp, fd)) hx hb hr (kz_n wr_6) hlocks hS dX6_writeWord_49 ?_ (hP.sub [8, 9, 0, 1, 10, 11, 2, 3, 4, 5, 6, 7] rfl) (hD.sub [8, 9, 0, 1, 10, 11, 2, 3, 4, 5, 6, 7] (by decide) rfl)
        first
          | exact Or.inl rfl
          | exact Or.inr rfl
          | assumption
  · show W _ _ _ _ _ _ _ _ _ _ _ _ _ _ _ (F0 _ _ _ (Value.ref t2 :: _))
    refine lv_astore_n (lv' := [(3, .ref t2), (0, .ref aU), (1, .long v)]) hx hb dX6_writeWord_4 rfl hl (by decide) rfl (fun ls hl => ?_)
    refine lv_aload_n hx hb dX6_writeWord_5 rfl (lv_at hl 0 rfl) ?_
    refine lv_ifnonnull (tgt := 19) hx hb dX6_writeWord_6 (by decide) ?_
    refine lv_aload_n hx hb dX6_writeWord_19 rfl (lv_at hl 0 rfl) ?_
    refine lv_lload_n hx hb dX6_writeWord_20 rfl (lv_at hl 2 rfl) ?_
    refine kCallI (wr := [(t0, .inr (4, [.ref i0, .int n0, .int p0])), (i0, .inl (cL, 300, .inr (.inl f0))), (t1, .inr (4, [.ref i1, .int n1, .int p1])), (i1, .inl (cL, 300, .inr (.inl f1))), (t3, .inr (4, [.ref i3, .int n3, .int p3])), (i3, .inl (cL, 300, .inr (.inl f3))), (aD, .inr (1, [.ref bD, .int dp])), (bD, .inl (cL, 256, .inr (.inl fd))), (aU, .inr (6, [.ref bT, .ref aD, .int ch, .int ww])), (bT, .inl (cT, 4, .inr (.inr (.inr (.inr (k4 t0 t1 t2 t3))))))]) (va_runV (As := [.long v]) (rest := []) ⟨hx, hb, hml, hown, hts⟩ (g_putHere l D cI cL cB cZ cT _ t2 i2 n2 p2 f2 v) (cwV 1 hts gX6_writeWord_X4_putHere rfl rfl rfl (by decide +kernel) ⟨Nat.le_of_ble_eq_true rfl, Nat.le_of_ble_eq_true rfl⟩) (kPreV hG hP hD [4, 5] rfl (by decide) 0 4 rfl rfl rfl) rfl rfl hl.1 rfl (lv_room (Nat.le_of_ble_eq_true rfl)) dX6_writeWord_21 ⟨Nat.le_of_ble_eq_true rfl, Nat.le_of_ble_eq_true rfl⟩) hA hP hD hS [4, 5] [0, 1, 2, 3, 6, 7, 8, 9, 10, 11] rfl rfl (by decide) (by decide) (fun r_9 u_r_9 H locs wr_9 hP hD hS => ?_)
    have hP : va_P D vwCl [(t0, .inr (4, [.ref i0, .int n0, .int p0])), (i0, .inl (cL, 300, .inr (.inl f0))), (t1, .inr (4, [.ref i1, .int n1, .int p1])), (i1, .inl (cL, 300, .inr (.inl f1))), (t3, .inr (4, [.ref i3, .int n3, .int p3])), (i3, .inl (cL, 300, .inr (.inl f3))), (aD, .inr (1, [.ref bD, .int dp])), (bD, .inl (cL, 256, .inr (.inl fd))), (aU, .inr (6, [.ref bT, .ref aD, .int ch, .int ww])), (bT, .inl (cT, 4, .inr (.inr (.inr (.inr (k4 t0 t1 t2 t3)))))), (t2, .inr (4, [.ref i2, .int u_r_9.1, .int u_r_9.2.1])), (i2, .inl (cL, 300, .inr (.inl u_r_9.2.2)))] H := hP
    have hD : va_D A [(t0, .inr (4, [.ref i0, .int n0, .int p0])), (i0, .inl (cL, 300, .inr (.inl f0))), (t1, .inr (4, [.ref i1, .int n1, .int p1])), (i1, .inl (cL, 300, .inr (.inl f1))), (t3, .inr (4, [.ref i3, .int n3, .int p3])), (i3, .inl (cL, 300, .inr (.inl f3))), (aD, .inr (1, [.ref bD, .int dp])), (bD, .inl (cL, 256, .inr (.inl fd))), (aU, .inr (6, [.ref bT, .ref aD, .int ch, .int ww])), (bT, .inl (cT, 4, .inr (.inr (.inr (.inr (k4 t0 t1 t2 t3)))))), (t2, .inr (4, [.ref i2, .int u_r_9.1, .int u_r_9.2.1])), (i2, .inl (cL, 300, .inr (.inl u_r_9.2.2)))] := hD
    try dsimp only at wr_9
    refine lv_istore (lv' := [(4, .int r_9), (3, .ref t2), (0, .ref aU), (1, .long v)]) hx hb dX6_writeWord_24 hl (by decide) rfl (fun ls hl => ?_)
    refine lv_aload_n hx hb dX6_writeWord_26 rfl (lv_at hl 2 rfl) ?_
    refine lv_aload_n hx hb dX6_writeWord_27 rfl (lv_at hl 2 rfl) ?_
    refine va_get (D := D) (ci := 6) (v := .int ww) (C := RX6) (T := TX6) (N := 4) hx hb hts iX6_writeWord_X6 hown hK hP 8 rfl rfl 3 (by decide) (hts (.fieldLink RX6 39 "TapeCalculator$Units" "wordWritten" "Z") (List.mem_of_getElem? (i := 2) rfl)) (fun _ h9 => h9) rfl dX6_writeWord_28 ?_
    refine lv_if_ne (tgt := 39) hx hb dX6_writeWord_31 (by decide) (fun c_31_9 => ?_) (fun c_31_9 => ?_)
    · have t_31_9 := c_31_9
      try simp only [kb_eq0, kb_ne0, lg_cmp_lt, lg_cmp_le, lg_cmp_gt, lg_cmp_ge, lg_cmp_eq] at t_31_9
      try simp only [Int32.lt_iff_toInt_lt, Int32.le_iff_toInt_le, ← Int32.toInt_inj, Int64.lt_iff_toInt_lt, Int64.le_iff_toInt_le, ← Int64.toInt_inj, Int32.toInt_toInt64, Int32.reduceToInt, Int64.reduceToInt] at t_31_9
      refine lv_iconst (v := 1) hx hb dX6_writeWord_39 (by decide) ?_
      refine lv_goto (tgt := 44) hx hb dX6_writeWord_40 (by decide) ?_
      refine va_put (D := D) (ci := 6) (v := .int 1) (ty := .boolean) (C := RX6) (T := TX6) (N := 4) hx hb hts iX6_writeWord_X6 tyX6 tyX6_ok nmX6 hown hK hP hD hS 8 rfl rfl 3 (by decide) (hts (.fieldLink RX6 39 "TapeCalculator$Units" "wordWritten" "Z") (List.mem_of_getElem? (i := 2) rfl)) (fun _ h9 => h9) rfl (by decide +kernel) rfl rfl (Nat.le_of_ble_eq_true rfl) dX6_writeWord_44 (fun H locs hP hD hS => ?_)
      have hP : va_P D vwCl [(t0, .inr (4, [.ref i0, .int n0, .int p0])), (i0, .inl (cL, 300, .inr (.inl f0))), (t1, .inr (4, [.ref i1, .int n1, .int p1])), (i1, .inl (cL, 300, .inr (.inl f1))), (t3, .inr (4, [.ref i3, .int n3, .int p3])), (i3, .inl (cL, 300, .inr (.inl f3))), (aD, .inr (1, [.ref bD, .int dp])), (bD, .inl (cL, 256, .inr (.inl fd))), (aU, .inr (6, [.ref bT, .ref aD, .int ch, .int 1])), (bT, .inl (cT, 4, .inr (.inr (.inr (.inr (k4 t0 t1 t2 t3)))))), (t2, .inr (4, [.ref i2, .int u_r_9.1, .int u_r_9.2.1])), (i2, .inl (cL, 300, .inr (.inl u_r_9.2.2)))] H := hP
      have hD : va_D A [(t0, .inr (4, [.ref i0, .int n0, .int p0])), (i0, .inl (cL, 300, .inr (.inl f0))), (t1, .inr (4, [.ref i1, .int n1, .int p1])), (i1, .inl (cL, 300, .inr (.inl f1))), (t3, .inr (4, [.ref i3, .int n3, .int p3])), (i3, .inl (cL, 300, .inr (.inl f3))), (aD, .inr (1, [.ref bD, .int dp])), (bD, .inl (cL, 256, .inr (.inl fd))), (aU, .inr (6, [.ref bT, .ref aD, .int ch, .int 1])), (bT, .inl (cT, 4, .inr (.inr (.inr (.inr (k4 t0 t1 t2 t3)))))), (t2, .inr (4, [.ref i2, .int u_r_9.1, .int u_r_9.2.1])), (i2, .inl (cL, 300, .inr (.inl u_r_9.2.2)))] := hD
      refine lv_iload hx hb dX6_writeWord_47 (lv_at hl 0 rfl) ?_
      refine kIret (u := (ch, 1, n0, n1, u_r_9.1, n3, p0, p1, u_r_9.2.1, p3, f0, f1, u_r_9.2.2, f3, dp, fd)) hx hb hr (kz_n wr_9) hlocks hS dX6_writeWord_49 ?_ (hP.sub [8, 9, 0, 1, 2, 3, 10, 11, 4, 5, 6, 7] rfl) (hD.sub [8, 9, 0, 1, 2, 3, 10, 11, 4, 5, 6, 7] (by decide) rfl)
      first
        | exact Or.inl rfl
        | exact Or.inr rfl
        | assumption
    · have t_31_9 := c_31_9
      try simp only [kb_eq0, kb_ne0, lg_cmp_lt, lg_cmp_le, lg_cmp_gt, lg_cmp_ge, lg_cmp_eq] at t_31_9
      try simp only [Int32.lt_iff_toInt_lt, Int32.le_iff_toInt_le, ← Int32.toInt_inj, Int64.lt_iff_toInt_lt, Int64.le_iff_toInt_le, ← Int64.toInt_inj, Int32.toInt_toInt64, Int32.reduceToInt, Int64.reduceToInt] at t_31_9
      refine lv_iload hx hb dX6_writeWord_34 (lv_at hl 0 rfl) ?_
      refine lv_if_eq (tgt := 43) hx hb dX6_writeWord_36 (by decide) (fun c_36_10 => ?_) (fun c_36_10 => ?_)
      · have t_36_10 := c_36_10
        try simp only [kb_eq0, kb_ne0, lg_cmp_lt, lg_cmp_le, lg_cmp_gt, lg_cmp_ge, lg_cmp_eq] at t_36_10
        try simp only [Int32.lt_iff_toInt_lt, Int32.le_iff_toInt_le, ← Int32.toInt_inj, Int64.lt_iff_toInt_lt, Int64.le_iff_toInt_le, ← Int64.toInt_inj, Int32.toInt_toInt64, Int32.reduceToInt, Int64.reduceToInt] at t_36_10
        refine lv_iconst (v := 0) hx hb dX6_writeWord_43 (by decide) ?_
        refine va_put (D := D) (ci := 6) (v := .int 0) (ty := .boolean) (C := RX6) (T := TX6) (N := 4) hx hb hts iX6_writeWord_X6 tyX6 tyX6_ok nmX6 hown hK hP hD hS 8 rfl rfl 3 (by decide) (hts (.fieldLink RX6 39 "TapeCalculator$Units" "wordWritten" "Z") (List.mem_of_getElem? (i := 2) rfl)) (fun _ h9 => h9) rfl (by decide +kernel) rfl rfl (Nat.le_of_ble_eq_true rfl) dX6_writeWord_44 (fun H locs hP hD hS => ?_)
        have hP : va_P D vwCl [(t0, .inr (4, [.ref i0, .int n0, .int p0])), (i0, .inl (cL, 300, .inr (.inl f0))), (t1, .inr (4, [.ref i1, .int n1, .int p1])), (i1, .inl (cL, 300, .inr (.inl f1))), (t3, .inr (4, [.ref i3, .int n3, .int p3])), (i3, .inl (cL, 300, .inr (.inl f3))), (aD, .inr (1, [.ref bD, .int dp])), (bD, .inl (cL, 256, .inr (.inl fd))), (aU, .inr (6, [.ref bT, .ref aD, .int ch, .int 0])), (bT, .inl (cT, 4, .inr (.inr (.inr (.inr (k4 t0 t1 t2 t3)))))), (t2, .inr (4, [.ref i2, .int u_r_9.1, .int u_r_9.2.1])), (i2, .inl (cL, 300, .inr (.inl u_r_9.2.2)))] H := hP
        have hD : va_D A [(t0, .inr (4, [.ref i0, .int n0, .int p0])), (i0, .inl (cL, 300, .inr (.inl f0))), (t1, .inr (4, [.ref i1, .int n1, .int p1])), (i1, .inl (cL, 300, .inr (.inl f1))), (t3, .inr (4, [.ref i3, .int n3, .int p3])), (i3, .inl (cL, 300, .inr (.inl f3))), (aD, .inr (1, [.ref bD, .int dp])), (bD, .inl (cL, 256, .inr (.inl fd))), (aU, .inr (6, [.ref bT, .ref aD, .int ch, .int 0])), (bT, .inl (cT, 4, .inr (.inr (.inr (.inr (k4 t0 t1 t2 t3)))))), (t2, .inr (4, [.ref i2, .int u_r_9.1, .int u_r_9.2.1])), (i2, .inl (cL, 300, .inr (.inl u_r_9.2.2)))] := hD
        refine lv_iload hx hb dX6_writeWord_47 (lv_at hl 0 rfl) ?_
        refine kIret (u := (ch, 0, n0, n1, u_r_9.1, n3, p0, p1, u_r_9.2.1, p3, f0, f1, u_r_9.2.2, f3, dp, fd)) hx hb hr (kz_n wr_9) hlocks hS dX6_writeWord_49 ?_ (hP.sub [8, 9, 0, 1, 2, 3, 10, 11, 4, 5, 6, 7] rfl) (hD.sub [8, 9, 0, 1, 2, 3, 10, 11, 4, 5, 6, 7] (by decide) rfl)
        first
          | exact Or.inl rfl
          | exact Or.inr rfl
          | assumption
      · have t_36_10 := c_36_10
        try simp only [kb_eq0, kb_ne0, lg_cmp_lt, lg_cmp_le, lg_cmp_gt, lg_cmp_ge, lg_cmp_eq] at t_36_10
        try simp only [Int32.lt_iff_toInt_lt, Int32.le_iff_toInt_le, ← Int32.toInt_inj, Int64.lt_iff_toInt_lt, Int64.le_iff_toInt_le, ← Int64.toInt_inj, Int32.toInt_toInt64, Int32.reduceToInt, Int64.reduceToInt] at t_36_10
        refine lv_iconst (v := 1) hx hb dX6_writeWord_39 (by decide) ?_
        refine lv_goto (tgt := 44) hx hb dX6_writeWord_40 (by decide) ?_
        refine va_put (D := D) (ci := 6) (v := .int 1) (ty := .boolean) (C := RX6) (T := TX6) (N := 4) hx hb hts iX6_writeWord_X6 tyX6 tyX6_ok nmX6 hown hK hP hD hS 8 rfl rfl 3 (by decide) (hts (.fieldLink RX6 39 "TapeCalculator$Units" "wordWritten" "Z") (List.mem_of_getElem? (i := 2) rfl)) (fun _ h9 => h9) rfl (by decide +kernel) rfl rfl (Nat.le_of_ble_eq_true rfl) dX6_writeWord_44 (fun H locs hP hD hS => ?_)
        have hP : va_P D vwCl [(t0, .inr (4, [.ref i0, .int n0, .int p0])), (i0, .inl (cL, 300, .inr (.inl f0))), (t1, .inr (4, [.ref i1, .int n1, .int p1])), (i1, .inl (cL, 300, .inr (.inl f1))), (t3, .inr (4, [.ref i3, .int n3, .int p3])), (i3, .inl (cL, 300, .inr (.inl f3))), (aD, .inr (1, [.ref bD, .int dp])), (bD, .inl (cL, 256, .inr (.inl fd))), (aU, .inr (6, [.ref bT, .ref aD, .int ch, .int 1])), (bT, .inl (cT, 4, .inr (.inr (.inr (.inr (k4 t0 t1 t2 t3)))))), (t2, .inr (4, [.ref i2, .int u_r_9.1, .int u_r_9.2.1])), (i2, .inl (cL, 300, .inr (.inl u_r_9.2.2)))] H := hP
        have hD : va_D A [(t0, .inr (4, [.ref i0, .int n0, .int p0])), (i0, .inl (cL, 300, .inr (.inl f0))), (t1, .inr (4, [.ref i1, .int n1, .int p1])), (i1, .inl (cL, 300, .inr (.inl f1))), (t3, .inr (4, [.ref i3, .int n3, .int p3])), (i3, .inl (cL, 300, .inr (.inl f3))), (aD, .inr (1, [.ref bD, .int dp])), (bD, .inl (cL, 256, .inr (.inl fd))), (aU, .inr (6, [.ref bT, .ref aD, .int ch, .int 1])), (bT, .inl (cT, 4, .inr (.inr (.inr (.inr (k4 t0 t1 t2 t3)))))), (t2, .inr (4, [.ref i2, .int u_r_9.1, .int u_r_9.2.1])), (i2, .inl (cL, 300, .inr (.inl u_r_9.2.2)))] := hD
        refine lv_iload hx hb dX6_writeWord_47 (lv_at hl 0 rfl) ?_
        refine kIret (u := (ch, 1, n0, n1, u_r_9.1, n3, p0, p1, u_r_9.2.1, p3, f0, f1, u_r_9.2.2, f3, dp, fd)) hx hb hr (kz_n wr_9) hlocks hS dX6_writeWord_49 ?_ (hP.sub [8, 9, 0, 1, 2, 3, 10, 11, 4, 5, 6, 7] rfl) (hD.sub [8, 9, 0, 1, 2, 3, 10, 11, 4, 5, 6, 7] (by decide) rfl)
        first
          | exact Or.inl rfl
          | exact Or.inr rfl
          | assumption
  · show W _ _ _ _ _ _ _ _ _ _ _ _ _ _ _ (F0 _ _ _ (Value.ref t3 :: _))
    refine lv_astore_n (lv' := [(3, .ref t3), (0, .ref aU), (1, .long v)]) hx hb dX6_writeWord_4 rfl hl (by decide) rfl (fun ls hl => ?_)
    refine lv_aload_n hx hb dX6_writeWord_5 rfl (lv_at hl 0 rfl) ?_
    refine lv_ifnonnull (tgt := 19) hx hb dX6_writeWord_6 (by decide) ?_
    refine lv_aload_n hx hb dX6_writeWord_19 rfl (lv_at hl 0 rfl) ?_
    refine lv_lload_n hx hb dX6_writeWord_20 rfl (lv_at hl 2 rfl) ?_
    refine kCallI (wr := [(t0, .inr (4, [.ref i0, .int n0, .int p0])), (i0, .inl (cL, 300, .inr (.inl f0))), (t1, .inr (4, [.ref i1, .int n1, .int p1])), (i1, .inl (cL, 300, .inr (.inl f1))), (t2, .inr (4, [.ref i2, .int n2, .int p2])), (i2, .inl (cL, 300, .inr (.inl f2))), (aD, .inr (1, [.ref bD, .int dp])), (bD, .inl (cL, 256, .inr (.inl fd))), (aU, .inr (6, [.ref bT, .ref aD, .int ch, .int ww])), (bT, .inl (cT, 4, .inr (.inr (.inr (.inr (k4 t0 t1 t2 t3))))))]) (va_runV (As := [.long v]) (rest := []) ⟨hx, hb, hml, hown, hts⟩ (g_putHere l D cI cL cB cZ cT _ t3 i3 n3 p3 f3 v) (cwV 1 hts gX6_writeWord_X4_putHere rfl rfl rfl (by decide +kernel) ⟨Nat.le_of_ble_eq_true rfl, Nat.le_of_ble_eq_true rfl⟩) (kPreV hG hP hD [6, 7] rfl (by decide) 0 4 rfl rfl rfl) rfl rfl hl.1 rfl (lv_room (Nat.le_of_ble_eq_true rfl)) dX6_writeWord_21 ⟨Nat.le_of_ble_eq_true rfl, Nat.le_of_ble_eq_true rfl⟩) hA hP hD hS [6, 7] [0, 1, 2, 3, 4, 5, 8, 9, 10, 11] rfl rfl (by decide) (by decide) (fun r_12 u_r_12 H locs wr_12 hP hD hS => ?_)
    have hP : va_P D vwCl [(t0, .inr (4, [.ref i0, .int n0, .int p0])), (i0, .inl (cL, 300, .inr (.inl f0))), (t1, .inr (4, [.ref i1, .int n1, .int p1])), (i1, .inl (cL, 300, .inr (.inl f1))), (t2, .inr (4, [.ref i2, .int n2, .int p2])), (i2, .inl (cL, 300, .inr (.inl f2))), (aD, .inr (1, [.ref bD, .int dp])), (bD, .inl (cL, 256, .inr (.inl fd))), (aU, .inr (6, [.ref bT, .ref aD, .int ch, .int ww])), (bT, .inl (cT, 4, .inr (.inr (.inr (.inr (k4 t0 t1 t2 t3)))))), (t3, .inr (4, [.ref i3, .int u_r_12.1, .int u_r_12.2.1])), (i3, .inl (cL, 300, .inr (.inl u_r_12.2.2)))] H := hP
    have hD : va_D A [(t0, .inr (4, [.ref i0, .int n0, .int p0])), (i0, .inl (cL, 300, .inr (.inl f0))), (t1, .inr (4, [.ref i1, .int n1, .int p1])), (i1, .inl (cL, 300, .inr (.inl f1))), (t2, .inr (4, [.ref i2, .int n2, .int p2])), (i2, .inl (cL, 300, .inr (.inl f2))), (aD, .inr (1, [.ref bD, .int dp])), (bD, .inl (cL, 256, .inr (.inl fd))), (aU, .inr (6, [.ref bT, .ref aD, .int ch, .int ww])), (bT, .inl (cT, 4, .inr (.inr (.inr (.inr (k4 t0 t1 t2 t3)))))), (t3, .inr (4, [.ref i3, .int u_r_12.1, .int u_r_12.2.1])), (i3, .inl (cL, 300, .inr (.inl u_r_12.2.2)))] := hD
    try dsimp only at wr_12
    refine lv_istore (lv' := [(4, .int r_12), (3, .ref t3), (0, .ref aU), (1, .long v)]) hx hb dX6_writeWord_24 hl (by decide) rfl (fun ls hl => ?_)
    refine lv_aload_n hx hb dX6_writeWord_26 rfl (lv_at hl 2 rfl) ?_
    refine lv_aload_n hx hb dX6_writeWord_27 rfl (lv_at hl 2 rfl) ?_
    refine va_get (D := D) (ci := 6) (v := .int ww) (C := RX6) (T := TX6) (N := 4) hx hb hts iX6_writeWord_X6 hown hK hP 8 rfl rfl 3 (by decide) (hts (.fieldLink RX6 39 "TapeCalculator$Units" "wordWritten" "Z") (List.mem_of_getElem? (i := 2) rfl)) (fun _ h9 => h9) rfl dX6_writeWord_28 ?_
    refine lv_if_ne (tgt := 39) hx hb dX6_writeWord_31 (by decide) (fun c_31_12 => ?_) (fun c_31_12 => ?_)
    · have t_31_12 := c_31_12
      try simp only [kb_eq0, kb_ne0, lg_cmp_lt, lg_cmp_le, lg_cmp_gt, lg_cmp_ge, lg_cmp_eq] at t_31_12
      try simp only [Int32.lt_iff_toInt_lt, Int32.le_iff_toInt_le, ← Int32.toInt_inj, Int64.lt_iff_toInt_lt, Int64.le_iff_toInt_le, ← Int64.toInt_inj, Int32.toInt_toInt64, Int32.reduceToInt, Int64.reduceToInt] at t_31_12
      refine lv_iconst (v := 1) hx hb dX6_writeWord_39 (by decide) ?_
      refine lv_goto (tgt := 44) hx hb dX6_writeWord_40 (by decide) ?_
      refine va_put (D := D) (ci := 6) (v := .int 1) (ty := .boolean) (C := RX6) (T := TX6) (N := 4) hx hb hts iX6_writeWord_X6 tyX6 tyX6_ok nmX6 hown hK hP hD hS 8 rfl rfl 3 (by decide) (hts (.fieldLink RX6 39 "TapeCalculator$Units" "wordWritten" "Z") (List.mem_of_getElem? (i := 2) rfl)) (fun _ h9 => h9) rfl (by decide +kernel) rfl rfl (Nat.le_of_ble_eq_true rfl) dX6_writeWord_44 (fun H locs hP hD hS => ?_)
      have hP : va_P D vwCl [(t0, .inr (4, [.ref i0, .int n0, .int p0])), (i0, .inl (cL, 300, .inr (.inl f0))), (t1, .inr (4, [.ref i1, .int n1, .int p1])), (i1, .inl (cL, 300, .inr (.inl f1))), (t2, .inr (4, [.ref i2, .int n2, .int p2])), (i2, .inl (cL, 300, .inr (.inl f2))), (aD, .inr (1, [.ref bD, .int dp])), (bD, .inl (cL, 256, .inr (.inl fd))), (aU, .inr (6, [.ref bT, .ref aD, .int ch, .int 1])), (bT, .inl (cT, 4, .inr (.inr (.inr (.inr (k4 t0 t1 t2 t3)))))), (t3, .inr (4, [.ref i3, .int u_r_12.1, .int u_r_12.2.1])), (i3, .inl (cL, 300, .inr (.inl u_r_12.2.2)))] H := hP
      have hD : va_D A [(t0, .inr (4, [.ref i0, .int n0, .int p0])), (i0, .inl (cL, 300, .inr (.inl f0))), (t1, .inr (4, [.ref i1, .int n1, .int p1])), (i1, .inl (cL, 300, .inr (.inl f1))), (t2, .inr (4, [.ref i2, .int n2, .int p2])), (i2, .inl (cL, 300, .inr (.inl f2))), (aD, .inr (1, [.ref bD, .int dp])), (bD, .inl (cL, 256, .inr (.inl fd))), (aU, .inr (6, [.ref bT, .ref aD, .int ch, .int 1])), (bT, .inl (cT, 4, .inr (.inr (.inr (.inr (k4 t0 t1 t2 t3)))))), (t3, .inr (4, [.ref i3, .int u_r_12.1, .int u_r_12.2.1])), (i3, .inl (cL, 300, .inr (.inl u_r_12.2.2)))] := hD
      refine lv_iload hx hb dX6_writeWord_47 (lv_at hl 0 rfl) ?_
      refine kIret (u := (ch, 1, n0, n1, n2, u_r_12.1, p0, p1, p2, u_r_12.2.1, f0, f1, f2, u_r_12.2.2, dp, fd)) hx hb hr (kz_n wr_12) hlocks hS dX6_writeWord_49 ?_ (hP.sub [8, 9, 0, 1, 2, 3, 4, 5, 10, 11, 6, 7] rfl) (hD.sub [8, 9, 0, 1, 2, 3, 4, 5, 10, 11, 6, 7] (by decide) rfl)
      first
        | exact Or.inl rfl
        | exact Or.inr rfl
        | assumption
    · have t_31_12 := c_31_12
      try simp only [kb_eq0, kb_ne0, lg_cmp_lt, lg_cmp_le, lg_cmp_gt, lg_cmp_ge, lg_cmp_eq] at t_31_12
      try simp only [Int32.lt_iff_toInt_lt, Int32.le_iff_toInt_le, ← Int32.toInt_inj, Int64.lt_iff_toInt_lt, Int64.le_iff_toInt_le, ← Int64.toInt_inj, Int32.toInt_toInt64, Int32.reduceToInt, Int64.reduceToInt] at t_31_12
      refine lv_iload hx hb dX6_writeWord_34 (lv_at hl 0 rfl) ?_
      refine lv_if_eq (tgt := 43) hx hb dX6_writeWord_36 (by decide) (fun c_36_13 => ?_) (fun c_36_13 => ?_)
      · have t_36_13 := c_36_13
        try simp only [kb_eq0, kb_ne0, lg_cmp_lt, lg_cmp_le, lg_cmp_gt, lg_cmp_ge, lg_cmp_eq] at t_36_13
        try simp only [Int32.lt_iff_toInt_lt, Int32.le_iff_toInt_le, ← Int32.toInt_inj, Int64.lt_iff_toInt_lt, Int64.le_iff_toInt_le, ← Int64.toInt_inj, Int32.toInt_toInt64, Int32.reduceToInt, Int64.reduceToInt] at t_36_13
        refine lv_iconst (v := 0) hx hb dX6_writeWord_43 (by decide) ?_
        refine va_put (D := D) (ci := 6) (v := .int 0) (ty := .boolean) (C := RX6) (T := TX6) (N := 4) hx hb hts iX6_writeWord_X6 tyX6 tyX6_ok nmX6 hown hK hP hD hS 8 rfl rfl 3 (by decide) (hts (.fieldLink RX6 39 "TapeCalculator$Units" "wordWritten" "Z") (List.mem_of_getElem? (i := 2) rfl)) (fun _ h9 => h9) rfl (by decide +kernel) rfl rfl (Nat.le_of_ble_eq_true rfl) dX6_writeWord_44 (fun H locs hP hD hS => ?_)
        have hP : va_P D vwCl [(t0, .inr (4, [.ref i0, .int n0, .int p0])), (i0, .inl (cL, 300, .inr (.inl f0))), (t1, .inr (4, [.ref i1, .int n1, .int p1])), (i1, .inl (cL, 300, .inr (.inl f1))), (t2, .inr (4, [.ref i2, .int n2, .int p2])), (i2, .inl (cL, 300, .inr (.inl f2))), (aD, .inr (1, [.ref bD, .int dp])), (bD, .inl (cL, 256, .inr (.inl fd))), (aU, .inr (6, [.ref bT, .ref aD, .int ch, .int 0])), (bT, .inl (cT, 4, .inr (.inr (.inr (.inr (k4 t0 t1 t2 t3)))))), (t3, .inr (4, [.ref i3, .int u_r_12.1, .int u_r_12.2.1])), (i3, .inl (cL, 300, .inr (.inl u_r_12.2.2)))] H := hP
        have hD : va_D A [(t0, .inr (4, [.ref i0, .int n0, .int p0])), (i0, .inl (cL, 300, .inr (.inl f0))), (t1, .inr (4, [.ref i1, .int n1, .int p1])), (i1, .inl (cL, 300, .inr (.inl f1))), (t2, .inr (4, [.ref i2, .int n2, .int p2])), (i2, .inl (cL, 300, .inr (.inl f2))), (aD, .inr (1, [.ref bD, .int dp])), (bD, .inl (cL, 256, .inr (.inl fd))), (aU, .inr (6, [.ref bT, .ref aD, .int ch, .int 0])), (bT, .inl (cT, 4, .inr (.inr (.inr (.inr (k4 t0 t1 t2 t3)))))), (t3, .inr (4, [.ref i3, .int u_r_12.1, .int u_r_12.2.1])), (i3, .inl (cL, 300, .inr (.inl u_r_12.2.2)))] := hD
        refine lv_iload hx hb dX6_writeWord_47 (lv_at hl 0 rfl) ?_
        refine kIret (u := (ch, 0, n0, n1, n2, u_r_12.1, p0, p1, p2, u_r_12.2.1, f0, f1, f2, u_r_12.2.2, dp, fd)) hx hb hr (kz_n wr_12) hlocks hS dX6_writeWord_49 ?_ (hP.sub [8, 9, 0, 1, 2, 3, 4, 5, 10, 11, 6, 7] rfl) (hD.sub [8, 9, 0, 1, 2, 3, 4, 5, 10, 11, 6, 7] (by decide) rfl)
        first
          | exact Or.inl rfl
          | exact Or.inr rfl
          | assumption
      · have t_36_13 := c_36_13
        try simp only [kb_eq0, kb_ne0, lg_cmp_lt, lg_cmp_le, lg_cmp_gt, lg_cmp_ge, lg_cmp_eq] at t_36_13
        try simp only [Int32.lt_iff_toInt_lt, Int32.le_iff_toInt_le, ← Int32.toInt_inj, Int64.lt_iff_toInt_lt, Int64.le_iff_toInt_le, ← Int64.toInt_inj, Int32.toInt_toInt64, Int32.reduceToInt, Int64.reduceToInt] at t_36_13
        refine lv_iconst (v := 1) hx hb dX6_writeWord_39 (by decide) ?_
        refine lv_goto (tgt := 44) hx hb dX6_writeWord_40 (by decide) ?_
        refine va_put (D := D) (ci := 6) (v := .int 1) (ty := .boolean) (C := RX6) (T := TX6) (N := 4) hx hb hts iX6_writeWord_X6 tyX6 tyX6_ok nmX6 hown hK hP hD hS 8 rfl rfl 3 (by decide) (hts (.fieldLink RX6 39 "TapeCalculator$Units" "wordWritten" "Z") (List.mem_of_getElem? (i := 2) rfl)) (fun _ h9 => h9) rfl (by decide +kernel) rfl rfl (Nat.le_of_ble_eq_true rfl) dX6_writeWord_44 (fun H locs hP hD hS => ?_)
        have hP : va_P D vwCl [(t0, .inr (4, [.ref i0, .int n0, .int p0])), (i0, .inl (cL, 300, .inr (.inl f0))), (t1, .inr (4, [.ref i1, .int n1, .int p1])), (i1, .inl (cL, 300, .inr (.inl f1))), (t2, .inr (4, [.ref i2, .int n2, .int p2])), (i2, .inl (cL, 300, .inr (.inl f2))), (aD, .inr (1, [.ref bD, .int dp])), (bD, .inl (cL, 256, .inr (.inl fd))), (aU, .inr (6, [.ref bT, .ref aD, .int ch, .int 1])), (bT, .inl (cT, 4, .inr (.inr (.inr (.inr (k4 t0 t1 t2 t3)))))), (t3, .inr (4, [.ref i3, .int u_r_12.1, .int u_r_12.2.1])), (i3, .inl (cL, 300, .inr (.inl u_r_12.2.2)))] H := hP
        have hD : va_D A [(t0, .inr (4, [.ref i0, .int n0, .int p0])), (i0, .inl (cL, 300, .inr (.inl f0))), (t1, .inr (4, [.ref i1, .int n1, .int p1])), (i1, .inl (cL, 300, .inr (.inl f1))), (t2, .inr (4, [.ref i2, .int n2, .int p2])), (i2, .inl (cL, 300, .inr (.inl f2))), (aD, .inr (1, [.ref bD, .int dp])), (bD, .inl (cL, 256, .inr (.inl fd))), (aU, .inr (6, [.ref bT, .ref aD, .int ch, .int 1])), (bT, .inl (cT, 4, .inr (.inr (.inr (.inr (k4 t0 t1 t2 t3)))))), (t3, .inr (4, [.ref i3, .int u_r_12.1, .int u_r_12.2.1])), (i3, .inl (cL, 300, .inr (.inl u_r_12.2.2)))] := hD
        refine lv_iload hx hb dX6_writeWord_47 (lv_at hl 0 rfl) ?_
        refine kIret (u := (ch, 1, n0, n1, n2, u_r_12.1, p0, p1, p2, u_r_12.2.1, f0, f1, f2, u_r_12.2.2, dp, fd)) hx hb hr (kz_n wr_12) hlocks hS dX6_writeWord_49 ?_ (hP.sub [8, 9, 0, 1, 2, 3, 4, 5, 10, 11, 6, 7] rfl) (hD.sub [8, 9, 0, 1, 2, 3, 4, 5, 10, 11, 6, 7] (by decide) rfl)
        first
          | exact Or.inl rfl
          | exact Or.inr rfl
          | assumption
set_option maxRecDepth 100000 in
theorem iX6_readItem_X6 : ∀ w ∈ wsX60, w ∈ wsX6_readItem := fun w h => (goodIn_r (big := wsX6_readItem) wsX60 [42, 43, 44, 45] rfl (by decide +kernel) w h).1
set_option maxRecDepth 100000 in
set_option maxHeartbeats 4000000 in
theorem g_readItem (l : Launch) (D : va_G) (cI cL cB cZ cT : ClassId) (sz : Nat) (aU bT aD : Nat) (ch ww : Int32) (t0 t1 t2 t3 : Nat) (i0 i1 i2 i3 : Nat) (n0 n1 n2 n3 p0 p1 p2 p3 : Int32) (f0 f1 f2 f3 : Nat → Int64) (bD : Nat) (dp : Int32) (fd : Nat → Int64) : kM (S := (Int32 × Int32 × Int32 × Int32 × Int32 × Int32 × Int32 × Int32 × Int32 × Int32 × (Nat → Int64) × (Nat → Int64) × (Nat → Int64) × (Nat → Int64) × Int32 × (Nat → Int64))) l yX6_readItem wsX6_readItem ({ frames := 2, cells := 0, slots := 0, locals := 43 }) D (kT cI cL cB cZ cT) [.ref aU] [(aU, .inr (6, [.ref bT, .ref aD, .int ch, .int ww])), (bT, .inl (cT, 4, .inr (.inr (.inr (.inr (k4 t0 t1 t2 t3)))))), (t0, .inr (4, [.ref i0, .int n0, .int p0])), (i0, .inl (cL, 300, .inr (.inl f0))), (t1, .inr (4, [.ref i1, .int n1, .int p1])), (i1, .inl (cL, 300, .inr (.inl f1))), (t2, .inr (4, [.ref i2, .int n2, .int p2])), (i2, .inl (cL, 300, .inr (.inl f2))), (t3, .inr (4, [.ref i3, .int n3, .int p3])), (i3, .inl (cL, 300, .inr (.inl f3))), (aD, .inr (1, [.ref bD, .int dp])), (bD, .inl (cL, 256, .inr (.inl fd)))] sz eL (fun _ _ => True) (fun u => [(aU, .inr (6, [.ref bT, .ref aD, .int u.1, .int u.2.1])), (bT, .inl (cT, 4, .inr (.inr (.inr (.inr (k4 t0 t1 t2 t3)))))), (t0, .inr (4, [.ref i0, .int u.2.2.1, .int u.2.2.2.2.2.2.1])), (i0, .inl (cL, 300, .inr (.inl u.2.2.2.2.2.2.2.2.2.2.1))), (t1, .inr (4, [.ref i1, .int u.2.2.2.1, .int u.2.2.2.2.2.2.2.1])), (i1, .inl (cL, 300, .inr (.inl u.2.2.2.2.2.2.2.2.2.2.2.1))), (t2, .inr (4, [.ref i2, .int u.2.2.2.2.1, .int u.2.2.2.2.2.2.2.2.1])), (i2, .inl (cL, 300, .inr (.inl u.2.2.2.2.2.2.2.2.2.2.2.2.1))), (t3, .inr (4, [.ref i3, .int u.2.2.2.2.2.1, .int u.2.2.2.2.2.2.2.2.2.1])), (i3, .inl (cL, 300, .inr (.inl u.2.2.2.2.2.2.2.2.2.2.2.2.2.1))), (aD, .inr (1, [.ref bD, .int u.2.2.2.2.2.2.2.2.2.2.2.2.2.2.1])), (bD, .inl (cL, 256, .inr (.inl u.2.2.2.2.2.2.2.2.2.2.2.2.2.2.2)))]) 0 0 := by
  refine kStart (cc := cX6_readItem) (maxL := 5) (ret := (some .long)) (own := RX6) (by decide) rfl rfl (Nat.le_of_ble_eq_true rfl) ?_
  intro p e s m args below meth c A ls hx hb hr hml hown hts hlocks hnm hsz hA hG hP hD hS hl
  have hK := hG.1
  have hl : lv_has ls 5 [(0, .ref aU)] := hl
  refine lv_aload_n hx hb dX6_readItem_0 rfl (lv_at hl 0 rfl) ?_
  refine va_get (D := D) (ci := 6) (v := .int ch) (C := RX6) (T := TX6) (N := 4) hx hb hts iX6_readItem_X6 hown hK hP 0 rfl rfl 2 (by decide) (hts (.fieldLink RX6 36 "TapeCalculator$Units" "chosen" "I") (List.mem_of_getElem? (i := 1) rfl)) (fun _ h9 => h9) rfl dX6_readItem_1 ?_
  refine lv_bipush (v := 13) hx hb dX6_readItem_4 (by decide) ?_
  refine lv_icmp_ne (tgt := 17) hx hb dX6_readItem_6 (by decide) (fun c_6_0 => ?_) (fun c_6_0 => ?_)
  · have t_6_0 := c_6_0
    try simp only [kb_eq0, kb_ne0, lg_cmp_lt, lg_cmp_le, lg_cmp_gt, lg_cmp_ge, lg_cmp_eq] at t_6_0
    try simp only [Int32.lt_iff_toInt_lt, Int32.le_iff_toInt_le, ← Int32.toInt_inj, Int64.lt_iff_toInt_lt, Int64.le_iff_toInt_le, ← Int64.toInt_inj, Int32.toInt_toInt64, Int32.reduceToInt, Int64.reduceToInt] at t_6_0
    refine lv_aload_n hx hb dX6_readItem_17 rfl (lv_at hl 0 rfl) ?_
    refine va_get (D := D) (ci := 6) (v := .int ch) (C := RX6) (T := TX6) (N := 4) hx hb hts iX6_readItem_X6 hown hK hP 0 rfl rfl 2 (by decide) (hts (.fieldLink RX6 36 "TapeCalculator$Units" "chosen" "I") (List.mem_of_getElem? (i := 1) rfl)) (fun _ h9 => h9) rfl dX6_readItem_18 ?_
    refine lv_iconst (v := 5) hx hb dX6_readItem_21 (by decide) ?_
    refine lv_icmp_lt (tgt := 29) hx hb dX6_readItem_22 (by decide) (fun c_22_1 => ?_) (fun c_22_1 => ?_)
    · have t_22_1 := c_22_1
      try simp only [kb_eq0, kb_ne0, lg_cmp_lt, lg_cmp_le, lg_cmp_gt, lg_cmp_ge, lg_cmp_eq] at t_22_1
      try simp only [Int32.lt_iff_toInt_lt, Int32.le_iff_toInt_le, ← Int32.toInt_inj, Int64.lt_iff_toInt_lt, Int64.le_iff_toInt_le, ← Int64.toInt_inj, Int32.toInt_toInt64, Int32.reduceToInt, Int64.reduceToInt] at t_22_1
      refine lv_iconst (v := 0) hx hb dX6_readItem_29 (by decide) ?_
      refine lv_istore_n (lv' := [(1, .int 0), (0, .ref aU)]) hx hb dX6_readItem_30 rfl hl (by decide) rfl (fun ls hl => ?_)
      refine lv_aload_n hx hb dX6_readItem_31 rfl (lv_at hl 1 rfl) ?_
      refine lv_aload_n hx hb dX6_readItem_32 rfl (lv_at hl 1 rfl) ?_
      refine va_get (D := D) (ci := 6) (v := .int ch) (C := RX6) (T := TX6) (N := 4) hx hb hts iX6_readItem_X6 hown hK hP 0 rfl rfl 2 (by decide) (hts (.fieldLink RX6 36 "TapeCalculator$Units" "chosen" "I") (List.mem_of_getElem? (i := 1) rfl)) (fun _ h9 => h9) rfl dX6_readItem_33 ?_
      refine lv_iload_n hx hb dX6_readItem_36 rfl (lv_at hl 0 rfl) ?_
      refine lv_if_eq (tgt := 44) hx hb dX6_readItem_37 (by decide) (fun c_37_2 => ?_) (fun c_37_2 => ?_)
      · have t_37_2 := c_37_2
        try simp only [kb_eq0, kb_ne0, lg_cmp_lt, lg_cmp_le, lg_cmp_gt, lg_cmp_ge, lg_cmp_eq] at t_37_2
        try simp only [Int32.lt_iff_toInt_lt, Int32.le_iff_toInt_le, ← Int32.toInt_inj, Int64.lt_iff_toInt_lt, Int64.le_iff_toInt_le, ← Int64.toInt_inj, Int32.toInt_toInt64, Int32.reduceToInt, Int64.reduceToInt] at t_37_2
        refine lv_iconst (v := 1) hx hb dX6_readItem_44 (by decide) ?_
        refine lv_isub hx hb dX6_readItem_45 ?_
        refine kCallR (wr := [(t0, .inr (4, [.ref i0, .int n0, .int p0])), (i0, .inl (cL, 300, .inr (.inl f0))), (t1, .inr (4, [.ref i1, .int n1, .int p1])), (i1, .inl (cL, 300, .inr (.inl f1))), (t2, .inr (4, [.ref i2, .int n2, .int p2])), (i2, .inl (cL, 300, .inr (.inl f2))), (t3, .inr (4, [.ref i3, .int n3, .int p3])), (i3, .inl (cL, 300, .inr (.inl f3))), (aD, .inr (1, [.ref bD, .int dp])), (bD, .inl (cL, 256, .inr (.inl fd)))]) (va_runV (As := [.int (ch - 1)]) (rest := []) ⟨hx, hb, hml, hown, hts⟩ (g_tapeAt l D cI cL cB cZ cT _ aU bT aD ch ww t0 t1 t2 t3 (ch - 1)) (cwV 1 hts gX6_readItem_X6_tapeAt rfl rfl rfl (by decide +kernel) ⟨Nat.le_of_ble_eq_true rfl, Nat.le_of_ble_eq_true rfl⟩) (kPreV hG hP hD [0, 1] rfl (by decide) 0 6 rfl rfl rfl) rfl rfl hl.1 rfl (lv_room (Nat.le_of_ble_eq_true rfl)) dX6_readItem_46 ⟨Nat.le_of_ble_eq_true rfl, Nat.le_of_ble_eq_true rfl⟩) hA hP hD hS [0, 1] [2, 3, 4, 5, 6, 7, 8, 9, 10, 11] rfl rfl (by decide) (by decide) (fun r_4 u_r_4 H locs wr_4 hP hD hS => ?_)
        have hP : va_P D vwCl [(t0, .inr (4, [.ref i0, .int n0, .int p0])), (i0, .inl (cL, 300, .inr (.inl f0))), (t1, .inr (4, [.ref i1, .int n1, .int p1])), (i1, .inl (cL, 300, .inr (.inl f1))), (t2, .inr (4, [.ref i2, .int n2, .int p2])), (i2, .inl (cL, 300, .inr (.inl f2))), (t3, .inr (4, [.ref i3, .int n3, .int p3])), (i3, .inl (cL, 300, .inr (.inl f3))), (aD, .inr (1, [.ref bD, .int dp])), (bD, .inl (cL, 256, .inr (.inl fd))), (aU, .inr (6, [.ref bT, .ref aD, .int ch, .int ww])), (bT, .inl (cT, 4, .inr (.inr (.inr (.inr (k4 t0 t1 t2 t3))))))] H := hP
        have hD : va_D A [(t0, .inr (4, [.ref i0, .int n0, .int p0])), (i0, .inl (cL, 300, .inr (.inl f0))), (t1, .inr (4, [.ref i1, .int n1, .int p1])), (i1, .inl (cL, 300, .inr (.inl f1))), (t2, .inr (4, [.ref i2, .int n2, .int p2])), (i2, .inl (cL, 300, .inr (.inl f2))), (t3, .inr (4, [.ref i3, .int n3, .int p3])), (i3, .inl (cL, 300, .inr (.inl f3))), (aD, .inr (1, [.ref bD, .int dp])), (bD, .inl (cL, 256, .inr (.inl fd))), (aU, .inr (6, [.ref bT, .ref aD, .int ch, .int ww])), (bT, .inl (cT, 4, .inr (.inr (.inr (.inr (k4 t0 t1 t2 t3))))))] := hD
        try dsimp only at wr_4
        rcases wr_4 with rfl | rfl | rfl | rfl | rfl
        · show W _ _ _ _ _ _ _ _ _ _ _ _ _ _ _ (F0 _ _ _ (Value.null :: _))
          refine lv_astore_nN (lv' := [(2, .null), (1, .int 0), (0, .ref aU)]) hx hb dX6_readItem_49 rfl hl (by decide) rfl (fun ls hl => ?_)
          refine lv_ldc2 (v := (-9)) hx hb hown (hts (.constantLong RX6 81 (-9)) (List.mem_of_getElem? (i := 3) rfl)) dX6_readItem_50 ?_
          refine lv_lstore_n (lv' := [(3, .long (-9)), (2, .null), (1, .int 0), (0, .ref aU)]) hx hb dX6_readItem_53 rfl hl (by decide) rfl (fun ls hl => ?_)
          refine lv_aload_nN hx hb dX6_readItem_54 rfl (lv_at hl 1 rfl) ?_
          refine lv_ifnullN (tgt := 74) hx hb dX6_readItem_55 (by decide) ?_
          refine lv_lload_n hx hb dX6_readItem_74 rfl (lv_at hl 0 rfl) ?_
          refine lv_lconst (v := 0) hx hb dX6_readItem_75 (by decide) ?_
          refine W.lcmp hx hb dX6_readItem_76 ?_
          refine lv_topi (fun x_5 ex_5 => ?_)
          obtain rfl : x_5 = (-1) := ex_5.trans (by decide)
          refine lv_if_ge (tgt := 85) hx hb dX6_readItem_77 (by decide) (fun c_77_5 => ?_) (fun c_77_5 => ?_)
          · exact absurd c_77_5 (by decide)
          · have t_77_5 := c_77_5
            try simp only [kb_eq0, kb_ne0, lg_cmp_lt, lg_cmp_le, lg_cmp_gt, lg_cmp_ge, lg_cmp_eq] at t_77_5
            try simp only [Int32.lt_iff_toInt_lt, Int32.le_iff_toInt_le, ← Int32.toInt_inj, Int64.lt_iff_toInt_lt, Int64.le_iff_toInt_le, ← Int64.toInt_inj, Int32.toInt_toInt64, Int32.reduceToInt, Int64.reduceToInt] at t_77_5
            refine lv_aload_n hx hb dX6_readItem_80 rfl (lv_at hl 3 rfl) ?_
            refine lv_iconst (v := 0) hx hb dX6_readItem_81 (by decide) ?_
            refine va_put (D := D) (ci := 6) (v := .int 0) (ty := .int) (C := RX6) (T := TX6) (N := 4) hx hb hts iX6_readItem_X6 tyX6 tyX6_ok nmX6 hown hK hP hD hS 10 rfl rfl 2 (by decide) (hts (.fieldLink RX6 36 "TapeCalculator$Units" "chosen" "I") (List.mem_of_getElem? (i := 1) rfl)) (fun _ h9 => h9) rfl (by decide +kernel) rfl rfl (Nat.le_of_ble_eq_true rfl) dX6_readItem_82 (fun H locs hP hD hS => ?_)
            have hP : va_P D vwCl [(t0, .inr (4, [.ref i0, .int n0, .int p0])), (i0, .inl (cL, 300, .inr (.inl f0))), (t1, .inr (4, [.ref i1, .int n1, .int p1])), (i1, .inl (cL, 300, .inr (.inl f1))), (t2, .inr (4, [.ref i2, .int n2, .int p2])), (i2, .inl (cL, 300, .inr (.inl f2))), (t3, .inr (4, [.ref i3, .int n3, .int p3])), (i3, .inl (cL, 300, .inr (.inl f3))), (aD, .inr (1, [.ref bD, .int dp])), (bD, .inl (cL, 256, .inr (.inl fd))), (aU, .inr (6, [.ref bT, .ref aD, .int 0, .int ww])), (bT, .inl (cT, 4, .inr (.inr (.inr (.inr (k4 t0 t1 t2 t3))))))] H := hP
            have hD : va_D A [(t0, .inr (4, [.ref i0, .int n0, .int p0])), (i0, .inl (cL, 300, .inr (.inl f0))), (t1, .inr (4, [.ref i1, .int n1, .int p1])), (i1, .inl (cL, 300, .inr (.inl f1))), (t2, .inr (4, [.ref i2, .int n2, .int p2])), (i2, .inl (cL, 300, .inr (.inl f2))), (t3, .inr (4, [.ref i3, .int n3, .int p3])), (i3, .inl (cL, 300, .inr (.inl f3))), (aD, .inr (1, [.ref bD, .int dp])), (bD, .inl (cL, 256, .inr (.inl fd))), (aU, .inr (6, [.ref bT, .ref aD, .int 0, .int ww])), (bT, .inl (cT, 4, .inr (.inr (.inr (.inr (k4 t0 t1 t2 t3))))))] := hD
            refine lv_lload_n hx hb dX6_readItem_85 rfl (lv_at hl 0 rfl) ?_
            refine kLret (u := (0, ww, n0, n1, n2, n3, p0, p1, p2, p3, f0, f1, f2, f3, dp, fd)) hx hb hr hlocks hS dX6_readItem_86 ?_ (hP.sub [10, 11, 0, 1, 2, 3, 4, 5, 6, 7, 8, 9] rfl) (hD.sub [10, 11, 0, 1, 2, 3, 4, 5, 6, 7, 8, 9] (by decide) rfl)
            exact trivial
        · show W _ _ _ _ _ _ _ _ _ _ _ _ _ _ _ (F0 _ _ _ (Value.ref t0 :: _))
          refine lv_astore_n (lv' := [(2, .ref t0), (1, .int 0), (0, .ref aU)]) hx hb dX6_readItem_49 rfl hl (by decide) rfl (fun ls hl => ?_)
          refine lv_ldc2 (v := (-9)) hx hb hown (hts (.constantLong RX6 81 (-9)) (List.mem_of_getElem? (i := 3) rfl)) dX6_readItem_50 ?_
          refine lv_lstore_n (lv' := [(3, .long (-9)), (2, .ref t0), (1, .int 0), (0, .ref aU)]) hx hb dX6_readItem_53 rfl hl (by decide) rfl (fun ls hl => ?_)
          refine lv_aload_n hx hb dX6_readItem_54 rfl (lv_at hl 1 rfl) ?_
          refine lv_ifnull hx hb dX6_readItem_55 ?_
          refine lv_iload_n hx hb dX6_readItem_58 rfl (lv_at hl 2 rfl) ?_
          refine lv_if_eq (tgt := 69) hx hb dX6_readItem_59 (by decide) (fun c_59_6 => ?_) (fun c_59_6 => ?_)
          · have t_59_6 := c_59_6
            try simp only [kb_eq0, kb_ne0, lg_cmp_lt, lg_cmp_le, lg_cmp_gt, lg_cmp_ge, lg_cmp_eq] at t_59_6
            try simp only [Int32.lt_iff_toInt_lt, Int32.le_iff_toInt_le, ← Int32.toInt_inj, Int64.lt_iff_toInt_lt, Int64.le_iff_toInt_le, ← Int64.toInt_inj, Int32.toInt_toInt64, Int32.reduceToInt, Int64.reduceToInt] at t_59_6
            refine lv_aload_n hx hb dX6_readItem_69 rfl (lv_at hl 1 rfl) ?_
            refine kCallL (wr := [(t1, .inr (4, [.ref i1, .int n1, .int p1])), (i1, .inl (cL, 300, .inr (.inl f1))), (t2, .inr (4, [.ref i2, .int n2, .int p2])), (i2, .inl (cL, 300, .inr (.inl f2))), (t3, .inr (4, [.ref i3, .int n3, .int p3])), (i3, .inl (cL, 300, .inr (.inl f3))), (aD, .inr (1, [.ref bD, .int dp])), (bD, .inl (cL, 256, .inr (.inl fd))), (aU, .inr (6, [.ref bT, .ref aD, .int ch, .int ww])), (bT, .inl (cT, 4, .inr (.inr (.inr (.inr (k4 t0 t1 t2 t3))))))]) (va_runV (As := []) (rest := []) ⟨hx, hb, hml, hown, hts⟩ (g_passForward l D cI cL cB cZ cT _ t0 i0 n0 p0 f0) (cwV 0 hts gX6_readItem_X4_passForward rfl rfl rfl (by decide +kernel) ⟨Nat.le_of_ble_eq_true rfl, Nat.le_of_ble_eq_true rfl⟩) (kPreV hG hP hD [0, 1] rfl (by decide) 0 4 rfl rfl rfl) rfl rfl hl.1 rfl (lv_room (Nat.le_of_ble_eq_true rfl)) dX6_readItem_70 ⟨Nat.le_of_ble_eq_true rfl, Nat.le_of_ble_eq_true rfl⟩) hA hP hD hS [0, 1] [2, 3, 4, 5, 6, 7, 8, 9, 10, 11] rfl rfl (by decide) (by decide) (fun r_8 u_r_8 H locs wr_8 hP hD hS => ?_)
            have hP : va_P D vwCl [(t1, .inr (4, [.ref i1, .int n1, .int p1])), (i1, .inl (cL, 300, .inr (.inl f1))), (t2, .inr (4, [.ref i2, .int n2, .int p2])), (i2, .inl (cL, 300, .inr (.inl f2))), (t3, .inr (4, [.ref i3, .int n3, .int p3])), (i3, .inl (cL, 300, .inr (.inl f3))), (aD, .inr (1, [.ref bD, .int dp])), (bD, .inl (cL, 256, .inr (.inl fd))), (aU, .inr (6, [.ref bT, .ref aD, .int ch, .int ww])), (bT, .inl (cT, 4, .inr (.inr (.inr (.inr (k4 t0 t1 t2 t3)))))), (t0, .inr (4, [.ref i0, .int n0, .int u_r_8])), (i0, .inl (cL, 300, .inr (.inl f0)))] H := hP
            have hD : va_D A [(t1, .inr (4, [.ref i1, .int n1, .int p1])), (i1, .inl (cL, 300, .inr (.inl f1))), (t2, .inr (4, [.ref i2, .int n2, .int p2])), (i2, .inl (cL, 300, .inr (.inl f2))), (t3, .inr (4, [.ref i3, .int n3, .int p3])), (i3, .inl (cL, 300, .inr (.inl f3))), (aD, .inr (1, [.ref bD, .int dp])), (bD, .inl (cL, 256, .inr (.inl fd))), (aU, .inr (6, [.ref bT, .ref aD, .int ch, .int ww])), (bT, .inl (cT, 4, .inr (.inr (.inr (.inr (k4 t0 t1 t2 t3)))))), (t0, .inr (4, [.ref i0, .int n0, .int u_r_8])), (i0, .inl (cL, 300, .inr (.inl f0)))] := hD
            try dsimp only at wr_8
            refine lv_lstore_n (lv' := [(3, .long r_8), (2, .ref t0), (1, .int 0), (0, .ref aU)]) hx hb dX6_readItem_73 rfl hl (by decide) rfl (fun ls hl => ?_)
            refine lv_lload_n hx hb dX6_readItem_74 rfl (lv_at hl 0 rfl) ?_
            refine lv_lconst (v := 0) hx hb dX6_readItem_75 (by decide) ?_
            refine W.lcmp hx hb dX6_readItem_76 ?_
            refine lv_if_ge (tgt := 85) hx hb dX6_readItem_77 (by decide) (fun c_77_8 => ?_) (fun c_77_8 => ?_)
            · have t_77_8 := c_77_8
              try simp only [kb_eq0, kb_ne0, lg_cmp_lt, lg_cmp_le, lg_cmp_gt, lg_cmp_ge, lg_cmp_eq] at t_77_8
              try simp only [Int32.lt_iff_toInt_lt, Int32.le_iff_toInt_le, ← Int32.toInt_inj, Int64.lt_iff_toInt_lt, Int64.le_iff_toInt_le, ← Int64.toInt_inj, Int32.toInt_toInt64, Int32.reduceToInt, Int64.reduceToInt] at t_77_8
              refine lv_lload_n hx hb dX6_readItem_85 rfl (lv_at hl 0 rfl) ?_
              refine kLret (u := (ch, ww, n0, n1, n2, n3, u_r_8, p1, p2, p3, f0, f1, f2, f3, dp, fd)) hx hb hr hlocks hS dX6_readItem_86 ?_ (hP.sub [8, 9, 10, 11, 0, 1, 2, 3, 4, 5, 6, 7] rfl) (hD.sub [8, 9, 10, 11, 0, 1, 2, 3, 4, 5, 6, 7] (by decide) rfl)
              exact trivial
            · have t_77_8 := c_77_8
              try simp only [kb_eq0, kb_ne0, lg_cmp_lt, lg_cmp_le, lg_cmp_gt, lg_cmp_ge, lg_cmp_eq] at t_77_8
              try simp only [Int32.lt_iff_toInt_lt, Int32.le_iff_toInt_le, ← Int32.toInt_inj, Int64.lt_iff_toInt_lt, Int64.le_iff_toInt_le, ← Int64.toInt_inj, Int32.toInt_toInt64, Int32.reduceToInt, Int64.reduceToInt] at t_77_8
              refine lv_aload_n hx hb dX6_readItem_80 rfl (lv_at hl 3 rfl) ?_
              refine lv_iconst (v := 0) hx hb dX6_readItem_81 (by decide) ?_
              refine va_put (D := D) (ci := 6) (v := .int 0) (ty := .int) (C := RX6) (T := TX6) (N := 4) hx hb hts iX6_readItem_X6 tyX6 tyX6_ok nmX6 hown hK hP hD hS 8 rfl rfl 2 (by decide) (hts (.fieldLink RX6 36 "TapeCalculator$Units" "chosen" "I") (List.mem_of_getElem? (i := 1) rfl)) (fun _ h9 => h9) rfl (by decide +kernel) rfl rfl (Nat.le_of_ble_eq_true rfl) dX6_readItem_82 (fun H locs hP hD hS => ?_)
              have hP : va_P D vwCl [(t1, .inr (4, [.ref i1, .int n1, .int p1])), (i1, .inl (cL, 300, .inr (.inl f1))), (t2, .inr (4, [.ref i2, .int n2, .int p2])), (i2, .inl (cL, 300, .inr (.inl f2))), (t3, .inr (4, [.ref i3, .int n3, .int p3])), (i3, .inl (cL, 300, .inr (.inl f3))), (aD, .inr (1, [.ref bD, .int dp])), (bD, .inl (cL, 256, .inr (.inl fd))), (aU, .inr (6, [.ref bT, .ref aD, .int 0, .int ww])), (bT, .inl (cT, 4, .inr (.inr (.inr (.inr (k4 t0 t1 t2 t3)))))), (t0, .inr (4, [.ref i0, .int n0, .int u_r_8])), (i0, .inl (cL, 300, .inr (.inl f0)))] H := hP
              have hD : va_D A [(t1, .inr (4, [.ref i1, .int n1, .int p1])), (i1, .inl (cL, 300, .inr (.inl f1))), (t2, .inr (4, [.ref i2, .int n2, .int p2])), (i2, .inl (cL, 300, .inr (.inl f2))), (t3, .inr (4, [.ref i3, .int n3, .int p3])), (i3, .inl (cL, 300, .inr (.inl f3))), (aD, .inr (1, [.ref bD, .int dp])), (bD, .inl (cL, 256, .inr (.inl fd))), (aU, .inr (6, [.ref bT, .ref aD, .int 0, .int ww])), (bT, .inl (cT, 4, .inr (.inr (.inr (.inr (k4 t0 t1 t2 t3)))))), (t0, .inr (4, [.ref i0, .int n0, .int u_r_8])), (i0, .inl (cL, 300, .inr (.inl f0)))] := hD
              refine lv_lload_n hx hb dX6_readItem_85 rfl (lv_at hl 0 rfl) ?_
              refine kLret (u := (0, ww, n0, n1, n2, n3, u_r_8, p1, p2, p3, f0, f1, f2, f3, dp, fd)) hx hb hr hlocks hS dX6_readItem_86 ?_ (hP.sub [8, 9, 10, 11, 0, 1, 2, 3, 4, 5, 6, 7] rfl) (hD.sub [8, 9, 10, 11, 0, 1, 2, 3, 4, 5, 6, 7] (by decide) rfl)
              exact trivial
          · exact absurd (by decide) c_59_6
        · show W _ _ _ _ _ _ _ _ _ _ _ _ _ _ _ (F0 _ _ _ (Value.ref t1 :: _))
          refine lv_astore_n (lv' := [(2, .ref t1), (1, .int 0), (0, .ref aU)]) hx hb dX6_readItem_49 rfl hl (by decide) rfl (fun ls hl => ?_)
          refine lv_ldc2 (v := (-9)) hx hb hown (hts (.constantLong RX6 81 (-9)) (List.mem_of_getElem? (i := 3) rfl)) dX6_readItem_50 ?_
          refine lv_lstore_n (lv' := [(3, .long (-9)), (2, .ref t1), (1, .int 0), (0, .ref aU)]) hx hb dX6_readItem_53 rfl hl (by decide) rfl (fun ls hl => ?_)
          refine lv_aload_n hx hb dX6_readItem_54 rfl (lv_at hl 1 rfl) ?_
          refine lv_ifnull hx hb dX6_readItem_55 ?_
          refine lv_iload_n hx hb dX6_readItem_58 rfl (lv_at hl 2 rfl) ?_
          refine lv_if_eq (tgt := 69) hx hb dX6_readItem_59 (by decide) (fun c_59_9 => ?_) (fun c_59_9 => ?_)
          · have t_59_9 := c_59_9
            try simp only [kb_eq0, kb_ne0, lg_cmp_lt, lg_cmp_le, lg_cmp_gt, lg_cmp_ge, lg_cmp_eq] at t_59_9
            try simp only [Int32.lt_iff_toInt_lt, Int32.le_iff_toInt_le, ← Int32.toInt_inj, Int64.lt_iff_toInt_lt, Int64.le_iff_toInt_le, ← Int64.toInt_inj, Int32.toInt_toInt64, Int32.reduceToInt, Int64.reduceToInt] at t_59_9
            refine lv_aload_n hx hb dX6_readItem_69 rfl (lv_at hl 1 rfl) ?_
            refine kCallL (wr := [(t0, .inr (4, [.ref i0, .int n0, .int p0])), (i0, .inl (cL, 300, .inr (.inl f0))), (t2, .inr (4, [.ref i2, .int n2, .int p2])), (i2, .inl (cL, 300, .inr (.inl f2))), (t3, .inr (4, [.ref i3, .int n3, .int p3])), (i3, .inl (cL, 300, .inr (.inl f3))), (aD, .inr (1, [.ref bD, .int dp])), (bD, .inl (cL, 256, .inr (.inl fd))), (aU, .inr (6, [.ref bT, .ref aD, .int ch, .int ww])), (bT, .inl (cT, 4, .inr (.inr (.inr (.inr (k4 t0 t1 t2 t3))))))]) (va_runV (As := []) (rest := []) ⟨hx, hb, hml, hown, hts⟩ (g_passForward l D cI cL cB cZ cT _ t1 i1 n1 p1 f1) (cwV 0 hts gX6_readItem_X4_passForward rfl rfl rfl (by decide +kernel) ⟨Nat.le_of_ble_eq_true rfl, Nat.le_of_ble_eq_true rfl⟩) (kPreV hG hP hD [2, 3] rfl (by decide) 0 4 rfl rfl rfl) rfl rfl hl.1 rfl (lv_room (Nat.le_of_ble_eq_true rfl)) dX6_readItem_70 ⟨Nat.le_of_ble_eq_true rfl, Nat.le_of_ble_eq_true rfl⟩) hA hP hD hS [2, 3] [0, 1, 4, 5, 6, 7, 8, 9, 10, 11] rfl rfl (by decide) (by decide) (fun r_11 u_r_11 H locs wr_11 hP hD hS => ?_)
            have hP : va_P D vwCl [(t0, .inr (4, [.ref i0, .int n0, .int p0])), (i0, .inl (cL, 300, .inr (.inl f0))), (t2, .inr (4, [.ref i2, .int n2, .int p2])), (i2, .inl (cL, 300, .inr (.inl f2))), (t3, .inr (4, [.ref i3, .int n3, .int p3])), (i3, .inl (cL, 300, .inr (.inl f3))), (aD, .inr (1, [.ref bD, .int dp])), (bD, .inl (cL, 256, .inr (.inl fd))), (aU, .inr (6, [.ref bT, .ref aD, .int ch, .int ww])), (bT, .inl (cT, 4, .inr (.inr (.inr (.inr (k4 t0 t1 t2 t3)))))), (t1, .inr (4, [.ref i1, .int n1, .int u_r_11])), (i1, .inl (cL, 300, .inr (.inl f1)))] H := hP
            have hD : va_D A [(t0, .inr (4, [.ref i0, .int n0, .int p0])), (i0, .inl (cL, 300, .inr (.inl f0))), (t2, .inr (4, [.ref i2, .int n2, .int p2])), (i2, .inl (cL, 300, .inr (.inl f2))), (t3, .inr (4, [.ref i3, .int n3, .int p3])), (i3, .inl (cL, 300, .inr (.inl f3))), (aD, .inr (1, [.ref bD, .int dp])), (bD, .inl (cL, 256, .inr (.inl fd))), (aU, .inr (6, [.ref bT, .ref aD, .int ch, .int ww])), (bT, .inl (cT, 4, .inr (.inr (.inr (.inr (k4 t0 t1 t2 t3)))))), (t1, .inr (4, [.ref i1, .int n1, .int u_r_11])), (i1, .inl (cL, 300, .inr (.inl f1)))] := hD
            try dsimp only at wr_11
            refine lv_lstore_n (lv' := [(3, .long r_11), (2, .ref t1), (1, .int 0), (0, .ref aU)]) hx hb dX6_readItem_73 rfl hl (by decide) rfl (fun ls hl => ?_)
            refine lv_lload_n hx hb dX6_readItem_74 rfl (lv_at hl 0 rfl) ?_
            refine lv_lconst (v := 0) hx hb dX6_readItem_75 (by decide) ?_
            refine W.lcmp hx hb dX6_readItem_76 ?_
            refine lv_if_ge (tgt := 85) hx hb dX6_readItem_77 (by decide) (fun c_77_11 => ?_) (fun c_77_11 => ?_)
            · have t_77_11 := c_77_11
              try simp only [kb_eq0, kb_ne0, lg_cmp_lt, lg_cmp_le, lg_cmp_gt, lg_cmp_ge, lg_cmp_eq] at t_77_11
              try simp only [Int32.lt_iff_toInt_lt, Int32.le_iff_toInt_le, ← Int32.toInt_inj, Int64.lt_iff_toInt_lt, Int64.le_iff_toInt_le, ← Int64.toInt_inj, Int32.toInt_toInt64, Int32.reduceToInt, Int64.reduceToInt] at t_77_11
              refine lv_lload_n hx hb dX6_readItem_85 rfl (lv_at hl 0 rfl) ?_
              refine kLret (u := (ch, ww, n0, n1, n2, n3, p0, u_r_11, p2, p3, f0, f1, f2, f3, dp, fd)) hx hb hr hlocks hS dX6_readItem_86 ?_ (hP.sub [8, 9, 0, 1, 10, 11, 2, 3, 4, 5, 6, 7] rfl) (hD.sub [8, 9, 0, 1, 10, 11, 2, 3, 4, 5, 6, 7] (by decide) rfl)
              exact trivial
            · have t_77_11 := c_77_11
              try simp only [kb_eq0, kb_ne0, lg_cmp_lt, lg_cmp_le, lg_cmp_gt, lg_cmp_ge, lg_cmp_eq] at t_77_11
              try simp only [Int32.lt_iff_toInt_lt, Int32.le_iff_toInt_le, ← Int32.toInt_inj, Int64.lt_iff_toInt_lt, Int64.le_iff_toInt_le, ← Int64.toInt_inj, Int32.toInt_toInt64, Int32.reduceToInt, Int64.reduceToInt] at t_77_11
              refine lv_aload_n hx hb dX6_readItem_80 rfl (lv_at hl 3 rfl) ?_
              refine lv_iconst (v := 0) hx hb dX6_readItem_81 (by decide) ?_
              refine va_put (D := D) (ci := 6) (v := .int 0) (ty := .int) (C := RX6) (T := TX6) (N := 4) hx hb hts iX6_readItem_X6 tyX6 tyX6_ok nmX6 hown hK hP hD hS 8 rfl rfl 2 (by decide) (hts (.fieldLink RX6 36 "TapeCalculator$Units" "chosen" "I") (List.mem_of_getElem? (i := 1) rfl)) (fun _ h9 => h9) rfl (by decide +kernel) rfl rfl (Nat.le_of_ble_eq_true rfl) dX6_readItem_82 (fun H locs hP hD hS => ?_)
              have hP : va_P D vwCl [(t0, .inr (4, [.ref i0, .int n0, .int p0])), (i0, .inl (cL, 300, .inr (.inl f0))), (t2, .inr (4, [.ref i2, .int n2, .int p2])), (i2, .inl (cL, 300, .inr (.inl f2))), (t3, .inr (4, [.ref i3, .int n3, .int p3])), (i3, .inl (cL, 300, .inr (.inl f3))), (aD, .inr (1, [.ref bD, .int dp])), (bD, .inl (cL, 256, .inr (.inl fd))), (aU, .inr (6, [.ref bT, .ref aD, .int 0, .int ww])), (bT, .inl (cT, 4, .inr (.inr (.inr (.inr (k4 t0 t1 t2 t3)))))), (t1, .inr (4, [.ref i1, .int n1, .int u_r_11])), (i1, .inl (cL, 300, .inr (.inl f1)))] H := hP
              have hD : va_D A [(t0, .inr (4, [.ref i0, .int n0, .int p0])), (i0, .inl (cL, 300, .inr (.inl f0))), (t2, .inr (4, [.ref i2, .int n2, .int p2])), (i2, .inl (cL, 300, .inr (.inl f2))), (t3, .inr (4, [.ref i3, .int n3, .int p3])), (i3, .inl (cL, 300, .inr (.inl f3))), (aD, .inr (1, [.ref bD, .int dp])), (bD, .inl (cL, 256, .inr (.inl fd))), (aU, .inr (6, [.ref bT, .ref aD, .int 0, .int ww])), (bT, .inl (cT, 4, .inr (.inr (.inr (.inr (k4 t0 t1 t2 t3)))))), (t1, .inr (4, [.ref i1, .int n1, .int u_r_11])), (i1, .inl (cL, 300, .inr (.inl f1)))] := hD
              refine lv_lload_n hx hb dX6_readItem_85 rfl (lv_at hl 0 rfl) ?_
              refine kLret (u := (0, ww, n0, n1, n2, n3, p0, u_r_11, p2, p3, f0, f1, f2, f3, dp, fd)) hx hb hr hlocks hS dX6_readItem_86 ?_ (hP.sub [8, 9, 0, 1, 10, 11, 2, 3, 4, 5, 6, 7] rfl) (hD.sub [8, 9, 0, 1, 10, 11, 2, 3, 4, 5, 6, 7] (by decide) rfl)
              exact trivial
          · exact absurd (by decide) c_59_9
        · show W _ _ _ _ _ _ _ _ _ _ _ _ _ _ _ (F0 _ _ _ (Value.ref t2 :: _))
          refine lv_astore_n (lv' := [(2, .ref t2), (1, .int 0), (0, .ref aU)]) hx hb dX6_readItem_49 rfl hl (by decide) rfl (fun ls hl => ?_)
          refine lv_ldc2 (v := (-9)) hx hb hown (hts (.constantLong RX6 81 (-9)) (List.mem_of_getElem? (i := 3) rfl)) dX6_readItem_50 ?_
          refine lv_lstore_n (lv' := [(3, .long (-9)), (2, .ref t2), (1, .int 0), (0, .ref aU)]) hx hb dX6_readItem_53 rfl hl (by decide) rfl (fun ls hl => ?_)
          refine lv_aload_n hx hb dX6_readItem_54 rfl (lv_at hl 1 rfl) ?_
          refine lv_ifnull hx hb dX6_readItem_55 ?_
          refine lv_iload_n hx hb dX6_readItem_58 rfl (lv_at hl 2 rfl) ?_
          refine lv_if_eq (tgt := 69) hx hb dX6_readItem_59 (by decide) (fun c_59_12 => ?_) (fun c_59_12 => ?_)
          · have t_59_12 := c_59_12
            try simp only [kb_eq0, kb_ne0, lg_cmp_lt, lg_cmp_le, lg_cmp_gt, lg_cmp_ge, lg_cmp_eq] at t_59_12
            try simp only [Int32.lt_iff_toInt_lt, Int32.le_iff_toInt_le, ← Int32.toInt_inj, Int64.lt_iff_toInt_lt, Int64.le_iff_toInt_le, ← Int64.toInt_inj, Int32.toInt_toInt64, Int32.reduceToInt, Int64.reduceToInt] at t_59_12
            refine lv_aload_n hx hb dX6_readItem_69 rfl (lv_at hl 1 rfl) ?_
            refine kCallL (wr := [(t0, .inr (4, [.ref i0, .int n0, .int p0])), (i0, .inl (cL, 300, .inr (.inl f0))), (t1, .inr (4, [.ref i1, .int n1, .int p1])), (i1, .inl (cL, 300, .inr (.inl f1))), (t3, .inr (4, [.ref i3, .int n3, .int p3])), (i3, .inl (cL, 300, .inr (.inl f3))), (aD, .inr (1, [.ref bD, .int dp])), (bD, .inl (cL, 256, .inr (.inl fd))), (aU, .inr (6, [.ref bT, .ref aD, .int ch, .int ww])), (bT, .inl (cT, 4, .inr (.inr (.inr (.inr (k4 t0 t1 t2 t3))))))]) (va_runV (As := []) (rest := []) ⟨hx, hb, hml, hown, hts⟩ (g_passForward l D cI cL cB cZ cT _ t2 i2 n2 p2 f2) (cwV 0 hts gX6_readItem_X4_passForward rfl rfl rfl (by decide +kernel) ⟨Nat.le_of_ble_eq_true rfl, Nat.le_of_ble_eq_true rfl⟩) (kPreV hG hP hD [4, 5] rfl (by decide) 0 4 rfl rfl rfl) rfl rfl hl.1 rfl (lv_room (Nat.le_of_ble_eq_true rfl)) dX6_readItem_70 ⟨Nat.le_of_ble_eq_true rfl, Nat.le_of_ble_eq_true rfl⟩) hA hP hD hS [4, 5] [0, 1, 2, 3, 6, 7, 8, 9, 10, 11] rfl rfl (by decide) (by decide) (fun r_14 u_r_14 H locs wr_14 hP hD hS => ?_)
            have hP : va_P D vwCl [(t0, .inr (4, [.ref i0, .int n0, .int p0])), (i0, .inl (cL, 300, .inr (.inl f0))), (t1, .inr (4, [.ref i1, .int n1, .int p1])), (i1, .inl (cL, 300, .inr (.inl f1))), (t3, .inr (4, [.ref i3, .int n3, .int p3])), (i3, .inl (cL, 300, .inr (.inl f3))), (aD, .inr (1, [.ref bD, .int dp])), (bD, .inl (cL, 256, .inr (.inl fd))), (aU, .inr (6, [.ref bT, .ref aD, .int ch, .int ww])), (bT, .inl (cT, 4, .inr (.inr (.inr (.inr (k4 t0 t1 t2 t3)))))), (t2, .inr (4, [.ref i2, .int n2, .int u_r_14])), (i2, .inl (cL, 300, .inr (.inl f2)))] H := hP
            have hD : va_D A [(t0, .inr (4, [.ref i0, .int n0, .int p0])), (i0, .inl (cL, 300, .inr (.inl f0))), (t1, .inr (4, [.ref i1, .int n1, .int p1])), (i1, .inl (cL, 300, .inr (.inl f1))), (t3, .inr (4, [.ref i3, .int n3, .int p3])), (i3, .inl (cL, 300, .inr (.inl f3))), (aD, .inr (1, [.ref bD, .int dp])), (bD, .inl (cL, 256, .inr (.inl fd))), (aU, .inr (6, [.ref bT, .ref aD, .int ch, .int ww])), (bT, .inl (cT, 4, .inr (.inr (.inr (.inr (k4 t0 t1 t2 t3)))))), (t2, .inr (4, [.ref i2, .int n2, .int u_r_14])), (i2, .inl (cL, 300, .inr (.inl f2)))] := hD
            try dsimp only at wr_14
            refine lv_lstore_n (lv' := [(3, .long r_14), (2, .ref t2), (1, .int 0), (0, .ref aU)]) hx hb dX6_readItem_73 rfl hl (by decide) rfl (fun ls hl => ?_)
            refine lv_lload_n hx hb dX6_readItem_74 rfl (lv_at hl 0 rfl) ?_
            refine lv_lconst (v := 0) hx hb dX6_readItem_75 (by decide) ?_
            refine W.lcmp hx hb dX6_readItem_76 ?_
            refine lv_if_ge (tgt := 85) hx hb dX6_readItem_77 (by decide) (fun c_77_14 => ?_) (fun c_77_14 => ?_)
            · have t_77_14 := c_77_14
              try simp only [kb_eq0, kb_ne0, lg_cmp_lt, lg_cmp_le, lg_cmp_gt, lg_cmp_ge, lg_cmp_eq] at t_77_14
              try simp only [Int32.lt_iff_toInt_lt, Int32.le_iff_toInt_le, ← Int32.toInt_inj, Int64.lt_iff_toInt_lt, Int64.le_iff_toInt_le, ← Int64.toInt_inj, Int32.toInt_toInt64, Int32.reduceToInt, Int64.reduceToInt] at t_77_14
              refine lv_lload_n hx hb dX6_readItem_85 rfl (lv_at hl 0 rfl) ?_
              refine kLret (u := (ch, ww, n0, n1, n2, n3, p0, p1, u_r_14, p3, f0, f1, f2, f3, dp, fd)) hx hb hr hlocks hS dX6_readItem_86 ?_ (hP.sub [8, 9, 0, 1, 2, 3, 10, 11, 4, 5, 6, 7] rfl) (hD.sub [8, 9, 0, 1, 2, 3, 10, 11, 4, 5, 6, 7] (by decide) rfl)
              exact trivial
            · have t_77_14 := c_77_14
              try simp only [kb_eq0, kb_ne0, lg_cmp_lt, lg_cmp_le, lg_cmp_gt, lg_cmp_ge, lg_cmp_eq] at t_77_14
              try simp only [Int32.lt_iff_toInt_lt, Int32.le_iff_toInt_le, ← Int32.toInt_inj, Int64.lt_iff_toInt_lt, Int64.le_iff_toInt_le, ← Int64.toInt_inj, Int32.toInt_toInt64, Int32.reduceToInt, Int64.reduceToInt] at t_77_14
              refine lv_aload_n hx hb dX6_readItem_80 rfl (lv_at hl 3 rfl) ?_
              refine lv_iconst (v := 0) hx hb dX6_readItem_81 (by decide) ?_
              refine va_put (D := D) (ci := 6) (v := .int 0) (ty := .int) (C := RX6) (T := TX6) (N := 4) hx hb hts iX6_readItem_X6 tyX6 tyX6_ok nmX6 hown hK hP hD hS 8 rfl rfl 2 (by decide) (hts (.fieldLink RX6 36 "TapeCalculator$Units" "chosen" "I") (List.mem_of_getElem? (i := 1) rfl)) (fun _ h9 => h9) rfl (by decide +kernel) rfl rfl (Nat.le_of_ble_eq_true rfl) dX6_readItem_82 (fun H locs hP hD hS => ?_)
              have hP : va_P D vwCl [(t0, .inr (4, [.ref i0, .int n0, .int p0])), (i0, .inl (cL, 300, .inr (.inl f0))), (t1, .inr (4, [.ref i1, .int n1, .int p1])), (i1, .inl (cL, 300, .inr (.inl f1))), (t3, .inr (4, [.ref i3, .int n3, .int p3])), (i3, .inl (cL, 300, .inr (.inl f3))), (aD, .inr (1, [.ref bD, .int dp])), (bD, .inl (cL, 256, .inr (.inl fd))), (aU, .inr (6, [.ref bT, .ref aD, .int 0, .int ww])), (bT, .inl (cT, 4, .inr (.inr (.inr (.inr (k4 t0 t1 t2 t3)))))), (t2, .inr (4, [.ref i2, .int n2, .int u_r_14])), (i2, .inl (cL, 300, .inr (.inl f2)))] H := hP
              have hD : va_D A [(t0, .inr (4, [.ref i0, .int n0, .int p0])), (i0, .inl (cL, 300, .inr (.inl f0))), (t1, .inr (4, [.ref i1, .int n1, .int p1])), (i1, .inl (cL, 300, .inr (.inl f1))), (t3, .inr (4, [.ref i3, .int n3, .int p3])), (i3, .inl (cL, 300, .inr (.inl f3))), (aD, .inr (1, [.ref bD, .int dp])), (bD, .inl (cL, 256, .inr (.inl fd))), (aU, .inr (6, [.ref bT, .ref aD, .int 0, .int ww])), (bT, .inl (cT, 4, .inr (.inr (.inr (.inr (k4 t0 t1 t2 t3)))))), (t2, .inr (4, [.ref i2, .int n2, .int u_r_14])), (i2, .inl (cL, 300, .inr (.inl f2)))] := hD
              refine lv_lload_n hx hb dX6_readItem_85 rfl (lv_at hl 0 rfl) ?_
              refine kLret (u := (0, ww, n0, n1, n2, n3, p0, p1, u_r_14, p3, f0, f1, f2, f3, dp, fd)) hx hb hr hlocks hS dX6_readItem_86 ?_ (hP.sub [8, 9, 0, 1, 2, 3, 10, 11, 4, 5, 6, 7] rfl) (hD.sub [8, 9, 0, 1, 2, 3, 10, 11, 4, 5, 6, 7] (by decide) rfl)
              exact trivial
          · exact absurd (by decide) c_59_12
        · show W _ _ _ _ _ _ _ _ _ _ _ _ _ _ _ (F0 _ _ _ (Value.ref t3 :: _))
          refine lv_astore_n (lv' := [(2, .ref t3), (1, .int 0), (0, .ref aU)]) hx hb dX6_readItem_49 rfl hl (by decide) rfl (fun ls hl => ?_)
          refine lv_ldc2 (v := (-9)) hx hb hown (hts (.constantLong RX6 81 (-9)) (List.mem_of_getElem? (i := 3) rfl)) dX6_readItem_50 ?_
          refine lv_lstore_n (lv' := [(3, .long (-9)), (2, .ref t3), (1, .int 0), (0, .ref aU)]) hx hb dX6_readItem_53 rfl hl (by decide) rfl (fun ls hl => ?_)
          refine lv_aload_n hx hb dX6_readItem_54 rfl (lv_at hl 1 rfl) ?_
          refine lv_ifnull hx hb dX6_readItem_55 ?_
          refine lv_iload_n hx hb dX6_readItem_58 rfl (lv_at hl 2 rfl) ?_
          refine lv_if_eq (tgt := 69) hx hb dX6_readItem_59 (by decide) (fun c_59_15 => ?_) (fun c_59_15 => ?_)
          · have t_59_15 := c_59_15
            try simp only [kb_eq0, kb_ne0, lg_cmp_lt, lg_cmp_le, lg_cmp_gt, lg_cmp_ge, lg_cmp_eq] at t_59_15
            try simp only [Int32.lt_iff_toInt_lt, Int32.le_iff_toInt_le, ← Int32.toInt_inj, Int64.lt_iff_toInt_lt, Int64.le_iff_toInt_le, ← Int64.toInt_inj, Int32.toInt_toInt64, Int32.reduceToInt, Int64.reduceToInt] at t_59_15
            refine lv_aload_n hx hb dX6_readItem_69 rfl (lv_at hl 1 rfl) ?_
            refine kCallL (wr := [(t0, .inr (4, [.ref i0, .int n0, .int p0])), (i0, .inl (cL, 300, .inr (.inl f0))), (t1, .inr (4, [.ref i1, .int n1, .int p1])), (i1, .inl (cL, 300, .inr (.inl f1))), (t2, .inr (4, [.ref i2, .int n2, .int p2])), (i2, .inl (cL, 300, .inr (.inl f2))), (aD, .inr (1, [.ref bD, .int dp])), (bD, .inl (cL, 256, .inr (.inl fd))), (aU, .inr (6, [.ref bT, .ref aD, .int ch, .int ww])), (bT, .inl (cT, 4, .inr (.inr (.inr (.inr (k4 t0 t1 t2 t3))))))]) (va_runV (As := []) (rest := []) ⟨hx, hb, hml, hown, hts⟩ (g_passForward l D cI cL cB cZ cT _ t3 i3 n3 p3 f3) (cwV 0 hts gX6_readItem_X4_passForward rfl rfl rfl (by decide +kernel) ⟨Nat.le_of_ble_eq_true rfl, Nat.le_of_ble_eq_true rfl⟩) (kPreV hG hP hD [6, 7] rfl (by decide) 0 4 rfl rfl rfl) rfl rfl hl.1 rfl (lv_room (Nat.le_of_ble_eq_true rfl)) dX6_readItem_70 ⟨Nat.le_of_ble_eq_true rfl, Nat.le_of_ble_eq_true rfl⟩) hA hP hD hS [6, 7] [0, 1, 2, 3, 4, 5, 8, 9, 10, 11] rfl rfl (by decide) (by decide) (fun r_17 u_r_17 H locs wr_17 hP hD hS => ?_)
            have hP : va_P D vwCl [(t0, .inr (4, [.ref i0, .int n0, .int p0])), (i0, .inl (cL, 300, .inr (.inl f0))), (t1, .inr (4, [.ref i1, .int n1, .int p1])), (i1, .inl (cL, 300, .inr (.inl f1))), (t2, .inr (4, [.ref i2, .int n2, .int p2])), (i2, .inl (cL, 300, .inr (.inl f2))), (aD, .inr (1, [.ref bD, .int dp])), (bD, .inl (cL, 256, .inr (.inl fd))), (aU, .inr (6, [.ref bT, .ref aD, .int ch, .int ww])), (bT, .inl (cT, 4, .inr (.inr (.inr (.inr (k4 t0 t1 t2 t3)))))), (t3, .inr (4, [.ref i3, .int n3, .int u_r_17])), (i3, .inl (cL, 300, .inr (.inl f3)))] H := hP
            have hD : va_D A [(t0, .inr (4, [.ref i0, .int n0, .int p0])), (i0, .inl (cL, 300, .inr (.inl f0))), (t1, .inr (4, [.ref i1, .int n1, .int p1])), (i1, .inl (cL, 300, .inr (.inl f1))), (t2, .inr (4, [.ref i2, .int n2, .int p2])), (i2, .inl (cL, 300, .inr (.inl f2))), (aD, .inr (1, [.ref bD, .int dp])), (bD, .inl (cL, 256, .inr (.inl fd))), (aU, .inr (6, [.ref bT, .ref aD, .int ch, .int ww])), (bT, .inl (cT, 4, .inr (.inr (.inr (.inr (k4 t0 t1 t2 t3)))))), (t3, .inr (4, [.ref i3, .int n3, .int u_r_17])), (i3, .inl (cL, 300, .inr (.inl f3)))] := hD
            try dsimp only at wr_17
            refine lv_lstore_n (lv' := [(3, .long r_17), (2, .ref t3), (1, .int 0), (0, .ref aU)]) hx hb dX6_readItem_73 rfl hl (by decide) rfl (fun ls hl => ?_)
            refine lv_lload_n hx hb dX6_readItem_74 rfl (lv_at hl 0 rfl) ?_
            refine lv_lconst (v := 0) hx hb dX6_readItem_75 (by decide) ?_
            refine W.lcmp hx hb dX6_readItem_76 ?_
            refine lv_if_ge (tgt := 85) hx hb dX6_readItem_77 (by decide) (fun c_77_17 => ?_) (fun c_77_17 => ?_)
            · have t_77_17 := c_77_17
              try simp only [kb_eq0, kb_ne0, lg_cmp_lt, lg_cmp_le, lg_cmp_gt, lg_cmp_ge, lg_cmp_eq] at t_77_17
              try simp only [Int32.lt_iff_toInt_lt, Int32.le_iff_toInt_le, ← Int32.toInt_inj, Int64.lt_iff_toInt_lt, Int64.le_iff_toInt_le, ← Int64.toInt_inj, Int32.toInt_toInt64, Int32.reduceToInt, Int64.reduceToInt] at t_77_17
              refine lv_lload_n hx hb dX6_readItem_85 rfl (lv_at hl 0 rfl) ?_
              refine kLret (u := (ch, ww, n0, n1, n2, n3, p0, p1, p2, u_r_17, f0, f1, f2, f3, dp, fd)) hx hb hr hlocks hS dX6_readItem_86 ?_ (hP.sub [8, 9, 0, 1, 2, 3, 4, 5, 10, 11, 6, 7] rfl) (hD.sub [8, 9, 0, 1, 2, 3, 4, 5, 10, 11, 6, 7] (by decide) rfl)
              exact trivial
            · have t_77_17 := c_77_17
              try simp only [kb_eq0, kb_ne0, lg_cmp_lt, lg_cmp_le, lg_cmp_gt, lg_cmp_ge, lg_cmp_eq] at t_77_17
              try simp only [Int32.lt_iff_toInt_lt, Int32.le_iff_toInt_le, ← Int32.toInt_inj, Int64.lt_iff_toInt_lt, Int64.le_iff_toInt_le, ← Int64.toInt_inj, Int32.toInt_toInt64, Int32.reduceToInt, Int64.reduceToInt] at t_77_17
              refine lv_aload_n hx hb dX6_readItem_80 rfl (lv_at hl 3 rfl) ?_
              refine lv_iconst (v := 0) hx hb dX6_readItem_81 (by decide) ?_
              refine va_put (D := D) (ci := 6) (v := .int 0) (ty := .int) (C := RX6) (T := TX6) (N := 4) hx hb hts iX6_readItem_X6 tyX6 tyX6_ok nmX6 hown hK hP hD hS 8 rfl rfl 2 (by decide) (hts (.fieldLink RX6 36 "TapeCalculator$Units" "chosen" "I") (List.mem_of_getElem? (i := 1) rfl)) (fun _ h9 => h9) rfl (by decide +kernel) rfl rfl (Nat.le_of_ble_eq_true rfl) dX6_readItem_82 (fun H locs hP hD hS => ?_)
              have hP : va_P D vwCl [(t0, .inr (4, [.ref i0, .int n0, .int p0])), (i0, .inl (cL, 300, .inr (.inl f0))), (t1, .inr (4, [.ref i1, .int n1, .int p1])), (i1, .inl (cL, 300, .inr (.inl f1))), (t2, .inr (4, [.ref i2, .int n2, .int p2])), (i2, .inl (cL, 300, .inr (.inl f2))), (aD, .inr (1, [.ref bD, .int dp])), (bD, .inl (cL, 256, .inr (.inl fd))), (aU, .inr (6, [.ref bT, .ref aD, .int 0, .int ww])), (bT, .inl (cT, 4, .inr (.inr (.inr (.inr (k4 t0 t1 t2 t3)))))), (t3, .inr (4, [.ref i3, .int n3, .int u_r_17])), (i3, .inl (cL, 300, .inr (.inl f3)))] H := hP
              have hD : va_D A [(t0, .inr (4, [.ref i0, .int n0, .int p0])), (i0, .inl (cL, 300, .inr (.inl f0))), (t1, .inr (4, [.ref i1, .int n1, .int p1])), (i1, .inl (cL, 300, .inr (.inl f1))), (t2, .inr (4, [.ref i2, .int n2, .int p2])), (i2, .inl (cL, 300, .inr (.inl f2))), (aD, .inr (1, [.ref bD, .int dp])), (bD, .inl (cL, 256, .inr (.inl fd))), (aU, .inr (6, [.ref bT, .ref aD, .int 0, .int ww])), (bT, .inl (cT, 4, .inr (.inr (.inr (.inr (k4 t0 t1 t2 t3)))))), (t3, .inr (4, [.ref i3, .int n3, .int u_r_17])), (i3, .inl (cL, 300, .inr (.inl f3)))] := hD
              refine lv_lload_n hx hb dX6_readItem_85 rfl (lv_at hl 0 rfl) ?_
              refine kLret (u := (0, ww, n0, n1, n2, n3, p0, p1, p2, u_r_17, f0, f1, f2, f3, dp, fd)) hx hb hr hlocks hS dX6_readItem_86 ?_ (hP.sub [8, 9, 0, 1, 2, 3, 4, 5, 10, 11, 6, 7] rfl) (hD.sub [8, 9, 0, 1, 2, 3, 4, 5, 10, 11, 6, 7] (by decide) rfl)
              exact trivial
          · exact absurd (by decide) c_59_15
      · exact absurd (by decide) c_37_2
    · have t_22_1 := c_22_1
      try simp only [kb_eq0, kb_ne0, lg_cmp_lt, lg_cmp_le, lg_cmp_gt, lg_cmp_ge, lg_cmp_eq] at t_22_1
      try simp only [Int32.lt_iff_toInt_lt, Int32.le_iff_toInt_le, ← Int32.toInt_inj, Int64.lt_iff_toInt_lt, Int64.le_iff_toInt_le, ← Int64.toInt_inj, Int32.toInt_toInt64, Int32.reduceToInt, Int64.reduceToInt] at t_22_1
      refine lv_iconst (v := 1) hx hb dX6_readItem_25 (by decide) ?_
      refine lv_goto (tgt := 30) hx hb dX6_readItem_26 (by decide) ?_
      refine lv_istore_n (lv' := [(1, .int 1), (0, .ref aU)]) hx hb dX6_readItem_30 rfl hl (by decide) rfl (fun ls hl => ?_)
      refine lv_aload_n hx hb dX6_readItem_31 rfl (lv_at hl 1 rfl) ?_
      refine lv_aload_n hx hb dX6_readItem_32 rfl (lv_at hl 1 rfl) ?_
      refine va_get (D := D) (ci := 6) (v := .int ch) (C := RX6) (T := TX6) (N := 4) hx hb hts iX6_readItem_X6 hown hK hP 0 rfl rfl 2 (by decide) (hts (.fieldLink RX6 36 "TapeCalculator$Units" "chosen" "I") (List.mem_of_getElem? (i := 1) rfl)) (fun _ h9 => h9) rfl dX6_readItem_33 ?_
      refine lv_iload_n hx hb dX6_readItem_36 rfl (lv_at hl 0 rfl) ?_
      refine lv_if_eq (tgt := 44) hx hb dX6_readItem_37 (by decide) (fun c_37_18 => ?_) (fun c_37_18 => ?_)
      · exact absurd c_37_18 (by decide)
      · have t_37_18 := c_37_18
        try simp only [kb_eq0, kb_ne0, lg_cmp_lt, lg_cmp_le, lg_cmp_gt, lg_cmp_ge, lg_cmp_eq] at t_37_18
        try simp only [Int32.lt_iff_toInt_lt, Int32.le_iff_toInt_le, ← Int32.toInt_inj, Int64.lt_iff_toInt_lt, Int64.le_iff_toInt_le, ← Int64.toInt_inj, Int32.toInt_toInt64, Int32.reduceToInt, Int64.reduceToInt] at t_37_18
        refine lv_iconst (v := 5) hx hb dX6_readItem_40 (by decide) ?_
        refine lv_goto (tgt := 45) hx hb dX6_readItem_41 (by decide) ?_
        refine lv_isub hx hb dX6_readItem_45 ?_
        refine kCallR (wr := [(t0, .inr (4, [.ref i0, .int n0, .int p0])), (i0, .inl (cL, 300, .inr (.inl f0))), (t1, .inr (4, [.ref i1, .int n1, .int p1])), (i1, .inl (cL, 300, .inr (.inl f1))), (t2, .inr (4, [.ref i2, .int n2, .int p2])), (i2, .inl (cL, 300, .inr (.inl f2))), (t3, .inr (4, [.ref i3, .int n3, .int p3])), (i3, .inl (cL, 300, .inr (.inl f3))), (aD, .inr (1, [.ref bD, .int dp])), (bD, .inl (cL, 256, .inr (.inl fd)))]) (va_runV (As := [.int (ch - 5)]) (rest := []) ⟨hx, hb, hml, hown, hts⟩ (g_tapeAt l D cI cL cB cZ cT _ aU bT aD ch ww t0 t1 t2 t3 (ch - 5)) (cwV 1 hts gX6_readItem_X6_tapeAt rfl rfl rfl (by decide +kernel) ⟨Nat.le_of_ble_eq_true rfl, Nat.le_of_ble_eq_true rfl⟩) (kPreV hG hP hD [0, 1] rfl (by decide) 0 6 rfl rfl rfl) rfl rfl hl.1 rfl (lv_room (Nat.le_of_ble_eq_true rfl)) dX6_readItem_46 ⟨Nat.le_of_ble_eq_true rfl, Nat.le_of_ble_eq_true rfl⟩) hA hP hD hS [0, 1] [2, 3, 4, 5, 6, 7, 8, 9, 10, 11] rfl rfl (by decide) (by decide) (fun r_20 u_r_20 H locs wr_20 hP hD hS => ?_)
        have hP : va_P D vwCl [(t0, .inr (4, [.ref i0, .int n0, .int p0])), (i0, .inl (cL, 300, .inr (.inl f0))), (t1, .inr (4, [.ref i1, .int n1, .int p1])), (i1, .inl (cL, 300, .inr (.inl f1))), (t2, .inr (4, [.ref i2, .int n2, .int p2])), (i2, .inl (cL, 300, .inr (.inl f2))), (t3, .inr (4, [.ref i3, .int n3, .int p3])), (i3, .inl (cL, 300, .inr (.inl f3))), (aD, .inr (1, [.ref bD, .int dp])), (bD, .inl (cL, 256, .inr (.inl fd))), (aU, .inr (6, [.ref bT, .ref aD, .int ch, .int ww])), (bT, .inl (cT, 4, .inr (.inr (.inr (.inr (k4 t0 t1 t2 t3))))))] H := hP
        have hD : va_D A [(t0, .inr (4, [.ref i0, .int n0, .int p0])), (i0, .inl (cL, 300, .inr (.inl f0))), (t1, .inr (4, [.ref i1, .int n1, .int p1])), (i1, .inl (cL, 300, .inr (.inl f1))), (t2, .inr (4, [.ref i2, .int n2, .int p2])), (i2, .inl (cL, 300, .inr (.inl f2))), (t3, .inr (4, [.ref i3, .int n3, .int p3])), (i3, .inl (cL, 300, .inr (.inl f3))), (aD, .inr (1, [.ref bD, .int dp])), (bD, .inl (cL, 256, .inr (.inl fd))), (aU, .inr (6, [.ref bT, .ref aD, .int ch, .int ww])), (bT, .inl (cT, 4, .inr (.inr (.inr (.inr (k4 t0 t1 t2 t3))))))] := hD
        try dsimp only at wr_20
        rcases wr_20 with rfl | rfl | rfl | rfl | rfl
        · show W _ _ _ _ _ _ _ _ _ _ _ _ _ _ _ (F0 _ _ _ (Value.null :: _))
          refine lv_astore_nN (lv' := [(2, .null), (1, .int 1), (0, .ref aU)]) hx hb dX6_readItem_49 rfl hl (by decide) rfl (fun ls hl => ?_)
          refine lv_ldc2 (v := (-9)) hx hb hown (hts (.constantLong RX6 81 (-9)) (List.mem_of_getElem? (i := 3) rfl)) dX6_readItem_50 ?_
          refine lv_lstore_n (lv' := [(3, .long (-9)), (2, .null), (1, .int 1), (0, .ref aU)]) hx hb dX6_readItem_53 rfl hl (by decide) rfl (fun ls hl => ?_)
          refine lv_aload_nN hx hb dX6_readItem_54 rfl (lv_at hl 1 rfl) ?_
          refine lv_ifnullN (tgt := 74) hx hb dX6_readItem_55 (by decide) ?_
          refine lv_lload_n hx hb dX6_readItem_74 rfl (lv_at hl 0 rfl) ?_
          refine lv_lconst (v := 0) hx hb dX6_readItem_75 (by decide) ?_
          refine W.lcmp hx hb dX6_readItem_76 ?_
          refine lv_topi (fun x_21 ex_21 => ?_)
          obtain rfl : x_21 = (-1) := ex_21.trans (by decide)
          refine lv_if_ge (tgt := 85) hx hb dX6_readItem_77 (by decide) (fun c_77_21 => ?_) (fun c_77_21 => ?_)
          · exact absurd c_77_21 (by decide)
          · have t_77_21 := c_77_21
            try simp only [kb_eq0, kb_ne0, lg_cmp_lt, lg_cmp_le, lg_cmp_gt, lg_cmp_ge, lg_cmp_eq] at t_77_21
            try simp only [Int32.lt_iff_toInt_lt, Int32.le_iff_toInt_le, ← Int32.toInt_inj, Int64.lt_iff_toInt_lt, Int64.le_iff_toInt_le, ← Int64.toInt_inj, Int32.toInt_toInt64, Int32.reduceToInt, Int64.reduceToInt] at t_77_21
            refine lv_aload_n hx hb dX6_readItem_80 rfl (lv_at hl 3 rfl) ?_
            refine lv_iconst (v := 0) hx hb dX6_readItem_81 (by decide) ?_
            refine va_put (D := D) (ci := 6) (v := .int 0) (ty := .int) (C := RX6) (T := TX6) (N := 4) hx hb hts iX6_readItem_X6 tyX6 tyX6_ok nmX6 hown hK hP hD hS 10 rfl rfl 2 (by decide) (hts (.fieldLink RX6 36 "TapeCalculator$Units" "chosen" "I") (List.mem_of_getElem? (i := 1) rfl)) (fun _ h9 => h9) rfl (by decide +kernel) rfl rfl (Nat.le_of_ble_eq_true rfl) dX6_readItem_82 (fun H locs hP hD hS => ?_)
            have hP : va_P D vwCl [(t0, .inr (4, [.ref i0, .int n0, .int p0])), (i0, .inl (cL, 300, .inr (.inl f0))), (t1, .inr (4, [.ref i1, .int n1, .int p1])), (i1, .inl (cL, 300, .inr (.inl f1))), (t2, .inr (4, [.ref i2, .int n2, .int p2])), (i2, .inl (cL, 300, .inr (.inl f2))), (t3, .inr (4, [.ref i3, .int n3, .int p3])), (i3, .inl (cL, 300, .inr (.inl f3))), (aD, .inr (1, [.ref bD, .int dp])), (bD, .inl (cL, 256, .inr (.inl fd))), (aU, .inr (6, [.ref bT, .ref aD, .int 0, .int ww])), (bT, .inl (cT, 4, .inr (.inr (.inr (.inr (k4 t0 t1 t2 t3))))))] H := hP
            have hD : va_D A [(t0, .inr (4, [.ref i0, .int n0, .int p0])), (i0, .inl (cL, 300, .inr (.inl f0))), (t1, .inr (4, [.ref i1, .int n1, .int p1])), (i1, .inl (cL, 300, .inr (.inl f1))), (t2, .inr (4, [.ref i2, .int n2, .int p2])), (i2, .inl (cL, 300, .inr (.inl f2))), (t3, .inr (4, [.ref i3, .int n3, .int p3])), (i3, .inl (cL, 300, .inr (.inl f3))), (aD, .inr (1, [.ref bD, .int dp])), (bD, .inl (cL, 256, .inr (.inl fd))), (aU, .inr (6, [.ref bT, .ref aD, .int 0, .int ww])), (bT, .inl (cT, 4, .inr (.inr (.inr (.inr (k4 t0 t1 t2 t3))))))] := hD
            refine lv_lload_n hx hb dX6_readItem_85 rfl (lv_at hl 0 rfl) ?_
            refine kLret (u := (0, ww, n0, n1, n2, n3, p0, p1, p2, p3, f0, f1, f2, f3, dp, fd)) hx hb hr hlocks hS dX6_readItem_86 ?_ (hP.sub [10, 11, 0, 1, 2, 3, 4, 5, 6, 7, 8, 9] rfl) (hD.sub [10, 11, 0, 1, 2, 3, 4, 5, 6, 7, 8, 9] (by decide) rfl)
            exact trivial
        · show W _ _ _ _ _ _ _ _ _ _ _ _ _ _ _ (F0 _ _ _ (Value.ref t0 :: _))
          refine lv_astore_n (lv' := [(2, .ref t0), (1, .int 1), (0, .ref aU)]) hx hb dX6_readItem_49 rfl hl (by decide) rfl (fun ls hl => ?_)
          refine lv_ldc2 (v := (-9)) hx hb hown (hts (.constantLong RX6 81 (-9)) (List.mem_of_getElem? (i := 3) rfl)) dX6_readItem_50 ?_
          refine lv_lstore_n (lv' := [(3, .long (-9)), (2, .ref t0), (1, .int 1), (0, .ref aU)]) hx hb dX6_readItem_53 rfl hl (by decide) rfl (fun ls hl => ?_)
          refine lv_aload_n hx hb dX6_readItem_54 rfl (lv_at hl 1 rfl) ?_
          refine lv_ifnull hx hb dX6_readItem_55 ?_
          refine lv_iload_n hx hb dX6_readItem_58 rfl (lv_at hl 2 rfl) ?_
          refine lv_if_eq (tgt := 69) hx hb dX6_readItem_59 (by decide) (fun c_59_22 => ?_) (fun c_59_22 => ?_)
          · exact absurd c_59_22 (by decide)
          · have t_59_22 := c_59_22
            try simp only [kb_eq0, kb_ne0, lg_cmp_lt, lg_cmp_le, lg_cmp_gt, lg_cmp_ge, lg_cmp_eq] at t_59_22
            try simp only [Int32.lt_iff_toInt_lt, Int32.le_iff_toInt_le, ← Int32.toInt_inj, Int64.lt_iff_toInt_lt, Int64.le_iff_toInt_le, ← Int64.toInt_inj, Int32.toInt_toInt64, Int32.reduceToInt, Int64.reduceToInt] at t_59_22
            refine lv_aload_n hx hb dX6_readItem_62 rfl (lv_at hl 1 rfl) ?_
            refine kCallL (wr := [(t1, .inr (4, [.ref i1, .int n1, .int p1])), (i1, .inl (cL, 300, .inr (.inl f1))), (t2, .inr (4, [.ref i2, .int n2, .int p2])), (i2, .inl (cL, 300, .inr (.inl f2))), (t3, .inr (4, [.ref i3, .int n3, .int p3])), (i3, .inl (cL, 300, .inr (.inl f3))), (aD, .inr (1, [.ref bD, .int dp])), (bD, .inl (cL, 256, .inr (.inl fd))), (aU, .inr (6, [.ref bT, .ref aD, .int ch, .int ww])), (bT, .inl (cT, 4, .inr (.inr (.inr (.inr (k4 t0 t1 t2 t3))))))]) (va_runV (As := []) (rest := []) ⟨hx, hb, hml, hown, hts⟩ (g_passBackward l D cI cL cB cZ cT _ t0 i0 n0 p0 f0) (cwV 0 hts gX6_readItem_X4_passBackward rfl rfl rfl (by decide +kernel) ⟨Nat.le_of_ble_eq_true rfl, Nat.le_of_ble_eq_true rfl⟩) (kPreV hG hP hD [0, 1] rfl (by decide) 0 4 rfl rfl rfl) rfl rfl hl.1 rfl (lv_room (Nat.le_of_ble_eq_true rfl)) dX6_readItem_63 ⟨Nat.le_of_ble_eq_true rfl, Nat.le_of_ble_eq_true rfl⟩) hA hP hD hS [0, 1] [2, 3, 4, 5, 6, 7, 8, 9, 10, 11] rfl rfl (by decide) (by decide) (fun r_24 u_r_24 H locs wr_24 hP hD hS => ?_)
            have hP : va_P D vwCl [(t1, .inr (4, [.ref i1, .int n1, .int p1])), (i1, .inl (cL, 300, .inr (.inl f1))), (t2, .inr (4, [.ref i2, .int n2, .int p2])), (i2, .inl (cL, 300, .inr (.inl f2))), (t3, .inr (4, [.ref i3, .int n3, .int p3])), (i3, .inl (cL, 300, .inr (.inl f3))), (aD, .inr (1, [.ref bD, .int dp])), (bD, .inl (cL, 256, .inr (.inl fd))), (aU, .inr (6, [.ref bT, .ref aD, .int ch, .int ww])), (bT, .inl (cT, 4, .inr (.inr (.inr (.inr (k4 t0 t1 t2 t3)))))), (t0, .inr (4, [.ref i0, .int n0, .int u_r_24])), (i0, .inl (cL, 300, .inr (.inl f0)))] H := hP
            have hD : va_D A [(t1, .inr (4, [.ref i1, .int n1, .int p1])), (i1, .inl (cL, 300, .inr (.inl f1))), (t2, .inr (4, [.ref i2, .int n2, .int p2])), (i2, .inl (cL, 300, .inr (.inl f2))), (t3, .inr (4, [.ref i3, .int n3, .int p3])), (i3, .inl (cL, 300, .inr (.inl f3))), (aD, .inr (1, [.ref bD, .int dp])), (bD, .inl (cL, 256, .inr (.inl fd))), (aU, .inr (6, [.ref bT, .ref aD, .int ch, .int ww])), (bT, .inl (cT, 4, .inr (.inr (.inr (.inr (k4 t0 t1 t2 t3)))))), (t0, .inr (4, [.ref i0, .int n0, .int u_r_24])), (i0, .inl (cL, 300, .inr (.inl f0)))] := hD
            try dsimp only at wr_24
            refine lv_goto (tgt := 73) hx hb dX6_readItem_66 (by decide) ?_
            refine lv_lstore_n (lv' := [(3, .long r_24), (2, .ref t0), (1, .int 1), (0, .ref aU)]) hx hb dX6_readItem_73 rfl hl (by decide) rfl (fun ls hl => ?_)
            refine lv_lload_n hx hb dX6_readItem_74 rfl (lv_at hl 0 rfl) ?_
            refine lv_lconst (v := 0) hx hb dX6_readItem_75 (by decide) ?_
            refine W.lcmp hx hb dX6_readItem_76 ?_
            refine lv_if_ge (tgt := 85) hx hb dX6_readItem_77 (by decide) (fun c_77_24 => ?_) (fun c_77_24 => ?_)
            · have t_77_24 := c_77_24
              try simp only [kb_eq0, kb_ne0, lg_cmp_lt, lg_cmp_le, lg_cmp_gt, lg_cmp_ge, lg_cmp_eq] at t_77_24
              try simp only [Int32.lt_iff_toInt_lt, Int32.le_iff_toInt_le, ← Int32.toInt_inj, Int64.lt_iff_toInt_lt, Int64.le_iff_toInt_le, ← Int64.toInt_inj, Int32.toInt_toInt64, Int32.reduceToInt, Int64.reduceToInt] at t_77_24
              refine lv_lload_n hx hb dX6_readItem_85 rfl (lv_at hl 0 rfl) ?_
              refine kLret (u := (ch, ww, n0, n1, n2, n3, u_r_24, p1, p2, p3, f0, f1, f2, f3, dp, fd)) hx hb hr hlocks hS dX6_readItem_86 ?_ (hP.sub [8, 9, 10, 11, 0, 1, 2, 3, 4, 5, 6, 7] rfl) (hD.sub [8, 9, 10, 11, 0, 1, 2, 3, 4, 5, 6, 7] (by decide) rfl)
              exact trivial
            · have t_77_24 := c_77_24
              try simp only [kb_eq0, kb_ne0, lg_cmp_lt, lg_cmp_le, lg_cmp_gt, lg_cmp_ge, lg_cmp_eq] at t_77_24
              try simp only [Int32.lt_iff_toInt_lt, Int32.le_iff_toInt_le, ← Int32.toInt_inj, Int64.lt_iff_toInt_lt, Int64.le_iff_toInt_le, ← Int64.toInt_inj, Int32.toInt_toInt64, Int32.reduceToInt, Int64.reduceToInt] at t_77_24
              refine lv_aload_n hx hb dX6_readItem_80 rfl (lv_at hl 3 rfl) ?_
              refine lv_iconst (v := 0) hx hb dX6_readItem_81 (by decide) ?_
              refine va_put (D := D) (ci := 6) (v := .int 0) (ty := .int) (C := RX6) (T := TX6) (N := 4) hx hb hts iX6_readItem_X6 tyX6 tyX6_ok nmX6 hown hK hP hD hS 8 rfl rfl 2 (by decide) (hts (.fieldLink RX6 36 "TapeCalculator$Units" "chosen" "I") (List.mem_of_getElem? (i := 1) rfl)) (fun _ h9 => h9) rfl (by decide +kernel) rfl rfl (Nat.le_of_ble_eq_true rfl) dX6_readItem_82 (fun H locs hP hD hS => ?_)
              have hP : va_P D vwCl [(t1, .inr (4, [.ref i1, .int n1, .int p1])), (i1, .inl (cL, 300, .inr (.inl f1))), (t2, .inr (4, [.ref i2, .int n2, .int p2])), (i2, .inl (cL, 300, .inr (.inl f2))), (t3, .inr (4, [.ref i3, .int n3, .int p3])), (i3, .inl (cL, 300, .inr (.inl f3))), (aD, .inr (1, [.ref bD, .int dp])), (bD, .inl (cL, 256, .inr (.inl fd))), (aU, .inr (6, [.ref bT, .ref aD, .int 0, .int ww])), (bT, .inl (cT, 4, .inr (.inr (.inr (.inr (k4 t0 t1 t2 t3)))))), (t0, .inr (4, [.ref i0, .int n0, .int u_r_24])), (i0, .inl (cL, 300, .inr (.inl f0)))] H := hP
              have hD : va_D A [(t1, .inr (4, [.ref i1, .int n1, .int p1])), (i1, .inl (cL, 300, .inr (.inl f1))), (t2, .inr (4, [.ref i2, .int n2, .int p2])), (i2, .inl (cL, 300, .inr (.inl f2))), (t3, .inr (4, [.ref i3, .int n3, .int p3])), (i3, .inl (cL, 300, .inr (.inl f3))), (aD, .inr (1, [.ref bD, .int dp])), (bD, .inl (cL, 256, .inr (.inl fd))), (aU, .inr (6, [.ref bT, .ref aD, .int 0, .int ww])), (bT, .inl (cT, 4, .inr (.inr (.inr (.inr (k4 t0 t1 t2 t3)))))), (t0, .inr (4, [.ref i0, .int n0, .int u_r_24])), (i0, .inl (cL, 300, .inr (.inl f0)))] := hD
              refine lv_lload_n hx hb dX6_readItem_85 rfl (lv_at hl 0 rfl) ?_
              refine kLret (u := (0, ww, n0, n1, n2, n3, u_r_24, p1, p2, p3, f0, f1, f2, f3, dp, fd)) hx hb hr hlocks hS dX6_readItem_86 ?_ (hP.sub [8, 9, 10, 11, 0, 1, 2, 3, 4, 5, 6, 7] rfl) (hD.sub [8, 9, 10, 11, 0, 1, 2, 3, 4, 5, 6, 7] (by decide) rfl)
              exact trivial
        · show W _ _ _ _ _ _ _ _ _ _ _ _ _ _ _ (F0 _ _ _ (Value.ref t1 :: _))
          refine lv_astore_n (lv' := [(2, .ref t1), (1, .int 1), (0, .ref aU)]) hx hb dX6_readItem_49 rfl hl (by decide) rfl (fun ls hl => ?_)
          refine lv_ldc2 (v := (-9)) hx hb hown (hts (.constantLong RX6 81 (-9)) (List.mem_of_getElem? (i := 3) rfl)) dX6_readItem_50 ?_
          refine lv_lstore_n (lv' := [(3, .long (-9)), (2, .ref t1), (1, .int 1), (0, .ref aU)]) hx hb dX6_readItem_53 rfl hl (by decide) rfl (fun ls hl => ?_)
          refine lv_aload_n hx hb dX6_readItem_54 rfl (lv_at hl 1 rfl) ?_
          refine lv_ifnull hx hb dX6_readItem_55 ?_
          refine lv_iload_n hx hb dX6_readItem_58 rfl (lv_at hl 2 rfl) ?_
          refine lv_if_eq (tgt := 69) hx hb dX6_readItem_59 (by decide) (fun c_59_25 => ?_) (fun c_59_25 => ?_)
          · exact absurd c_59_25 (by decide)
          · have t_59_25 := c_59_25
            try simp only [kb_eq0, kb_ne0, lg_cmp_lt, lg_cmp_le, lg_cmp_gt, lg_cmp_ge, lg_cmp_eq] at t_59_25
            try simp only [Int32.lt_iff_toInt_lt, Int32.le_iff_toInt_le, ← Int32.toInt_inj, Int64.lt_iff_toInt_lt, Int64.le_iff_toInt_le, ← Int64.toInt_inj, Int32.toInt_toInt64, Int32.reduceToInt, Int64.reduceToInt] at t_59_25
            refine lv_aload_n hx hb dX6_readItem_62 rfl (lv_at hl 1 rfl) ?_
            refine kCallL (wr := [(t0, .inr (4, [.ref i0, .int n0, .int p0])), (i0, .inl (cL, 300, .inr (.inl f0))), (t2, .inr (4, [.ref i2, .int n2, .int p2])), (i2, .inl (cL, 300, .inr (.inl f2))), (t3, .inr (4, [.ref i3, .int n3, .int p3])), (i3, .inl (cL, 300, .inr (.inl f3))), (aD, .inr (1, [.ref bD, .int dp])), (bD, .inl (cL, 256, .inr (.inl fd))), (aU, .inr (6, [.ref bT, .ref aD, .int ch, .int ww])), (bT, .inl (cT, 4, .inr (.inr (.inr (.inr (k4 t0 t1 t2 t3))))))]) (va_runV (As := []) (rest := []) ⟨hx, hb, hml, hown, hts⟩ (g_passBackward l D cI cL cB cZ cT _ t1 i1 n1 p1 f1) (cwV 0 hts gX6_readItem_X4_passBackward rfl rfl rfl (by decide +kernel) ⟨Nat.le_of_ble_eq_true rfl, Nat.le_of_ble_eq_true rfl⟩) (kPreV hG hP hD [2, 3] rfl (by decide) 0 4 rfl rfl rfl) rfl rfl hl.1 rfl (lv_room (Nat.le_of_ble_eq_true rfl)) dX6_readItem_63 ⟨Nat.le_of_ble_eq_true rfl, Nat.le_of_ble_eq_true rfl⟩) hA hP hD hS [2, 3] [0, 1, 4, 5, 6, 7, 8, 9, 10, 11] rfl rfl (by decide) (by decide) (fun r_27 u_r_27 H locs wr_27 hP hD hS => ?_)
            have hP : va_P D vwCl [(t0, .inr (4, [.ref i0, .int n0, .int p0])), (i0, .inl (cL, 300, .inr (.inl f0))), (t2, .inr (4, [.ref i2, .int n2, .int p2])), (i2, .inl (cL, 300, .inr (.inl f2))), (t3, .inr (4, [.ref i3, .int n3, .int p3])), (i3, .inl (cL, 300, .inr (.inl f3))), (aD, .inr (1, [.ref bD, .int dp])), (bD, .inl (cL, 256, .inr (.inl fd))), (aU, .inr (6, [.ref bT, .ref aD, .int ch, .int ww])), (bT, .inl (cT, 4, .inr (.inr (.inr (.inr (k4 t0 t1 t2 t3)))))), (t1, .inr (4, [.ref i1, .int n1, .int u_r_27])), (i1, .inl (cL, 300, .inr (.inl f1)))] H := hP
            have hD : va_D A [(t0, .inr (4, [.ref i0, .int n0, .int p0])), (i0, .inl (cL, 300, .inr (.inl f0))), (t2, .inr (4, [.ref i2, .int n2, .int p2])), (i2, .inl (cL, 300, .inr (.inl f2))), (t3, .inr (4, [.ref i3, .int n3, .int p3])), (i3, .inl (cL, 300, .inr (.inl f3))), (aD, .inr (1, [.ref bD, .int dp])), (bD, .inl (cL, 256, .inr (.inl fd))), (aU, .inr (6, [.ref bT, .ref aD, .int ch, .int ww])), (bT, .inl (cT, 4, .inr (.inr (.inr (.inr (k4 t0 t1 t2 t3)))))), (t1, .inr (4, [.ref i1, .int n1, .int u_r_27])), (i1, .inl (cL, 300, .inr (.inl f1)))] := hD
            try dsimp only at wr_27
            refine lv_goto (tgt := 73) hx hb dX6_readItem_66 (by decide) ?_
            refine lv_lstore_n (lv' := [(3, .long r_27), (2, .ref t1), (1, .int 1), (0, .ref aU)]) hx hb dX6_readItem_73 rfl hl (by decide) rfl (fun ls hl => ?_)
            refine lv_lload_n hx hb dX6_readItem_74 rfl (lv_at hl 0 rfl) ?_
            refine lv_lconst (v := 0) hx hb dX6_readItem_75 (by decide) ?_
            refine W.lcmp hx hb dX6_readItem_76 ?_
            refine lv_if_ge (tgt := 85) hx hb dX6_readItem_77 (by decide) (fun c_77_27 => ?_) (fun c_77_27 => ?_)
            · have t_77_27 := c_77_27
              try simp only [kb_eq0, kb_ne0, lg_cmp_lt, lg_cmp_le, lg_cmp_gt, lg_cmp_ge, lg_cmp_eq] at t_77_27
              try simp only [Int32.lt_iff_toInt_lt, Int32.le_iff_toInt_le, ← Int32.toInt_inj, Int64.lt_iff_toInt_lt, Int64.le_iff_toInt_le, ← Int64.toInt_inj, Int32.toInt_toInt64, Int32.reduceToInt, Int64.reduceToInt] at t_77_27
              refine lv_lload_n hx hb dX6_readItem_85 rfl (lv_at hl 0 rfl) ?_
              refine kLret (u := (ch, ww, n0, n1, n2, n3, p0, u_r_27, p2, p3, f0, f1, f2, f3, dp, fd)) hx hb hr hlocks hS dX6_readItem_86 ?_ (hP.sub [8, 9, 0, 1, 10, 11, 2, 3, 4, 5, 6, 7] rfl) (hD.sub [8, 9, 0, 1, 10, 11, 2, 3, 4, 5, 6, 7] (by decide) rfl)
              exact trivial
            · have t_77_27 := c_77_27
              try simp only [kb_eq0, kb_ne0, lg_cmp_lt, lg_cmp_le, lg_cmp_gt, lg_cmp_ge, lg_cmp_eq] at t_77_27
              try simp only [Int32.lt_iff_toInt_lt, Int32.le_iff_toInt_le, ← Int32.toInt_inj, Int64.lt_iff_toInt_lt, Int64.le_iff_toInt_le, ← Int64.toInt_inj, Int32.toInt_toInt64, Int32.reduceToInt, Int64.reduceToInt] at t_77_27
              refine lv_aload_n hx hb dX6_readItem_80 rfl (lv_at hl 3 rfl) ?_
              refine lv_iconst (v := 0) hx hb dX6_readItem_81 (by decide) ?_
              refine va_put (D := D) (ci := 6) (v := .int 0) (ty := .int) (C := RX6) (T := TX6) (N := 4) hx hb hts iX6_readItem_X6 tyX6 tyX6_ok nmX6 hown hK hP hD hS 8 rfl rfl 2 (by decide) (hts (.fieldLink RX6 36 "TapeCalculator$Units" "chosen" "I") (List.mem_of_getElem? (i := 1) rfl)) (fun _ h9 => h9) rfl (by decide +kernel) rfl rfl (Nat.le_of_ble_eq_true rfl) dX6_readItem_82 (fun H locs hP hD hS => ?_)
              have hP : va_P D vwCl [(t0, .inr (4, [.ref i0, .int n0, .int p0])), (i0, .inl (cL, 300, .inr (.inl f0))), (t2, .inr (4, [.ref i2, .int n2, .int p2])), (i2, .inl (cL, 300, .inr (.inl f2))), (t3, .inr (4, [.ref i3, .int n3, .int p3])), (i3, .inl (cL, 300, .inr (.inl f3))), (aD, .inr (1, [.ref bD, .int dp])), (bD, .inl (cL, 256, .inr (.inl fd))), (aU, .inr (6, [.ref bT, .ref aD, .int 0, .int ww])), (bT, .inl (cT, 4, .inr (.inr (.inr (.inr (k4 t0 t1 t2 t3)))))), (t1, .inr (4, [.ref i1, .int n1, .int u_r_27])), (i1, .inl (cL, 300, .inr (.inl f1)))] H := hP
              have hD : va_D A [(t0, .inr (4, [.ref i0, .int n0, .int p0])), (i0, .inl (cL, 300, .inr (.inl f0))), (t2, .inr (4, [.ref i2, .int n2, .int p2])), (i2, .inl (cL, 300, .inr (.inl f2))), (t3, .inr (4, [.ref i3, .int n3, .int p3])), (i3, .inl (cL, 300, .inr (.inl f3))), (aD, .inr (1, [.ref bD, .int dp])), (bD, .inl (cL, 256, .inr (.inl fd))), (aU, .inr (6, [.ref bT, .ref aD, .int 0, .int ww])), (bT, .inl (cT, 4, .inr (.inr (.inr (.inr (k4 t0 t1 t2 t3)))))), (t1, .inr (4, [.ref i1, .int n1, .int u_r_27])), (i1, .inl (cL, 300, .inr (.inl f1)))] := hD
              refine lv_lload_n hx hb dX6_readItem_85 rfl (lv_at hl 0 rfl) ?_
              refine kLret (u := (0, ww, n0, n1, n2, n3, p0, u_r_27, p2, p3, f0, f1, f2, f3, dp, fd)) hx hb hr hlocks hS dX6_readItem_86 ?_ (hP.sub [8, 9, 0, 1, 10, 11, 2, 3, 4, 5, 6, 7] rfl) (hD.sub [8, 9, 0, 1, 10, 11, 2, 3, 4, 5, 6, 7] (by decide) rfl)
              exact trivial
        · show W _ _ _ _ _ _ _ _ _ _ _ _ _ _ _ (F0 _ _ _ (Value.ref t2 :: _))
          refine lv_astore_n (lv' := [(2, .ref t2), (1, .int 1), (0, .ref aU)]) hx hb dX6_readItem_49 rfl hl (by decide) rfl (fun ls hl => ?_)
          refine lv_ldc2 (v := (-9)) hx hb hown (hts (.constantLong RX6 81 (-9)) (List.mem_of_getElem? (i := 3) rfl)) dX6_readItem_50 ?_
          refine lv_lstore_n (lv' := [(3, .long (-9)), (2, .ref t2), (1, .int 1), (0, .ref aU)]) hx hb dX6_readItem_53 rfl hl (by decide) rfl (fun ls hl => ?_)
          refine lv_aload_n hx hb dX6_readItem_54 rfl (lv_at hl 1 rfl) ?_
          refine lv_ifnull hx hb dX6_readItem_55 ?_
          refine lv_iload_n hx hb dX6_readItem_58 rfl (lv_at hl 2 rfl) ?_
          refine lv_if_eq (tgt := 69) hx hb dX6_readItem_59 (by decide) (fun c_59_28 => ?_) (fun c_59_28 => ?_)
          · exact absurd c_59_28 (by decide)
          · have t_59_28 := c_59_28
            try simp only [kb_eq0, kb_ne0, lg_cmp_lt, lg_cmp_le, lg_cmp_gt, lg_cmp_ge, lg_cmp_eq] at t_59_28
            try simp only [Int32.lt_iff_toInt_lt, Int32.le_iff_toInt_le, ← Int32.toInt_inj, Int64.lt_iff_toInt_lt, Int64.le_iff_toInt_le, ← Int64.toInt_inj, Int32.toInt_toInt64, Int32.reduceToInt, Int64.reduceToInt] at t_59_28
            refine lv_aload_n hx hb dX6_readItem_62 rfl (lv_at hl 1 rfl) ?_
            refine kCallL (wr := [(t0, .inr (4, [.ref i0, .int n0, .int p0])), (i0, .inl (cL, 300, .inr (.inl f0))), (t1, .inr (4, [.ref i1, .int n1, .int p1])), (i1, .inl (cL, 300, .inr (.inl f1))), (t3, .inr (4, [.ref i3, .int n3, .int p3])), (i3, .inl (cL, 300, .inr (.inl f3))), (aD, .inr (1, [.ref bD, .int dp])), (bD, .inl (cL, 256, .inr (.inl fd))), (aU, .inr (6, [.ref bT, .ref aD, .int ch, .int ww])), (bT, .inl (cT, 4, .inr (.inr (.inr (.inr (k4 t0 t1 t2 t3))))))]) (va_runV (As := []) (rest := []) ⟨hx, hb, hml, hown, hts⟩ (g_passBackward l D cI cL cB cZ cT _ t2 i2 n2 p2 f2) (cwV 0 hts gX6_readItem_X4_passBackward rfl rfl rfl (by decide +kernel) ⟨Nat.le_of_ble_eq_true rfl, Nat.le_of_ble_eq_true rfl⟩) (kPreV hG hP hD [4, 5] rfl (by decide) 0 4 rfl rfl rfl) rfl rfl hl.1 rfl (lv_room (Nat.le_of_ble_eq_true rfl)) dX6_readItem_63 ⟨Nat.le_of_ble_eq_true rfl, Nat.le_of_ble_eq_true rfl⟩) hA hP hD hS [4, 5] [0, 1, 2, 3, 6, 7, 8, 9, 10, 11] rfl rfl (by decide) (by decide) (fun r_30 u_r_30 H locs wr_30 hP hD hS => ?_)
            have hP : va_P D vwCl [(t0, .inr (4, [.ref i0, .int n0, .int p0])), (i0, .inl (cL, 300, .inr (.inl f0))), (t1, .inr (4, [.ref i1, .int n1, .int p1])), (i1, .inl (cL, 300, .inr (.inl f1))), (t3, .inr (4, [.ref i3, .int n3, .int p3])), (i3, .inl (cL, 300, .inr (.inl f3))), (aD, .inr (1, [.ref bD, .int dp])), (bD, .inl (cL, 256, .inr (.inl fd))), (aU, .inr (6, [.ref bT, .ref aD, .int ch, .int ww])), (bT, .inl (cT, 4, .inr (.inr (.inr (.inr (k4 t0 t1 t2 t3)))))), (t2, .inr (4, [.ref i2, .int n2, .int u_r_30])), (i2, .inl (cL, 300, .inr (.inl f2)))] H := hP
            have hD : va_D A [(t0, .inr (4, [.ref i0, .int n0, .int p0])), (i0, .inl (cL, 300, .inr (.inl f0))), (t1, .inr (4, [.ref i1, .int n1, .int p1])), (i1, .inl (cL, 300, .inr (.inl f1))), (t3, .inr (4, [.ref i3, .int n3, .int p3])), (i3, .inl (cL, 300, .inr (.inl f3))), (aD, .inr (1, [.ref bD, .int dp])), (bD, .inl (cL, 256, .inr (.inl fd))), (aU, .inr (6, [.ref bT, .ref aD, .int ch, .int ww])), (bT, .inl (cT, 4, .inr (.inr (.inr (.inr (k4 t0 t1 t2 t3)))))), (t2, .inr (4, [.ref i2, .int n2, .int u_r_30])), (i2, .inl (cL, 300, .inr (.inl f2)))] := hD
            try dsimp only at wr_30
            refine lv_goto (tgt := 73) hx hb dX6_readItem_66 (by decide) ?_
            refine lv_lstore_n (lv' := [(3, .long r_30), (2, .ref t2), (1, .int 1), (0, .ref aU)]) hx hb dX6_readItem_73 rfl hl (by decide) rfl (fun ls hl => ?_)
            refine lv_lload_n hx hb dX6_readItem_74 rfl (lv_at hl 0 rfl) ?_
            refine lv_lconst (v := 0) hx hb dX6_readItem_75 (by decide) ?_
            refine W.lcmp hx hb dX6_readItem_76 ?_
            refine lv_if_ge (tgt := 85) hx hb dX6_readItem_77 (by decide) (fun c_77_30 => ?_) (fun c_77_30 => ?_)
            · have t_77_30 := c_77_30
              try simp only [kb_eq0, kb_ne0, lg_cmp_lt, lg_cmp_le, lg_cmp_gt, lg_cmp_ge, lg_cmp_eq] at t_77_30
              try simp only [Int32.lt_iff_toInt_lt, Int32.le_iff_toInt_le, ← Int32.toInt_inj, Int64.lt_iff_toInt_lt, Int64.le_iff_toInt_le, ← Int64.toInt_inj, Int32.toInt_toInt64, Int32.reduceToInt, Int64.reduceToInt] at t_77_30
              refine lv_lload_n hx hb dX6_readItem_85 rfl (lv_at hl 0 rfl) ?_
              refine kLret (u := (ch, ww, n0, n1, n2, n3, p0, p1, u_r_30, p3, f0, f1, f2, f3, dp, fd)) hx hb hr hlocks hS dX6_readItem_86 ?_ (hP.sub [8, 9, 0, 1, 2, 3, 10, 11, 4, 5, 6, 7] rfl) (hD.sub [8, 9, 0, 1, 2, 3, 10, 11, 4, 5, 6, 7] (by decide) rfl)
              exact trivial
            · have t_77_30 := c_77_30
              try simp only [kb_eq0, kb_ne0, lg_cmp_lt, lg_cmp_le, lg_cmp_gt, lg_cmp_ge, lg_cmp_eq] at t_77_30
              try simp only [Int32.lt_iff_toInt_lt, Int32.le_iff_toInt_le, ← Int32.toInt_inj, Int64.lt_iff_toInt_lt, Int64.le_iff_toInt_le, ← Int64.toInt_inj, Int32.toInt_toInt64, Int32.reduceToInt, Int64.reduceToInt] at t_77_30
              refine lv_aload_n hx hb dX6_readItem_80 rfl (lv_at hl 3 rfl) ?_
              refine lv_iconst (v := 0) hx hb dX6_readItem_81 (by decide) ?_
              refine va_put (D := D) (ci := 6) (v := .int 0) (ty := .int) (C := RX6) (T := TX6) (N := 4) hx hb hts iX6_readItem_X6 tyX6 tyX6_ok nmX6 hown hK hP hD hS 8 rfl rfl 2 (by decide) (hts (.fieldLink RX6 36 "TapeCalculator$Units" "chosen" "I") (List.mem_of_getElem? (i := 1) rfl)) (fun _ h9 => h9) rfl (by decide +kernel) rfl rfl (Nat.le_of_ble_eq_true rfl) dX6_readItem_82 (fun H locs hP hD hS => ?_)
              have hP : va_P D vwCl [(t0, .inr (4, [.ref i0, .int n0, .int p0])), (i0, .inl (cL, 300, .inr (.inl f0))), (t1, .inr (4, [.ref i1, .int n1, .int p1])), (i1, .inl (cL, 300, .inr (.inl f1))), (t3, .inr (4, [.ref i3, .int n3, .int p3])), (i3, .inl (cL, 300, .inr (.inl f3))), (aD, .inr (1, [.ref bD, .int dp])), (bD, .inl (cL, 256, .inr (.inl fd))), (aU, .inr (6, [.ref bT, .ref aD, .int 0, .int ww])), (bT, .inl (cT, 4, .inr (.inr (.inr (.inr (k4 t0 t1 t2 t3)))))), (t2, .inr (4, [.ref i2, .int n2, .int u_r_30])), (i2, .inl (cL, 300, .inr (.inl f2)))] H := hP
              have hD : va_D A [(t0, .inr (4, [.ref i0, .int n0, .int p0])), (i0, .inl (cL, 300, .inr (.inl f0))), (t1, .inr (4, [.ref i1, .int n1, .int p1])), (i1, .inl (cL, 300, .inr (.inl f1))), (t3, .inr (4, [.ref i3, .int n3, .int p3])), (i3, .inl (cL, 300, .inr (.inl f3))), (aD, .inr (1, [.ref bD, .int dp])), (bD, .inl (cL, 256, .inr (.inl fd))), (aU, .inr (6, [.ref bT, .ref aD, .int 0, .int ww])), (bT, .inl (cT, 4, .inr (.inr (.inr (.inr (k4 t0 t1 t2 t3)))))), (t2, .inr (4, [.ref i2, .int n2, .int u_r_30])), (i2, .inl (cL, 300, .inr (.inl f2)))] := hD
              refine lv_lload_n hx hb dX6_readItem_85 rfl (lv_at hl 0 rfl) ?_
              refine kLret (u := (0, ww, n0, n1, n2, n3, p0, p1, u_r_30, p3, f0, f1, f2, f3, dp, fd)) hx hb hr hlocks hS dX6_readItem_86 ?_ (hP.sub [8, 9, 0, 1, 2, 3, 10, 11, 4, 5, 6, 7] rfl) (hD.sub [8, 9, 0, 1, 2, 3, 10, 11, 4, 5, 6, 7] (by decide) rfl)
              exact trivial
        · show W _ _ _ _ _ _ _ _ _ _ _ _ _ _ _ (F0 _ _ _ (Value.ref t3 :: _))
          refine lv_astore_n (lv' := [(2, .ref t3), (1, .int 1), (0, .ref aU)]) hx hb dX6_readItem_49 rfl hl (by decide) rfl (fun ls hl => ?_)
          refine lv_ldc2 (v := (-9)) hx hb hown (hts (.constantLong RX6 81 (-9)) (List.mem_of_getElem? (i := 3) rfl)) dX6_readItem_50 ?_
          refine lv_lstore_n (lv' := [(3, .long (-9)), (2, .ref t3), (1, .int 1), (0, .ref aU)]) hx hb dX6_readItem_53 rfl hl (by decide) rfl (fun ls hl => ?_)
          refine lv_aload_n hx hb dX6_readItem_54 rfl (lv_at hl 1 rfl) ?_
          refine lv_ifnull hx hb dX6_readItem_55 ?_
          refine lv_iload_n hx hb dX6_readItem_58 rfl (lv_at hl 2 rfl) ?_
          refine lv_if_eq (tgt := 69) hx hb dX6_readItem_59 (by decide) (fun c_59_31 => ?_) (fun c_59_31 => ?_)
          · exact absurd c_59_31 (by decide)
          · have t_59_31 := c_59_31
            try simp only [kb_eq0, kb_ne0, lg_cmp_lt, lg_cmp_le, lg_cmp_gt, lg_cmp_ge, lg_cmp_eq] at t_59_31
            try simp only [Int32.lt_iff_toInt_lt, Int32.le_iff_toInt_le, ← Int32.toInt_inj, Int64.lt_iff_toInt_lt, Int64.le_iff_toInt_le, ← Int64.toInt_inj, Int32.toInt_toInt64, Int32.reduceToInt, Int64.reduceToInt] at t_59_31
            refine lv_aload_n hx hb dX6_readItem_62 rfl (lv_at hl 1 rfl) ?_
            refine kCallL (wr := [(t0, .inr (4, [.ref i0, .int n0, .int p0])), (i0, .inl (cL, 300, .inr (.inl f0))), (t1, .inr (4, [.ref i1, .int n1, .int p1])), (i1, .inl (cL, 300, .inr (.inl f1))), (t2, .inr (4, [.ref i2, .int n2, .int p2])), (i2, .inl (cL, 300, .inr (.inl f2))), (aD, .inr (1, [.ref bD, .int dp])), (bD, .inl (cL, 256, .inr (.inl fd))), (aU, .inr (6, [.ref bT, .ref aD, .int ch, .int ww])), (bT, .inl (cT, 4, .inr (.inr (.inr (.inr (k4 t0 t1 t2 t3))))))]) (va_runV (As := []) (rest := []) ⟨hx, hb, hml, hown, hts⟩ (g_passBackward l D cI cL cB cZ cT _ t3 i3 n3 p3 f3) (cwV 0 hts gX6_readItem_X4_passBackward rfl rfl rfl (by decide +kernel) ⟨Nat.le_of_ble_eq_true rfl, Nat.le_of_ble_eq_true rfl⟩) (kPreV hG hP hD [6, 7] rfl (by decide) 0 4 rfl rfl rfl) rfl rfl hl.1 rfl (lv_room (Nat.le_of_ble_eq_true rfl)) dX6_readItem_63 ⟨Nat.le_of_ble_eq_true rfl, Nat.le_of_ble_eq_true rfl⟩) hA hP hD hS [6, 7] [0, 1, 2, 3, 4, 5, 8, 9, 10, 11] rfl rfl (by decide) (by decide) (fun r_33 u_r_33 H locs wr_33 hP hD hS => ?_)
            have hP : va_P D vwCl [(t0, .inr (4, [.ref i0, .int n0, .int p0])), (i0, .inl (cL, 300, .inr (.inl f0))), (t1, .inr (4, [.ref i1, .int n1, .int p1])), (i1, .inl (cL, 300, .inr (.inl f1))), (t2, .inr (4, [.ref i2, .int n2, .int p2])), (i2, .inl (cL, 300, .inr (.inl f2))), (aD, .inr (1, [.ref bD, .int dp])), (bD, .inl (cL, 256, .inr (.inl fd))), (aU, .inr (6, [.ref bT, .ref aD, .int ch, .int ww])), (bT, .inl (cT, 4, .inr (.inr (.inr (.inr (k4 t0 t1 t2 t3)))))), (t3, .inr (4, [.ref i3, .int n3, .int u_r_33])), (i3, .inl (cL, 300, .inr (.inl f3)))] H := hP
            have hD : va_D A [(t0, .inr (4, [.ref i0, .int n0, .int p0])), (i0, .inl (cL, 300, .inr (.inl f0))), (t1, .inr (4, [.ref i1, .int n1, .int p1])), (i1, .inl (cL, 300, .inr (.inl f1))), (t2, .inr (4, [.ref i2, .int n2, .int p2])), (i2, .inl (cL, 300, .inr (.inl f2))), (aD, .inr (1, [.ref bD, .int dp])), (bD, .inl (cL, 256, .inr (.inl fd))), (aU, .inr (6, [.ref bT, .ref aD, .int ch, .int ww])), (bT, .inl (cT, 4, .inr (.inr (.inr (.inr (k4 t0 t1 t2 t3)))))), (t3, .inr (4, [.ref i3, .int n3, .int u_r_33])), (i3, .inl (cL, 300, .inr (.inl f3)))] := hD
            try dsimp only at wr_33
            refine lv_goto (tgt := 73) hx hb dX6_readItem_66 (by decide) ?_
            refine lv_lstore_n (lv' := [(3, .long r_33), (2, .ref t3), (1, .int 1), (0, .ref aU)]) hx hb dX6_readItem_73 rfl hl (by decide) rfl (fun ls hl => ?_)
            refine lv_lload_n hx hb dX6_readItem_74 rfl (lv_at hl 0 rfl) ?_
            refine lv_lconst (v := 0) hx hb dX6_readItem_75 (by decide) ?_
            refine W.lcmp hx hb dX6_readItem_76 ?_
            refine lv_if_ge (tgt := 85) hx hb dX6_readItem_77 (by decide) (fun c_77_33 => ?_) (fun c_77_33 => ?_)
            · have t_77_33 := c_77_33
              try simp only [kb_eq0, kb_ne0, lg_cmp_lt, lg_cmp_le, lg_cmp_gt, lg_cmp_ge, lg_cmp_eq] at t_77_33
              try simp only [Int32.lt_iff_toInt_lt, Int32.le_iff_toInt_le, ← Int32.toInt_inj, Int64.lt_iff_toInt_lt, Int64.le_iff_toInt_le, ← Int64.toInt_inj, Int32.toInt_toInt64, Int32.reduceToInt, Int64.reduceToInt] at t_77_33
              refine lv_lload_n hx hb dX6_readItem_85 rfl (lv_at hl 0 rfl) ?_
              refine kLret (u := (ch, ww, n0, n1, n2, n3, p0, p1, p2, u_r_33, f0, f1, f2, f3, dp, fd)) hx hb hr hlocks hS dX6_readItem_86 ?_ (hP.sub [8, 9, 0, 1, 2, 3, 4, 5, 10, 11, 6, 7] rfl) (hD.sub [8, 9, 0, 1, 2, 3, 4, 5, 10, 11, 6, 7] (by decide) rfl)
              exact trivial
            · have t_77_33 := c_77_33
              try simp only [kb_eq0, kb_ne0, lg_cmp_lt, lg_cmp_le, lg_cmp_gt, lg_cmp_ge, lg_cmp_eq] at t_77_33
              try simp only [Int32.lt_iff_toInt_lt, Int32.le_iff_toInt_le, ← Int32.toInt_inj, Int64.lt_iff_toInt_lt, Int64.le_iff_toInt_le, ← Int64.toInt_inj, Int32.toInt_toInt64, Int32.reduceToInt, Int64.reduceToInt] at t_77_33
              refine lv_aload_n hx hb dX6_readItem_80 rfl (lv_at hl 3 rfl) ?_
              refine lv_iconst (v := 0) hx hb dX6_readItem_81 (by decide) ?_
              refine va_put (D := D) (ci := 6) (v := .int 0) (ty := .int) (C := RX6) (T := TX6) (N := 4) hx hb hts iX6_readItem_X6 tyX6 tyX6_ok nmX6 hown hK hP hD hS 8 rfl rfl 2 (by decide) (hts (.fieldLink RX6 36 "TapeCalculator$Units" "chosen" "I") (List.mem_of_getElem? (i := 1) rfl)) (fun _ h9 => h9) rfl (by decide +kernel) rfl rfl (Nat.le_of_ble_eq_true rfl) dX6_readItem_82 (fun H locs hP hD hS => ?_)
              have hP : va_P D vwCl [(t0, .inr (4, [.ref i0, .int n0, .int p0])), (i0, .inl (cL, 300, .inr (.inl f0))), (t1, .inr (4, [.ref i1, .int n1, .int p1])), (i1, .inl (cL, 300, .inr (.inl f1))), (t2, .inr (4, [.ref i2, .int n2, .int p2])), (i2, .inl (cL, 300, .inr (.inl f2))), (aD, .inr (1, [.ref bD, .int dp])), (bD, .inl (cL, 256, .inr (.inl fd))), (aU, .inr (6, [.ref bT, .ref aD, .int 0, .int ww])), (bT, .inl (cT, 4, .inr (.inr (.inr (.inr (k4 t0 t1 t2 t3)))))), (t3, .inr (4, [.ref i3, .int n3, .int u_r_33])), (i3, .inl (cL, 300, .inr (.inl f3)))] H := hP
              have hD : va_D A [(t0, .inr (4, [.ref i0, .int n0, .int p0])), (i0, .inl (cL, 300, .inr (.inl f0))), (t1, .inr (4, [.ref i1, .int n1, .int p1])), (i1, .inl (cL, 300, .inr (.inl f1))), (t2, .inr (4, [.ref i2, .int n2, .int p2])), (i2, .inl (cL, 300, .inr (.inl f2))), (aD, .inr (1, [.ref bD, .int dp])), (bD, .inl (cL, 256, .inr (.inl fd))), (aU, .inr (6, [.ref bT, .ref aD, .int 0, .int ww])), (bT, .inl (cT, 4, .inr (.inr (.inr (.inr (k4 t0 t1 t2 t3)))))), (t3, .inr (4, [.ref i3, .int n3, .int u_r_33])), (i3, .inl (cL, 300, .inr (.inl f3)))] := hD
              refine lv_lload_n hx hb dX6_readItem_85 rfl (lv_at hl 0 rfl) ?_
              refine kLret (u := (0, ww, n0, n1, n2, n3, p0, p1, p2, u_r_33, f0, f1, f2, f3, dp, fd)) hx hb hr hlocks hS dX6_readItem_86 ?_ (hP.sub [8, 9, 0, 1, 2, 3, 4, 5, 10, 11, 6, 7] rfl) (hD.sub [8, 9, 0, 1, 2, 3, 4, 5, 10, 11, 6, 7] (by decide) rfl)
              exact trivial
  · have t_6_0 := c_6_0
    try simp only [kb_eq0, kb_ne0, lg_cmp_lt, lg_cmp_le, lg_cmp_gt, lg_cmp_ge, lg_cmp_eq] at t_6_0
    try simp only [Int32.lt_iff_toInt_lt, Int32.le_iff_toInt_le, ← Int32.toInt_inj, Int64.lt_iff_toInt_lt, Int64.le_iff_toInt_le, ← Int64.toInt_inj, Int32.toInt_toInt64, Int32.reduceToInt, Int64.reduceToInt] at t_6_0
    refine lv_aload_n hx hb dX6_readItem_9 rfl (lv_at hl 0 rfl) ?_
    refine va_get (D := D) (ci := 6) (v := .ref aD) (C := RX6) (T := TX6) (N := 4) hx hb hts iX6_readItem_X6 hown hK hP 0 rfl rfl 1 (by decide) (hts (.fieldLink RX6 21 "TapeCalculator$Units" "drum" "LTapeCalculator$Drum;") (List.mem_of_getElem? (i := 2) rfl)) (fun _ h9 => h9) rfl dX6_readItem_10 ?_
    refine kCallL (wr := [(aU, .inr (6, [.ref bT, .ref aD, .int ch, .int ww])), (bT, .inl (cT, 4, .inr (.inr (.inr (.inr (k4 t0 t1 t2 t3)))))), (t0, .inr (4, [.ref i0, .int n0, .int p0])), (i0, .inl (cL, 300, .inr (.inl f0))), (t1, .inr (4, [.ref i1, .int n1, .int p1])), (i1, .inl (cL, 300, .inr (.inl f1))), (t2, .inr (4, [.ref i2, .int n2, .int p2])), (i2, .inl (cL, 300, .inr (.inl f2))), (t3, .inr (4, [.ref i3, .int n3, .int p3])), (i3, .inl (cL, 300, .inr (.inl f3)))]) (va_runV (As := []) (rest := []) ⟨hx, hb, hml, hown, hts⟩ (g_readHere l D cI cL cB cZ cT _ aD bD dp fd) (cwV 0 hts gX6_readItem_X1_readHere rfl rfl rfl (by decide +kernel) ⟨Nat.le_of_ble_eq_true rfl, Nat.le_of_ble_eq_true rfl⟩) (kPreV hG hP hD [10, 11] rfl (by decide) 0 1 rfl rfl rfl) rfl rfl hl.1 rfl (lv_room (Nat.le_of_ble_eq_true rfl)) dX6_readItem_13 ⟨Nat.le_of_ble_eq_true rfl, Nat.le_of_ble_eq_true rfl⟩) hA hP hD hS [10, 11] [0, 1, 2, 3, 4, 5, 6, 7, 8, 9] rfl rfl (by decide) (by decide) (fun r_35 u_r_35 H locs wr_35 hP hD hS => ?_)
    have hP : va_P D vwCl [(aU, .inr (6, [.ref bT, .ref aD, .int ch, .int ww])), (bT, .inl (cT, 4, .inr (.inr (.inr (.inr (k4 t0 t1 t2 t3)))))), (t0, .inr (4, [.ref i0, .int n0, .int p0])), (i0, .inl (cL, 300, .inr (.inl f0))), (t1, .inr (4, [.ref i1, .int n1, .int p1])), (i1, .inl (cL, 300, .inr (.inl f1))), (t2, .inr (4, [.ref i2, .int n2, .int p2])), (i2, .inl (cL, 300, .inr (.inl f2))), (t3, .inr (4, [.ref i3, .int n3, .int p3])), (i3, .inl (cL, 300, .inr (.inl f3))), (aD, .inr (1, [.ref bD, .int u_r_35])), (bD, .inl (cL, 256, .inr (.inl fd)))] H := hP
    have hD : va_D A [(aU, .inr (6, [.ref bT, .ref aD, .int ch, .int ww])), (bT, .inl (cT, 4, .inr (.inr (.inr (.inr (k4 t0 t1 t2 t3)))))), (t0, .inr (4, [.ref i0, .int n0, .int p0])), (i0, .inl (cL, 300, .inr (.inl f0))), (t1, .inr (4, [.ref i1, .int n1, .int p1])), (i1, .inl (cL, 300, .inr (.inl f1))), (t2, .inr (4, [.ref i2, .int n2, .int p2])), (i2, .inl (cL, 300, .inr (.inl f2))), (t3, .inr (4, [.ref i3, .int n3, .int p3])), (i3, .inl (cL, 300, .inr (.inl f3))), (aD, .inr (1, [.ref bD, .int u_r_35])), (bD, .inl (cL, 256, .inr (.inl fd)))] := hD
    try dsimp only at wr_35
    refine kLret (u := (ch, ww, n0, n1, n2, n3, p0, p1, p2, p3, f0, f1, f2, f3, u_r_35, fd)) hx hb hr hlocks hS dX6_readItem_16 ?_ (hP.sub [0, 1, 2, 3, 4, 5, 6, 7, 8, 9, 10, 11] rfl) (hD.sub [0, 1, 2, 3, 4, 5, 6, 7, 8, 9, 10, 11] (by decide) rfl)
    exact trivial
