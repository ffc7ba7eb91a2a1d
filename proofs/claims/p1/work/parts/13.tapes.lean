set_option maxRecDepth 100000 in
theorem iX4_itemAt_X4 : ∀ w ∈ wsX40, w ∈ wsX4_itemAt := fun w h => (goodIn_r (big := wsX4_itemAt) wsX40 [4, 5, 6] rfl (by decide +kernel) w h).1
set_option maxRecDepth 100000 in
set_option maxHeartbeats 4000000 in
theorem c_itemAt (l : Launch) (D : va_G) (cI cL cB cZ cT : ClassId) (sz : Nat) (t0 i0 : Nat) (i : Int32) : kM (S := Unit) l yX4_itemAt wsX4_itemAt ({ frames := 0, cells := 0, slots := 0, locals := 0 }) D (kT cI cL cB cZ cT) [.ref t0, .int i] [(t0, .inr (4, [.ref i0, .int 0, .int 0])), (i0, .inl (cL, 300, .inr (.inl (fun _ => 0))))] sz eL (fun r _ => r = (-9)) (fun _ => [(t0, .inr (4, [.ref i0, .int 0, .int 0])), (i0, .inl (cL, 300, .inr (.inl (fun _ => 0))))]) 0 0 := by
  refine kStart (cc := cX4_itemAt) (maxL := 2) (ret := (some .long)) (own := RX4) (by decide) rfl rfl (Nat.le_of_ble_eq_true rfl) ?_
  intro p e s m args below meth c A ls hx hb hr hml hown hts hlocks hnm hsz hA hG hP hD hS hl
  have hK := hG.1
  have hl : lv_has ls 2 [(0, .ref t0), (1, .int i)] := hl
  refine lv_iload_n hx hb dX4_itemAt_0 rfl (lv_at hl 1 rfl) ?_
  refine lv_if_lt (tgt := 30) hx hb dX4_itemAt_1 (by decide) (fun c_1_0 => ?_) (fun c_1_0 => ?_)
  · have t_1_0 := c_1_0
    try simp only [kb_eq0, kb_ne0, lg_cmp_lt, lg_cmp_le, lg_cmp_gt, lg_cmp_ge, lg_cmp_eq] at t_1_0
    try simp only [Int32.lt_iff_toInt_lt, Int32.le_iff_toInt_le, ← Int32.toInt_inj, Int64.lt_iff_toInt_lt, Int64.le_iff_toInt_le, ← Int64.toInt_inj, Int32.toInt_toInt64, Int32.reduceToInt, Int64.reduceToInt] at t_1_0
    refine lv_ldc2 (v := (-9)) hx hb hown (hts (.constantLong RX4 19 (-9)) (List.mem_of_getElem? (i := 3) rfl)) dX4_itemAt_30 ?_
    refine kLret (u := ()) hx hb hr hlocks hS dX4_itemAt_33 ?_ (hP.sub [0, 1] rfl) (hD.sub [0, 1] (by decide) rfl)
    exact rfl
  · have t_1_0 := c_1_0
    try simp only [kb_eq0, kb_ne0, lg_cmp_lt, lg_cmp_le, lg_cmp_gt, lg_cmp_ge, lg_cmp_eq] at t_1_0
    try simp only [Int32.lt_iff_toInt_lt, Int32.le_iff_toInt_le, ← Int32.toInt_inj, Int64.lt_iff_toInt_lt, Int64.le_iff_toInt_le, ← Int64.toInt_inj, Int32.toInt_toInt64, Int32.reduceToInt, Int64.reduceToInt] at t_1_0
    refine lv_iload_n hx hb dX4_itemAt_4 rfl (lv_at hl 1 rfl) ?_
    refine lv_aload_n hx hb dX4_itemAt_5 rfl (lv_at hl 0 rfl) ?_
    refine va_get (D := D) (ci := 4) (v := .int 0) (C := RX4) (T := TX4) (N := 3) hx hb hts iX4_itemAt_X4 hown hK hP 0 rfl rfl 1 (by decide) (hts (.fieldLink RX4 15 "TapeCalculator$Tape" "count" "I") (List.mem_of_getElem? (i := 1) rfl)) (fun _ h9 => h9) rfl dX4_itemAt_6 ?_
    refine lv_icmp_ge (tgt := 30) hx hb dX4_itemAt_9 (by decide) (fun c_9_1 => ?_) (fun c_9_1 => ?_)
    · have t_9_1 := c_9_1
      try simp only [kb_eq0, kb_ne0, lg_cmp_lt, lg_cmp_le, lg_cmp_gt, lg_cmp_ge, lg_cmp_eq] at t_9_1
      try simp only [Int32.lt_iff_toInt_lt, Int32.le_iff_toInt_le, ← Int32.toInt_inj, Int64.lt_iff_toInt_lt, Int64.le_iff_toInt_le, ← Int64.toInt_inj, Int32.toInt_toInt64, Int32.reduceToInt, Int64.reduceToInt] at t_9_1
      refine lv_ldc2 (v := (-9)) hx hb hown (hts (.constantLong RX4 19 (-9)) (List.mem_of_getElem? (i := 3) rfl)) dX4_itemAt_30 ?_
      refine kLret (u := ()) hx hb hr hlocks hS dX4_itemAt_33 ?_ (hP.sub [0, 1] rfl) (hD.sub [0, 1] (by decide) rfl)
      exact rfl
    · have t_9_1 := c_9_1
      try simp only [kb_eq0, kb_ne0, lg_cmp_lt, lg_cmp_le, lg_cmp_gt, lg_cmp_ge, lg_cmp_eq] at t_9_1
      try simp only [Int32.lt_iff_toInt_lt, Int32.le_iff_toInt_le, ← Int32.toInt_inj, Int64.lt_iff_toInt_lt, Int64.le_iff_toInt_le, ← Int64.toInt_inj, Int32.toInt_toInt64, Int32.reduceToInt, Int64.reduceToInt] at t_9_1
      omega
set_option maxRecDepth 100000 in
theorem iX7_item_X7 : ∀ w ∈ wsX70, w ∈ wsX7_item := fun w h => (goodIn_r (big := wsX7_item) wsX70 [17, 18, 19, 20, 21, 22, 23, 24, 25, 26, 27] rfl (by decide +kernel) w h).1
set_option maxRecDepth 100000 in
set_option maxHeartbeats 4000000 in
theorem c_item (l : Launch) (D : va_G) (cI cL cB cZ cT : ClassId) (sz : Nat) (h0 aS aA aU aX aW : Nat) (bT aD : Nat) (t0 t1 t2 t3 i0 i1 i2 i3 : Nat) (tt i : Int32) : kM (S := Unit) l yX7_item wsX7_item ({ frames := 1, cells := 0, slots := 0, locals := 21 }) D (kT cI cL cB cZ cT) [.ref h0, .int tt, .int i] [(h0, .inr (7, [.ref aS, .ref aA, .ref aU, .ref aX, .ref aW, .int 0, .int 0, .int 0, .int 0, .int 0, .long 0])), (aU, .inr (6, [.ref bT, .ref aD, .int 0, .int 0])), (bT, .inl (cT, 4, .inr (.inr (.inr (.inr (k4 t0 t1 t2 t3)))))), (t0, .inr (4, [.ref i0, .int 0, .int 0])), (t1, .inr (4, [.ref i1, .int 0, .int 0])), (t2, .inr (4, [.ref i2, .int 0, .int 0])), (t3, .inr (4, [.ref i3, .int 0, .int 0])), (i0, .inl (cL, 300, .inr (.inl (fun _ => 0)))), (i1, .inl (cL, 300, .inr (.inl (fun _ => 0)))), (i2, .inl (cL, 300, .inr (.inl (fun _ => 0)))), (i3, .inl (cL, 300, .inr (.inl (fun _ => 0))))] sz eL (fun r _ => r = (kif (0 ≤ tt.toInt ∧ tt.toInt ≤ 3) (-9) (-1))) (fun _ => [(h0, .inr (7, [.ref aS, .ref aA, .ref aU, .ref aX, .ref aW, .int 0, .int 0, .int 0, .int 0, .int 0, .long 0])), (aU, .inr (6, [.ref bT, .ref aD, .int 0, .int 0])), (bT, .inl (cT, 4, .inr (.inr (.inr (.inr (k4 t0 t1 t2 t3)))))), (t0, .inr (4, [.ref i0, .int 0, .int 0])), (t1, .inr (4, [.ref i1, .int 0, .int 0])), (t2, .inr (4, [.ref i2, .int 0, .int 0])), (t3, .inr (4, [.ref i3, .int 0, .int 0])), (i0, .inl (cL, 300, .inr (.inl (fun _ => 0)))), (i1, .inl (cL, 300, .inr (.inl (fun _ => 0)))), (i2, .inl (cL, 300, .inr (.inl (fun _ => 0)))), (i3, .inl (cL, 300, .inr (.inl (fun _ => 0))))]) 0 0 := by
  refine kStart (cc := cX7_item) (maxL := 4) (ret := (some .long)) (own := RX7) (by decide) rfl rfl (Nat.le_of_ble_eq_true rfl) ?_
  intro p e s m args below meth c A ls hx hb hr hml hown hts hlocks hnm hsz hA hG hP hD hS hl
  have hK := hG.1
  have hl : lv_has ls 4 [(0, .ref h0), (1, .int tt), (2, .int i)] := hl
  refine lv_aload_n hx hb dX7_item_0 rfl (lv_at hl 0 rfl) ?_
  refine va_get (D := D) (ci := 7) (v := .ref aU) (C := RX7) (T := TX7) (N := 11) hx hb hts iX7_item_X7 hown hK hP 0 rfl rfl 2 (by decide) (hts (.fieldLink RX7 26 "TapeCalculator" "units" "LTapeCalculator$Units;") (List.mem_of_getElem? (i := 1) rfl)) (fun _ h9 => h9) rfl dX7_item_1 ?_
  refine lv_iload_n hx hb dX7_item_4 rfl (lv_at hl 1 rfl) ?_
  refine kCallR (wr := [(h0, .inr (7, [.ref aS, .ref aA, .ref aU, .ref aX, .ref aW, .int 0, .int 0, .int 0, .int 0, .int 0, .long 0])), (t0, .inr (4, [.ref i0, .int 0, .int 0])), (t1, .inr (4, [.ref i1, .int 0, .int 0])), (t2, .inr (4, [.ref i2, .int 0, .int 0])), (t3, .inr (4, [.ref i3, .int 0, .int 0])), (i0, .inl (cL, 300, .inr (.inl (fun _ => 0)))), (i1, .inl (cL, 300, .inr (.inl (fun _ => 0)))), (i2, .inl (cL, 300, .inr (.inl (fun _ => 0)))), (i3, .inl (cL, 300, .inr (.inl (fun _ => 0))))]) (va_runV (As := [.int tt]) (rest := []) ⟨hx, hb, hml, hown, hts⟩ (c_tapeAt l D cI cL cB cZ cT _ aU bT aD 0 0 (k4 t0 t1 t2 t3) tt) (cwV 1 hts gX7_item_X6_tapeAt rfl rfl rfl (by decide +kernel) ⟨Nat.le_of_ble_eq_true rfl, Nat.le_of_ble_eq_true rfl⟩) (kPreV hG hP hD [1, 2] rfl (by decide) 0 6 rfl rfl rfl) rfl rfl hl.1 rfl (lv_room (Nat.le_of_ble_eq_true rfl)) dX7_item_5 ⟨Nat.le_of_ble_eq_true rfl, Nat.le_of_ble_eq_true rfl⟩) hA hP hD hS [1, 2] [0, 3, 4, 5, 6, 7, 8, 9, 10] rfl rfl (by decide) (by decide) (fun r_1 u_r_1 H locs wr_1 hP hD hS => ?_)
  have hP : va_P D vwCl [(h0, .inr (7, [.ref aS, .ref aA, .ref aU, .ref aX, .ref aW, .int 0, .int 0, .int 0, .int 0, .int 0, .long 0])), (t0, .inr (4, [.ref i0, .int 0, .int 0])), (t1, .inr (4, [.ref i1, .int 0, .int 0])), (t2, .inr (4, [.ref i2, .int 0, .int 0])), (t3, .inr (4, [.ref i3, .int 0, .int 0])), (i0, .inl (cL, 300, .inr (.inl (fun _ => 0)))), (i1, .inl (cL, 300, .inr (.inl (fun _ => 0)))), (i2, .inl (cL, 300, .inr (.inl (fun _ => 0)))), (i3, .inl (cL, 300, .inr (.inl (fun _ => 0)))), (aU, .inr (6, [.ref bT, .ref aD, .int 0, .int 0])), (bT, .inl (cT, 4, .inr (.inr (.inr (.inr (k4 t0 t1 t2 t3))))))] H := hP
  have hD : va_D A [(h0, .inr (7, [.ref aS, .ref aA, .ref aU, .ref aX, .ref aW, .int 0, .int 0, .int 0, .int 0, .int 0, .long 0])), (t0, .inr (4, [.ref i0, .int 0, .int 0])), (t1, .inr (4, [.ref i1, .int 0, .int 0])), (t2, .inr (4, [.ref i2, .int 0, .int 0])), (t3, .inr (4, [.ref i3, .int 0, .int 0])), (i0, .inl (cL, 300, .inr (.inl (fun _ => 0)))), (i1, .inl (cL, 300, .inr (.inl (fun _ => 0)))), (i2, .inl (cL, 300, .inr (.inl (fun _ => 0)))), (i3, .inl (cL, 300, .inr (.inl (fun _ => 0)))), (aU, .inr (6, [.ref bT, .ref aD, .int 0, .int 0])), (bT, .inl (cT, 4, .inr (.inr (.inr (.inr (k4 t0 t1 t2 t3))))))] := hD
  try dsimp only at wr_1
  subst wr_1
  rcases kTp_c t0 t1 t2 t3 tt with ⟨hsw, hv⟩ | ⟨rfl, hv⟩ | ⟨rfl, hv⟩ | ⟨rfl, hv⟩ | ⟨rfl, hv⟩
  · rw [hv]
    refine lv_astore_nN (lv' := [(3, .null), (0, .ref h0), (1, .int tt), (2, .int i)]) hx hb dX7_item_8 rfl hl (by decide) rfl (fun ls hl => ?_)
    refine lv_aload_nN hx hb dX7_item_9 rfl (lv_at hl 0 rfl) ?_
    refine lv_ifnonnullN hx hb dX7_item_10 ?_
    refine lv_ldc2 (v := (-1)) hx hb hown (hts (.constantLong RX7 61 (-1)) (List.mem_of_getElem? (i := 2) rfl)) dX7_item_13 ?_
    refine lv_goto (tgt := 24) hx hb dX7_item_16 (by decide) ?_
    refine kLret (u := ()) hx hb hr hlocks hS dX7_item_24 ?_ (hP.sub [0, 9, 10, 1, 2, 3, 4, 5, 6, 7, 8] rfl) (hD.sub [0, 9, 10, 1, 2, 3, 4, 5, 6, 7, 8] (by decide) rfl)
    first
      | exact (kif_t (by decide)).symm
      | exact (kif_t (by omega)).symm
      | exact (kif_f (by omega)).symm
  · rw [hv]
    refine lv_astore_n (lv' := [(3, .ref t0), (0, .ref h0), (1, .int 0), (2, .int i)]) hx hb dX7_item_8 rfl hl (by decide) rfl (fun ls hl => ?_)
    refine lv_aload_n hx hb dX7_item_9 rfl (lv_at hl 0 rfl) ?_
    refine lv_ifnonnull (tgt := 19) hx hb dX7_item_10 (by decide) ?_
    refine lv_aload_n hx hb dX7_item_19 rfl (lv_at hl 0 rfl) ?_
    refine lv_iload_n hx hb dX7_item_20 rfl (lv_at hl 3 rfl) ?_
    refine kCallL (wr := [(h0, .inr (7, [.ref aS, .ref aA, .ref aU, .ref aX, .ref aW, .int 0, .int 0, .int 0, .int 0, .int 0, .long 0])), (t1, .inr (4, [.ref i1, .int 0, .int 0])), (t2, .inr (4, [.ref i2, .int 0, .int 0])), (t3, .inr (4, [.ref i3, .int 0, .int 0])), (i1, .inl (cL, 300, .inr (.inl (fun _ => 0)))), (i2, .inl (cL, 300, .inr (.inl (fun _ => 0)))), (i3, .inl (cL, 300, .inr (.inl (fun _ => 0)))), (aU, .inr (6, [.ref bT, .ref aD, .int 0, .int 0])), (bT, .inl (cT, 4, .inr (.inr (.inr (.inr (k4 t0 t1 t2 t3))))))]) (va_runV (As := [.int i]) (rest := []) ⟨hx, hb, hml, hown, hts⟩ (c_itemAt l D cI cL cB cZ cT _ t0 i0 i) (cwV 1 hts gX7_item_X4_itemAt rfl rfl rfl (by decide +kernel) ⟨Nat.le_of_ble_eq_true rfl, Nat.le_of_ble_eq_true rfl⟩) (kPreV hG hP hD [1, 5] rfl (by decide) 0 4 rfl rfl rfl) rfl rfl hl.1 rfl (lv_room (Nat.le_of_ble_eq_true rfl)) dX7_item_21 ⟨Nat.le_of_ble_eq_true rfl, Nat.le_of_ble_eq_true rfl⟩) hA hP hD hS [1, 5] [0, 2, 3, 4, 6, 7, 8, 9, 10] rfl rfl (by decide) (by decide) (fun r_2 u_r_2 H locs wr_2 hP hD hS => ?_)
    have hP : va_P D vwCl [(h0, .inr (7, [.ref aS, .ref aA, .ref aU, .ref aX, .ref aW, .int 0, .int 0, .int 0, .int 0, .int 0, .long 0])), (t1, .inr (4, [.ref i1, .int 0, .int 0])), (t2, .inr (4, [.ref i2, .int 0, .int 0])), (t3, .inr (4, [.ref i3, .int 0, .int 0])), (i1, .inl (cL, 300, .inr (.inl (fun _ => 0)))), (i2, .inl (cL, 300, .inr (.inl (fun _ => 0)))), (i3, .inl (cL, 300, .inr (.inl (fun _ => 0)))), (aU, .inr (6, [.ref bT, .ref aD, .int 0, .int 0])), (bT, .inl (cT, 4, .inr (.inr (.inr (.inr (k4 t0 t1 t2 t3)))))), (t0, .inr (4, [.ref i0, .int 0, .int 0])), (i0, .inl (cL, 300, .inr (.inl (fun _ => 0))))] H := hP
    have hD : va_D A [(h0, .inr (7, [.ref aS, .ref aA, .ref aU, .ref aX, .ref aW, .int 0, .int 0, .int 0, .int 0, .int 0, .long 0])), (t1, .inr (4, [.ref i1, .int 0, .int 0])), (t2, .inr (4, [.ref i2, .int 0, .int 0])), (t3, .inr (4, [.ref i3, .int 0, .int 0])), (i1, .inl (cL, 300, .inr (.inl (fun _ => 0)))), (i2, .inl (cL, 300, .inr (.inl (fun _ => 0)))), (i3, .inl (cL, 300, .inr (.inl (fun _ => 0)))), (aU, .inr (6, [.ref bT, .ref aD, .int 0, .int 0])), (bT, .inl (cT, 4, .inr (.inr (.inr (.inr (k4 t0 t1 t2 t3)))))), (t0, .inr (4, [.ref i0, .int 0, .int 0])), (i0, .inl (cL, 300, .inr (.inl (fun _ => 0))))] := hD
    try dsimp only at wr_2
    subst wr_2
    refine kLret (u := ()) hx hb hr hlocks hS dX7_item_24 ?_ (hP.sub [0, 7, 8, 9, 1, 2, 3, 10, 4, 5, 6] rfl) (hD.sub [0, 7, 8, 9, 1, 2, 3, 10, 4, 5, 6] (by decide) rfl)
    first
      | exact (kif_t (by decide)).symm
      | exact (kif_t (by omega)).symm
      | exact (kif_f (by omega)).symm
  · rw [hv]
    refine lv_astore_n (lv' := [(3, .ref t1), (0, .ref h0), (1, .int 1), (2, .int i)]) hx hb dX7_item_8 rfl hl (by decide) rfl (fun ls hl => ?_)
    refine lv_aload_n hx hb dX7_item_9 rfl (lv_at hl 0 rfl) ?_
    refine lv_ifnonnull (tgt := 19) hx hb dX7_item_10 (by decide) ?_
    refine lv_aload_n hx hb dX7_item_19 rfl (lv_at hl 0 rfl) ?_
    refine lv_iload_n hx hb dX7_item_20 rfl (lv_at hl 3 rfl) ?_
    refine kCallL (wr := [(h0, .inr (7, [.ref aS, .ref aA, .ref aU, .ref aX, .ref aW, .int 0, .int 0, .int 0, .int 0, .int 0, .long 0])), (t0, .inr (4, [.ref i0, .int 0, .int 0])), (t2, .inr (4, [.ref i2, .int 0, .int 0])), (t3, .inr (4, [.ref i3, .int 0, .int 0])), (i0, .inl (cL, 300, .inr (.inl (fun _ => 0)))), (i2, .inl (cL, 300, .inr (.inl (fun _ => 0)))), (i3, .inl (cL, 300, .inr (.inl (fun _ => 0)))), (aU, .inr (6, [.ref bT, .ref aD, .int 0, .int 0])), (bT, .inl (cT, 4, .inr (.inr (.inr (.inr (k4 t0 t1 t2 t3))))))]) (va_runV (As := [.int i]) (rest := []) ⟨hx, hb, hml, hown, hts⟩ (c_itemAt l D cI cL cB cZ cT _ t1 i1 i) (cwV 1 hts gX7_item_X4_itemAt rfl rfl rfl (by decide +kernel) ⟨Nat.le_of_ble_eq_true rfl, Nat.le_of_ble_eq_true rfl⟩) (kPreV hG hP hD [2, 6] rfl (by decide) 0 4 rfl rfl rfl) rfl rfl hl.1 rfl (lv_room (Nat.le_of_ble_eq_true rfl)) dX7_item_21 ⟨Nat.le_of_ble_eq_true rfl, Nat.le_of_ble_eq_true rfl⟩) hA hP hD hS [2, 6] [0, 1, 3, 4, 5, 7, 8, 9, 10] rfl rfl (by decide) (by decide) (fun r_3 u_r_3 H locs wr_3 hP hD hS => ?_)
    have hP : va_P D vwCl [(h0, .inr (7, [.ref aS, .ref aA, .ref aU, .ref aX, .ref aW, .int 0, .int 0, .int 0, .int 0, .int 0, .long 0])), (t0, .inr (4, [.ref i0, .int 0, .int 0])), (t2, .inr (4, [.ref i2, .int 0, .int 0])), (t3, .inr (4, [.ref i3, .int 0, .int 0])), (i0, .inl (cL, 300, .inr (.inl (fun _ => 0)))), (i2, .inl (cL, 300, .inr (.inl (fun _ => 0)))), (i3, .inl (cL, 300, .inr (.inl (fun _ => 0)))), (aU, .inr (6, [.ref bT, .ref aD, .int 0, .int 0])), (bT, .inl (cT, 4, .inr (.inr (.inr (.inr (k4 t0 t1 t2 t3)))))), (t1, .inr (4, [.ref i1, .int 0, .int 0])), (i1, .inl (cL, 300, .inr (.inl (fun _ => 0))))] H := hP
    have hD : va_D A [(h0, .inr (7, [.ref aS, .ref aA, .ref aU, .ref aX, .ref aW, .int 0, .int 0, .int 0, .int 0, .int 0, .long 0])), (t0, .inr (4, [.ref i0, .int 0, .int 0])), (t2, .inr (4, [.ref i2, .int 0, .int 0])), (t3, .inr (4, [.ref i3, .int 0, .int 0])), (i0, .inl (cL, 300, .inr (.inl (fun _ => 0)))), (i2, .inl (cL, 300, .inr (.inl (fun _ => 0)))), (i3, .inl (cL, 300, .inr (.inl (fun _ => 0)))), (aU, .inr (6, [.ref bT, .ref aD, .int 0, .int 0])), (bT, .inl (cT, 4, .inr (.inr (.inr (.inr (k4 t0 t1 t2 t3)))))), (t1, .inr (4, [.ref i1, .int 0, .int 0])), (i1, .inl (cL, 300, .inr (.inl (fun _ => 0))))] := hD
    try dsimp only at wr_3
    subst wr_3
    refine kLret (u := ()) hx hb hr hlocks hS dX7_item_24 ?_ (hP.sub [0, 7, 8, 1, 9, 2, 3, 4, 10, 5, 6] rfl) (hD.sub [0, 7, 8, 1, 9, 2, 3, 4, 10, 5, 6] (by decide) rfl)
    first
      | exact (kif_t (by decide)).symm
      | exact (kif_t (by omega)).symm
      | exact (kif_f (by omega)).symm
  · rw [hv]
    refine lv_astore_n (lv' := [(3, .ref t2), (0, .ref h0), (1, .int 2), (2, .int i)]) hx hb dX7_item_8 rfl hl (by decide) rfl (fun ls hl => ?_)
    refine lv_aload_n hx hb dX7_item_9 rfl (lv_at hl 0 rfl) ?_
    refine lv_ifnonnull (tgt := 19) hx hb dX7_item_10 (by decide) ?_
    refine lv_aload_n hx hb dX7_item_19 rfl (lv_at hl 0 rfl) ?_
    refine lv_iload_n hx hb dX7_item_20 rfl (lv_at hl 3 rfl) ?_
    refine kCallL (wr := [(h0, .inr (7, [.ref aS, .ref aA, .ref aU, .ref aX, .ref aW, .int 0, .int 0, .int 0, .int 0, .int 0, .long 0])), (t0, .inr (4, [.ref i0, .int 0, .int 0])), (t1, .inr (4, [.ref i1, .int 0, .int 0])), (t3, .inr (4, [.ref i3, .int 0, .int 0])), (i0, .inl (cL, 300, .inr (.inl (fun _ => 0)))), (i1, .inl (cL, 300, .inr (.inl (fun _ => 0)))), (i3, .inl (cL, 300, .inr (.inl (fun _ => 0)))), (aU, .inr (6, [.ref bT, .ref aD, .int 0, .int 0])), (bT, .inl (cT, 4, .inr (.inr (.inr (.inr (k4 t0 t1 t2 t3))))))]) (va_runV (As := [.int i]) (rest := []) ⟨hx, hb, hml, hown, hts⟩ (c_itemAt l D cI cL cB cZ cT _ t2 i2 i) (cwV 1 hts gX7_item_X4_itemAt rfl rfl rfl (by decide +kernel) ⟨Nat.le_of_ble_eq_true rfl, Nat.le_of_ble_eq_true rfl⟩) (kPreV hG hP hD [3, 7] rfl (by decide) 0 4 rfl rfl rfl) rfl rfl hl.1 rfl (lv_room (Nat.le_of_ble_eq_true rfl)) dX7_item_21 ⟨Nat.le_of_ble_eq_true rfl, Nat.le_of_ble_eq_true rfl⟩) hA hP hD hS [3, 7] [0, 1, 2, 4, 5, 6, 8, 9, 10] rfl rfl (by decide) (by decide) (fun r_4 u_r_4 H locs wr_4 hP hD hS => ?_)
    have hP : va_P D vwCl [(h0, .inr (7, [.ref aS, .ref aA, .ref aU, .ref aX, .ref aW, .int 0, .int 0, .int 0, .int 0, .int 0, .long 0])), (t0, .inr (4, [.ref i0, .int 0, .int 0])), (t1, .inr (4, [.ref i1, .int 0, .int 0])), (t3, .inr (4, [.ref i3, .int 0, .int 0])), (i0, .inl (cL, 300, .inr (.inl (fun _ => 0)))), (i1, .inl (cL, 300, .inr (.inl (fun _ => 0)))), (i3, .inl (cL, 300, .inr (.inl (fun _ => 0)))), (aU, .inr (6, [.ref bT, .ref aD, .int 0, .int 0])), (bT, .inl (cT, 4, .inr (.inr (.inr (.inr (k4 t0 t1 t2 t3)))))), (t2, .inr (4, [.ref i2, .int 0, .int 0])), (i2, .inl (cL, 300, .inr (.inl (fun _ => 0))))] H := hP
    have hD : va_D A [(h0, .inr (7, [.ref aS, .ref aA, .ref aU, .ref aX, .ref aW, .int 0, .int 0, .int 0, .int 0, .int 0, .long 0])), (t0, .inr (4, [.ref i0, .int 0, .int 0])), (t1, .inr (4, [.ref i1, .int 0, .int 0])), (t3, .inr (4, [.ref i3, .int 0, .int 0])), (i0, .inl (cL, 300, .inr (.inl (fun _ => 0)))), (i1, .inl (cL, 300, .inr (.inl (fun _ => 0)))), (i3, .inl (cL, 300, .inr (.inl (fun _ => 0)))), (aU, .inr (6, [.ref bT, .ref aD, .int 0, .int 0])), (bT, .inl (cT, 4, .inr (.inr (.inr (.inr (k4 t0 t1 t2 t3)))))), (t2, .inr (4, [.ref i2, .int 0, .int 0])), (i2, .inl (cL, 300, .inr (.inl (fun _ => 0))))] := hD
    try dsimp only at wr_4
    subst wr_4
    refine kLret (u := ()) hx hb hr hlocks hS dX7_item_24 ?_ (hP.sub [0, 7, 8, 1, 2, 9, 3, 4, 5, 10, 6] rfl) (hD.sub [0, 7, 8, 1, 2, 9, 3, 4, 5, 10, 6] (by decide) rfl)
    first
      | exact (kif_t (by decide)).symm
      | exact (kif_t (by omega)).symm
      | exact (kif_f (by omega)).symm
  · rw [hv]
    refine lv_astore_n (lv' := [(3, .ref t3), (0, .ref h0), (1, .int 3), (2, .int i)]) hx hb dX7_item_8 rfl hl (by decide) rfl (fun ls hl => ?_)
    refine lv_aload_n hx hb dX7_item_9 rfl (lv_at hl 0 rfl) ?_
    refine lv_ifnonnull (tgt := 19) hx hb dX7_item_10 (by decide) ?_
    refine lv_aload_n hx hb dX7_item_19 rfl (lv_at hl 0 rfl) ?_
    refine lv_iload_n hx hb dX7_item_20 rfl (lv_at hl 3 rfl) ?_
    refine kCallL (wr := [(h0, .inr (7, [.ref aS, .ref aA, .ref aU, .ref aX, .ref aW, .int 0, .int 0, .int 0, .int 0, .int 0, .long 0])), (t0, .inr (4, [.ref i0, .int 0, .int 0])), (t1, .inr (4, [.ref i1, .int 0, .int 0])), (t2, .inr (4, [.ref i2, .int 0, .int 0])), (i0, .inl (cL, 300, .inr (.inl (fun _ => 0)))), (i1, .inl (cL, 300, .inr (.inl (fun _ => 0)))), (i2, .inl (cL, 300, .inr (.inl (fun _ => 0)))), (aU, .inr (6, [.ref bT, .ref aD, .int 0, .int 0])), (bT, .inl (cT, 4, .inr (.inr (.inr (.inr (k4 t0 t1 t2 t3))))))]) (va_runV (As := [.int i]) (rest := []) ⟨hx, hb, hml, hown, hts⟩ (c_itemAt l D cI cL cB cZ cT _ t3 i3 i) (cwV 1 hts gX7_item_X4_itemAt rfl rfl rfl (by decide +kernel) ⟨Nat.le_of_ble_eq_true rfl, Nat.le_of_ble_eq_true rfl⟩) (kPreV hG hP hD [4, 8] rfl (by decide) 0 4 rfl rfl rfl) rfl rfl hl.1 rfl (lv_room (Nat.le_of_ble_eq_true rfl)) dX7_item_21 ⟨Nat.le_of_ble_eq_true rfl, Nat.le_of_ble_eq_true rfl⟩) hA hP hD hS [4, 8] [0, 1, 2, 3, 5, 6, 7, 9, 10] rfl rfl (by decide) (by decide) (fun r_5 u_r_5 H locs wr_5 hP hD hS => ?_)
    have hP : va_P D vwCl [(h0, .inr (7, [.ref aS, .ref aA, .ref aU, .ref aX, .ref aW, .int 0, .int 0, .int 0, .int 0, .int 0, .long 0])), (t0, .inr (4, [.ref i0, .int 0, .int 0])), (t1, .inr (4, [.ref i1, .int 0, .int 0])), (t2, .inr (4, [.ref i2, .int 0, .int 0])), (i0, .inl (cL, 300, .inr (.inl (fun _ => 0)))), (i1, .inl (cL, 300, .inr (.inl (fun _ => 0)))), (i2, .inl (cL, 300, .inr (.inl (fun _ => 0)))), (aU, .inr (6, [.ref bT, .ref aD, .int 0, .int 0])), (bT, .inl (cT, 4, .inr (.inr (.inr (.inr (k4 t0 t1 t2 t3)))))), (t3, .inr (4, [.ref i3, .int 0, .int 0])), (i3, .inl (cL, 300, .inr (.inl (fun _ => 0))))] H := hP
    have hD : va_D A [(h0, .inr (7, [.ref aS, .ref aA, .ref aU, .ref aX, .ref aW, .int 0, .int 0, .int 0, .int 0, .int 0, .long 0])), (t0, .inr (4, [.ref i0, .int 0, .int 0])), (t1, .inr (4, [.ref i1, .int 0, .int 0])), (t2, .inr (4, [.ref i2, .int 0, .int 0])), (i0, .inl (cL, 300, .inr (.inl (fun _ => 0)))), (i1, .inl (cL, 300, .inr (.inl (fun _ => 0)))), (i2, .inl (cL, 300, .inr (.inl (fun _ => 0)))), (aU, .inr (6, [.ref bT, .ref aD, .int 0, .int 0])), (bT, .inl (cT, 4, .inr (.inr (.inr (.inr (k4 t0 t1 t2 t3)))))), (t3, .inr (4, [.ref i3, .int 0, .int 0])), (i3, .inl (cL, 300, .inr (.inl (fun _ => 0))))] := hD
    try dsimp only at wr_5
    subst wr_5
    refine kLret (u := ()) hx hb hr hlocks hS dX7_item_24 ?_ (hP.sub [0, 7, 8, 1, 2, 3, 9, 4, 5, 6, 10] rfl) (hD.sub [0, 7, 8, 1, 2, 3, 9, 4, 5, 6, 10] (by decide) rfl)
    first
      | exact (kif_t (by decide)).symm
      | exact (kif_t (by omega)).symm
      | exact (kif_f (by omega)).symm
set_option maxRecDepth 100000 in
set_option maxHeartbeats 4000000 in
theorem c_isItem (l : Launch) (D : va_G) (cI cL cB cZ cT : ClassId) (sz : Nat) (v : Int64) : kM (S := Unit) l yX7_isItem wsX7_isItem ({ frames := 0, cells := 0, slots := 0, locals := 0 }) D (kT cI cL cB cZ cT) [.long v] [] sz eI (fun r _ => r = (kb ((0 ≤ v.toInt ∧ v.toInt ≤ 68719476735) ∨ v.toInt = -2 ∨ v.toInt = -3))) (fun _ => []) 0 0 := by
  refine kStart (cc := cX7_isItem) (maxL := 2) (ret := (some .boolean)) (own := RX7) (by decide) rfl rfl (Nat.le_of_ble_eq_true rfl) ?_
  intro p e s m args below meth c A ls hx hb hr hml hown hts hlocks hnm hsz hA hG hP hD hS hl
  have hK := hG.1
  have hl : lv_has ls 2 [(0, .long v)] := hl
  refine lv_lload_n hx hb dX7_isItem_0 rfl (lv_at hl 0 rfl) ?_
  refine lv_lconst (v := 0) hx hb dX7_isItem_1 (by decide) ?_
  refine W.lcmp hx hb dX7_isItem_2 ?_
  refine lv_if_lt (tgt := 14) hx hb dX7_isItem_3 (by decide) (fun c_3_0 => ?_) (fun c_3_0 => ?_)
  · have t_3_0 := c_3_0
    try simp only [kb_eq0, kb_ne0, lg_cmp_lt, lg_cmp_le, lg_cmp_gt, lg_cmp_ge, lg_cmp_eq] at t_3_0
    try simp only [Int32.lt_iff_toInt_lt, Int32.le_iff_toInt_le, ← Int32.toInt_inj, Int64.lt_iff_toInt_lt, Int64.le_iff_toInt_le, ← Int64.toInt_inj, Int32.toInt_toInt64, Int32.reduceToInt, Int64.reduceToInt] at t_3_0
    refine lv_lload_n hx hb dX7_isItem_14 rfl (lv_at hl 0 rfl) ?_
    refine lv_ldc2 (v := (-2)) hx hb hown (hts (.constantLong RX7 262 (-2)) (List.mem_of_getElem? (i := 2) rfl)) dX7_isItem_15 ?_
    refine W.lcmp hx hb dX7_isItem_18 ?_
    refine lv_if_eq (tgt := 30) hx hb dX7_isItem_19 (by decide) (fun c_19_1 => ?_) (fun c_19_1 => ?_)
    · have t_19_1 := c_19_1
      try simp only [kb_eq0, kb_ne0, lg_cmp_lt, lg_cmp_le, lg_cmp_gt, lg_cmp_ge, lg_cmp_eq] at t_19_1
      try simp only [Int32.lt_iff_toInt_lt, Int32.le_iff_toInt_le, ← Int32.toInt_inj, Int64.lt_iff_toInt_lt, Int64.le_iff_toInt_le, ← Int64.toInt_inj, Int32.toInt_toInt64, Int32.reduceToInt, Int64.reduceToInt] at t_19_1
      refine lv_iconst (v := 1) hx hb dX7_isItem_30 (by decide) ?_
      refine lv_goto (tgt := 35) hx hb dX7_isItem_31 (by decide) ?_
      refine kIret (u := ()) hx hb hr rfl hlocks hS dX7_isItem_35 ?_ (hP.sub [] rfl) (hD.sub [] (by decide) rfl)
      first
        | exact (kb_t (by omega)).symm
        | exact (kb_f (by omega)).symm
    · have t_19_1 := c_19_1
      try simp only [kb_eq0, kb_ne0, lg_cmp_lt, lg_cmp_le, lg_cmp_gt, lg_cmp_ge, lg_cmp_eq] at t_19_1
      try simp only [Int32.lt_iff_toInt_lt, Int32.le_iff_toInt_le, ← Int32.toInt_inj, Int64.lt_iff_toInt_lt, Int64.le_iff_toInt_le, ← Int64.toInt_inj, Int32.toInt_toInt64, Int32.reduceToInt, Int64.reduceToInt] at t_19_1
      refine lv_lload_n hx hb dX7_isItem_22 rfl (lv_at hl 0 rfl) ?_
      refine lv_ldc2 (v := (-3)) hx hb hown (hts (.constantLong RX7 266 (-3)) (List.mem_of_getElem? (i := 3) rfl)) dX7_isItem_23 ?_
      refine W.lcmp hx hb dX7_isItem_26 ?_
      refine lv_if_ne (tgt := 34) hx hb dX7_isItem_27 (by decide) (fun c_27_2 => ?_) (fun c_27_2 => ?_)
      · have t_27_2 := c_27_2
        try simp only [kb_eq0, kb_ne0, lg_cmp_lt, lg_cmp_le, lg_cmp_gt, lg_cmp_ge, lg_cmp_eq] at t_27_2
        try simp only [Int32.lt_iff_toInt_lt, Int32.le_iff_toInt_le, ← Int32.toInt_inj, Int64.lt_iff_toInt_lt, Int64.le_iff_toInt_le, ← Int64.toInt_inj, Int32.toInt_toInt64, Int32.reduceToInt, Int64.reduceToInt] at t_27_2
        refine lv_iconst (v := 0) hx hb dX7_isItem_34 (by decide) ?_
        refine kIret (u := ()) hx hb hr rfl hlocks hS dX7_isItem_35 ?_ (hP.sub [] rfl) (hD.sub [] (by decide) rfl)
        first
          | exact (kb_t (by omega)).symm
          | exact (kb_f (by omega)).symm
      · have t_27_2 := c_27_2
        try simp only [kb_eq0, kb_ne0, lg_cmp_lt, lg_cmp_le, lg_cmp_gt, lg_cmp_ge, lg_cmp_eq] at t_27_2
        try simp only [Int32.lt_iff_toInt_lt, Int32.le_iff_toInt_le, ← Int32.toInt_inj, Int64.lt_iff_toInt_lt, Int64.le_iff_toInt_le, ← Int64.toInt_inj, Int32.toInt_toInt64, Int32.reduceToInt, Int64.reduceToInt] at t_27_2
        refine lv_iconst (v := 1) hx hb dX7_isItem_30 (by decide) ?_
        refine lv_goto (tgt := 35) hx hb dX7_isItem_31 (by decide) ?_
        refine kIret (u := ()) hx hb hr rfl hlocks hS dX7_isItem_35 ?_ (hP.sub [] rfl) (hD.sub [] (by decide) rfl)
        first
          | exact (kb_t (by omega)).symm
          | exact (kb_f (by omega)).symm
  · have t_3_0 := c_3_0
    try simp only [kb_eq0, kb_ne0, lg_cmp_lt, lg_cmp_le, lg_cmp_gt, lg_cmp_ge, lg_cmp_eq] at t_3_0
    try simp only [Int32.lt_iff_toInt_lt, Int32.le_iff_toInt_le, ← Int32.toInt_inj, Int64.lt_iff_toInt_lt, Int64.le_iff_toInt_le, ← Int64.toInt_inj, Int32.toInt_toInt64, Int32.reduceToInt, Int64.reduceToInt] at t_3_0
    refine lv_lload_n hx hb dX7_isItem_6 rfl (lv_at hl 0 rfl) ?_
    refine lv_ldc2 (v := 68719476735) hx hb hown (hts (.constantLong RX7 264 (68719476735)) (List.mem_of_getElem? (i := 1) rfl)) dX7_isItem_7 ?_
    refine W.lcmp hx hb dX7_isItem_10 ?_
    refine lv_if_le (tgt := 30) hx hb dX7_isItem_11 (by decide) (fun c_11_3 => ?_) (fun c_11_3 => ?_)
    · have t_11_3 := c_11_3
      try simp only [kb_eq0, kb_ne0, lg_cmp_lt, lg_cmp_le, lg_cmp_gt, lg_cmp_ge, lg_cmp_eq] at t_11_3
      try simp only [Int32.lt_iff_toInt_lt, Int32.le_iff_toInt_le, ← Int32.toInt_inj, Int64.lt_iff_toInt_lt, Int64.le_iff_toInt_le, ← Int64.toInt_inj, Int32.toInt_toInt64, Int32.reduceToInt, Int64.reduceToInt] at t_11_3
      refine lv_iconst (v := 1) hx hb dX7_isItem_30 (by decide) ?_
      refine lv_goto (tgt := 35) hx hb dX7_isItem_31 (by decide) ?_
      refine kIret (u := ()) hx hb hr rfl hlocks hS dX7_isItem_35 ?_ (hP.sub [] rfl) (hD.sub [] (by decide) rfl)
      first
        | exact (kb_t (by omega)).symm
        | exact (kb_f (by omega)).symm
    · have t_11_3 := c_11_3
      try simp only [kb_eq0, kb_ne0, lg_cmp_lt, lg_cmp_le, lg_cmp_gt, lg_cmp_ge, lg_cmp_eq] at t_11_3
      try simp only [Int32.lt_iff_toInt_lt, Int32.le_iff_toInt_le, ← Int32.toInt_inj, Int64.lt_iff_toInt_lt, Int64.le_iff_toInt_le, ← Int64.toInt_inj, Int32.toInt_toInt64, Int32.reduceToInt, Int64.reduceToInt] at t_11_3
      refine lv_lload_n hx hb dX7_isItem_14 rfl (lv_at hl 0 rfl) ?_
      refine lv_ldc2 (v := (-2)) hx hb hown (hts (.constantLong RX7 262 (-2)) (List.mem_of_getElem? (i := 2) rfl)) dX7_isItem_15 ?_
      refine W.lcmp hx hb dX7_isItem_18 ?_
      refine lv_if_eq (tgt := 30) hx hb dX7_isItem_19 (by decide) (fun c_19_4 => ?_) (fun c_19_4 => ?_)
      · have t_19_4 := c_19_4
        try simp only [kb_eq0, kb_ne0, lg_cmp_lt, lg_cmp_le, lg_cmp_gt, lg_cmp_ge, lg_cmp_eq] at t_19_4
        try simp only [Int32.lt_iff_toInt_lt, Int32.le_iff_toInt_le, ← Int32.toInt_inj, Int64.lt_iff_toInt_lt, Int64.le_iff_toInt_le, ← Int64.toInt_inj, Int32.toInt_toInt64, Int32.reduceToInt, Int64.reduceToInt] at t_19_4
        refine lv_iconst (v := 1) hx hb dX7_isItem_30 (by decide) ?_
        refine lv_goto (tgt := 35) hx hb dX7_isItem_31 (by decide) ?_
        refine kIret (u := ()) hx hb hr rfl hlocks hS dX7_isItem_35 ?_ (hP.sub [] rfl) (hD.sub [] (by decide) rfl)
        first
          | exact (kb_t (by omega)).symm
          | exact (kb_f (by omega)).symm
      · have t_19_4 := c_19_4
        try simp only [kb_eq0, kb_ne0, lg_cmp_lt, lg_cmp_le, lg_cmp_gt, lg_cmp_ge, lg_cmp_eq] at t_19_4
        try simp only [Int32.lt_iff_toInt_lt, Int32.le_iff_toInt_le, ← Int32.toInt_inj, Int64.lt_iff_toInt_lt, Int64.le_iff_toInt_le, ← Int64.toInt_inj, Int32.toInt_toInt64, Int32.reduceToInt, Int64.reduceToInt] at t_19_4
        refine lv_lload_n hx hb dX7_isItem_22 rfl (lv_at hl 0 rfl) ?_
        refine lv_ldc2 (v := (-3)) hx hb hown (hts (.constantLong RX7 266 (-3)) (List.mem_of_getElem? (i := 3) rfl)) dX7_isItem_23 ?_
        refine W.lcmp hx hb dX7_isItem_26 ?_
        refine lv_if_ne (tgt := 34) hx hb dX7_isItem_27 (by decide) (fun c_27_5 => ?_) (fun c_27_5 => ?_)
        · have t_27_5 := c_27_5
          try simp only [kb_eq0, kb_ne0, lg_cmp_lt, lg_cmp_le, lg_cmp_gt, lg_cmp_ge, lg_cmp_eq] at t_27_5
          try simp only [Int32.lt_iff_toInt_lt, Int32.le_iff_toInt_le, ← Int32.toInt_inj, Int64.lt_iff_toInt_lt, Int64.le_iff_toInt_le, ← Int64.toInt_inj, Int32.toInt_toInt64, Int32.reduceToInt, Int64.reduceToInt] at t_27_5
          refine lv_iconst (v := 0) hx hb dX7_isItem_34 (by decide) ?_
          refine kIret (u := ()) hx hb hr rfl hlocks hS dX7_isItem_35 ?_ (hP.sub [] rfl) (hD.sub [] (by decide) rfl)
          first
            | exact (kb_t (by omega)).symm
            | exact (kb_f (by omega)).symm
        · have t_27_5 := c_27_5
          try simp only [kb_eq0, kb_ne0, lg_cmp_lt, lg_cmp_le, lg_cmp_gt, lg_cmp_ge, lg_cmp_eq] at t_27_5
          try simp only [Int32.lt_iff_toInt_lt, Int32.le_iff_toInt_le, ← Int32.toInt_inj, Int64.lt_iff_toInt_lt, Int64.le_iff_toInt_le, ← Int64.toInt_inj, Int32.toInt_toInt64, Int32.reduceToInt, Int64.reduceToInt] at t_27_5
          refine lv_iconst (v := 1) hx hb dX7_isItem_30 (by decide) ?_
          refine lv_goto (tgt := 35) hx hb dX7_isItem_31 (by decide) ?_
          refine kIret (u := ()) hx hb hr rfl hlocks hS dX7_isItem_35 ?_ (hP.sub [] rfl) (hD.sub [] (by decide) rfl)
          first
            | exact (kb_t (by omega)).symm
            | exact (kb_f (by omega)).symm
set_option maxRecDepth 100000 in
theorem iX4_addBehindAll_X4 : ∀ w ∈ wsX40, w ∈ wsX4_addBehindAll := fun w h => (goodIn_r (big := wsX4_addBehindAll) wsX40 [3, 4, 5] rfl (by decide +kernel) w h).1
set_option maxRecDepth 100000 in
set_option maxHeartbeats 4000000 in
theorem c_addBehind (l : Launch) (D : va_G) (cI cL cB cZ cT : ClassId) (sz : Nat) (t0 i0 : Nat) (v : Int64) : kM (S := ((Nat → Int64))) l yX4_addBehindAll wsX4_addBehindAll ({ frames := 0, cells := 0, slots := 0, locals := 0 }) D (kT cI cL cB cZ cT) [.ref t0, .long v] [(t0, .inr (4, [.ref i0, .int 0, .int 0])), (i0, .inl (cL, 300, .inr (.inl (fun _ => 0))))] sz eI (fun r _ => r = 1) (fun u => [(t0, .inr (4, [.ref i0, .int 1, .int 0])), (i0, .inl (cL, 300, .inr (.inl u)))]) 0 0 := by
  refine kStart (cc := cX4_addBehindAll) (maxL := 3) (ret := (some .boolean)) (own := RX4) (by decide) rfl rfl (Nat.le_of_ble_eq_true rfl) ?_
  intro p e s m args below meth c A ls hx hb hr hml hown hts hlocks hnm hsz hA hG hP hD hS hl
  have hK := hG.1
  have hl : lv_has ls 3 [(0, .ref t0), (1, .long v)] := hl
  refine lv_aload_n hx hb dX4_addBehindAll_0 rfl (lv_at hl 0 rfl) ?_
  refine va_get (D := D) (ci := 4) (v := .int 0) (C := RX4) (T := TX4) (N := 3) hx hb hts iX4_addBehindAll_X4 hown hK hP 0 rfl rfl 1 (by decide) (hts (.fieldLink RX4 15 "TapeCalculator$Tape" "count" "I") (List.mem_of_getElem? (i := 1) rfl)) (fun _ h9 => h9) rfl dX4_addBehindAll_1 ?_
  refine lv_if_lt (tgt := 19) hx hb dX4_addBehindAll_4 (by decide) (fun c_4_0 => ?_) (fun c_4_0 => ?_)
  · exact absurd c_4_0 (by decide)
  · have t_4_0 := c_4_0
    try simp only [kb_eq0, kb_ne0, lg_cmp_lt, lg_cmp_le, lg_cmp_gt, lg_cmp_ge, lg_cmp_eq] at t_4_0
    try simp only [Int32.lt_iff_toInt_lt, Int32.le_iff_toInt_le, ← Int32.toInt_inj, Int64.lt_iff_toInt_lt, Int64.le_iff_toInt_le, ← Int64.toInt_inj, Int32.toInt_toInt64, Int32.reduceToInt, Int64.reduceToInt] at t_4_0
    refine lv_aload_n hx hb dX4_addBehindAll_7 rfl (lv_at hl 0 rfl) ?_
    refine va_get (D := D) (ci := 4) (v := .int 0) (C := RX4) (T := TX4) (N := 3) hx hb hts iX4_addBehindAll_X4 hown hK hP 0 rfl rfl 1 (by decide) (hts (.fieldLink RX4 15 "TapeCalculator$Tape" "count" "I") (List.mem_of_getElem? (i := 1) rfl)) (fun _ h9 => h9) rfl dX4_addBehindAll_8 ?_
    refine lv_aload_n hx hb dX4_addBehindAll_11 rfl (lv_at hl 0 rfl) ?_
    refine va_get (D := D) (ci := 4) (v := .ref i0) (C := RX4) (T := TX4) (N := 3) hx hb hts iX4_addBehindAll_X4 hown hK hP 0 rfl rfl 0 (by decide) (hts (.fieldLink RX4 9 "TapeCalculator$Tape" "items" "[J") (List.mem_of_getElem? (i := 2) rfl)) (fun _ h9 => h9) rfl dX4_addBehindAll_12 ?_
    refine va_alen hx hb hK hP 1 1 rfl rfl (v := 300) rfl dX4_addBehindAll_15 ?_
    refine lv_icmp_lt (tgt := 21) hx hb dX4_addBehindAll_16 (by decide) (fun c_16_1 => ?_) (fun c_16_1 => ?_)
    · have t_16_1 := c_16_1
      try simp only [kb_eq0, kb_ne0, lg_cmp_lt, lg_cmp_le, lg_cmp_gt, lg_cmp_ge, lg_cmp_eq] at t_16_1
      try simp only [Int32.lt_iff_toInt_lt, Int32.le_iff_toInt_le, ← Int32.toInt_inj, Int64.lt_iff_toInt_lt, Int64.le_iff_toInt_le, ← Int64.toInt_inj, Int32.toInt_toInt64, Int32.reduceToInt, Int64.reduceToInt] at t_16_1
      refine lv_aload_n hx hb dX4_addBehindAll_21 rfl (lv_at hl 0 rfl) ?_
      refine va_get (D := D) (ci := 4) (v := .ref i0) (C := RX4) (T := TX4) (N := 3) hx hb hts iX4_addBehindAll_X4 hown hK hP 0 rfl rfl 0 (by decide) (hts (.fieldLink RX4 9 "TapeCalculator$Tape" "items" "[J") (List.mem_of_getElem? (i := 2) rfl)) (fun _ h9 => h9) rfl dX4_addBehindAll_22 ?_
      refine lv_aload_n hx hb dX4_addBehindAll_25 rfl (lv_at hl 0 rfl) ?_
      refine va_get (D := D) (ci := 4) (v := .int 0) (C := RX4) (T := TX4) (N := 3) hx hb hts iX4_addBehindAll_X4 hown hK hP 0 rfl rfl 1 (by decide) (hts (.fieldLink RX4 15 "TapeCalculator$Tape" "count" "I") (List.mem_of_getElem? (i := 1) rfl)) (fun _ h9 => h9) rfl dX4_addBehindAll_26 ?_
      refine lv_lload_n hx hb dX4_addBehindAll_29 rfl (lv_at hl 1 rfl) ?_
      refine va_last hx hb hK hP hD hS 1 1 rfl rfl (vp_in_iff.mpr (by decide)) dX4_addBehindAll_30 (fun H locs hP hD hS => ?_)
      have hP : va_P D vwCl [(t0, .inr (4, [.ref i0, .int 0, .int 0])), (i0, .inl (cL, 300, .inr (.inl (vp_updL (fun _ => 0) (0 : Int32).toNatClampNeg v))))] H := hP
      have hD : va_D A [(t0, .inr (4, [.ref i0, .int 0, .int 0])), (i0, .inl (cL, 300, .inr (.inl (vp_updL (fun _ => 0) (0 : Int32).toNatClampNeg v))))] := hD
      refine lv_aload_n hx hb dX4_addBehindAll_31 rfl (lv_at hl 0 rfl) ?_
      refine lv_dup hx hb dX4_addBehindAll_32 rfl ?_
      refine va_get (D := D) (ci := 4) (v := .int 0) (C := RX4) (T := TX4) (N := 3) hx hb hts iX4_addBehindAll_X4 hown hK hP 0 rfl rfl 1 (by decide) (hts (.fieldLink RX4 15 "TapeCalculator$Tape" "count" "I") (List.mem_of_getElem? (i := 1) rfl)) (fun _ h9 => h9) rfl dX4_addBehindAll_33 ?_
      refine lv_iconst (v := 1) hx hb dX4_addBehindAll_36 (by decide) ?_
      refine lv_iadd hx hb dX4_addBehindAll_37 ?_
      refine lv_topi (fun x_3 ex_3 => ?_)
      obtain rfl : x_3 = 1 := ex_3.trans (by decide)
      refine va_put (D := D) (ci := 4) (v := .int 1) (ty := .int) (C := RX4) (T := TX4) (N := 3) hx hb hts iX4_addBehindAll_X4 tyX4 tyX4_ok nmX4 hown hK hP hD hS 0 rfl rfl 1 (by decide) (hts (.fieldLink RX4 15 "TapeCalculator$Tape" "count" "I") (List.mem_of_getElem? (i := 1) rfl)) (fun _ h9 => h9) rfl (by decide +kernel) rfl rfl (Nat.le_of_ble_eq_true rfl) dX4_addBehindAll_38 (fun H locs hP hD hS => ?_)
      have hP : va_P D vwCl [(t0, .inr (4, [.ref i0, .int 1, .int 0])), (i0, .inl (cL, 300, .inr (.inl (vp_updL (fun _ => 0) (0 : Int32).toNatClampNeg v))))] H := hP
      have hD : va_D A [(t0, .inr (4, [.ref i0, .int 1, .int 0])), (i0, .inl (cL, 300, .inr (.inl (vp_updL (fun _ => 0) (0 : Int32).toNatClampNeg v))))] := hD
      refine lv_iconst (v := 1) hx hb dX4_addBehindAll_41 (by decide) ?_
      refine kIret (u := (vp_updL (fun _ => 0) (0 : Int32).toNatClampNeg v)) hx hb hr rfl hlocks hS dX4_addBehindAll_42 ?_ (hP.sub [0, 1] rfl) (hD.sub [0, 1] (by decide) rfl)
      exact rfl
    · exact absurd (by decide) c_16_1
set_option maxRecDepth 100000 in
theorem iX7_lay_X7 : ∀ w ∈ wsX70, w ∈ wsX7_lay := fun w h => (goodIn_r (big := wsX7_lay) wsX70 [23, 24, 25, 26, 27, 28, 29, 30, 31, 32, 33] rfl (by decide +kernel) w h).1
set_option maxRecDepth 100000 in
theorem iX7_lay_X4 : ∀ w ∈ wsX40, w ∈ wsX7_lay := fun w h => (goodIn_r (big := wsX7_lay) wsX40 [34, 35, 36] rfl (by decide +kernel) w h).1
set_option maxRecDepth 100000 in
set_option maxHeartbeats 4000000 in
theorem c_lay (l : Launch) (D : va_G) (cI cL cB cZ cT : ClassId) (sz : Nat) (h0 aS aA aU aX aW : Nat) (bT aD : Nat) (t0 t1 t2 t3 i0 i1 i2 i3 : Nat) (tt : Int32) (v : Int64) : kM (S := (Int32 × Int32 × Int32 × Int32 × (Nat → Int64) × (Nat → Int64) × (Nat → Int64) × (Nat → Int64))) l yX7_lay wsX7_lay ({ frames := 1, cells := 0, slots := 0, locals := 22 }) D (kT cI cL cB cZ cT) [.ref h0, .int tt, .long v] [(h0, .inr (7, [.ref aS, .ref aA, .ref aU, .ref aX, .ref aW, .int 0, .int 0, .int 0, .int 0, .int 0, .long 0])), (aU, .inr (6, [.ref bT, .ref aD, .int 0, .int 0])), (bT, .inl (cT, 4, .inr (.inr (.inr (.inr (k4 t0 t1 t2 t3)))))), (t0, .inr (4, [.ref i0, .int 0, .int 0])), (t1, .inr (4, [.ref i1, .int 0, .int 0])), (t2, .inr (4, [.ref i2, .int 0, .int 0])), (t3, .inr (4, [.ref i3, .int 0, .int 0])), (i0, .inl (cL, 300, .inr (.inl (fun _ => 0)))), (i1, .inl (cL, 300, .inr (.inl (fun _ => 0)))), (i2, .inl (cL, 300, .inr (.inl (fun _ => 0)))), (i3, .inl (cL, 300, .inr (.inl (fun _ => 0))))] sz eI (fun r _ => r = (kif ((0 ≤ tt.toInt ∧ tt.toInt ≤ 3) ∧ ((0 ≤ v.toInt ∧ v.toInt ≤ 68719476735) ∨ v.toInt = -2 ∨ v.toInt = -3)) 1 (-1))) (fun u => [(h0, .inr (7, [.ref aS, .ref aA, .ref aU, .ref aX, .ref aW, .int 0, .int 0, .int 0, .int 0, .int 0, .long 0])), (aU, .inr (6, [.ref bT, .ref aD, .int 0, .int 0])), (bT, .inl (cT, 4, .inr (.inr (.inr (.inr (k4 t0 t1 t2 t3)))))), (t0, .inr (4, [.ref i0, .int u.1, .int 0])), (t1, .inr (4, [.ref i1, .int u.2.1, .int 0])), (t2, .inr (4, [.ref i2, .int u.2.2.1, .int 0])), (t3, .inr (4, [.ref i3, .int u.2.2.2.1, .int 0])), (i0, .inl (cL, 300, .inr (.inl u.2.2.2.2.1))), (i1, .inl (cL, 300, .inr (.inl u.2.2.2.2.2.1))), (i2, .inl (cL, 300, .inr (.inl u.2.2.2.2.2.2.1))), (i3, .inl (cL, 300, .inr (.inl u.2.2.2.2.2.2.2)))]) 0 0 := by
  refine kStart (cc := cX7_lay) (maxL := 5) (ret := (some .int)) (own := RX7) (by decide) rfl rfl (Nat.le_of_ble_eq_true rfl) ?_
  intro p e s m args below meth c A ls hx hb hr hml hown hts hlocks hnm hsz hA hG hP hD hS hl
  have hK := hG.1
  have hl : lv_has ls 5 [(0, .ref h0), (1, .int tt), (2, .long v)] := hl
  refine lv_aload_n hx hb dX7_lay_0 rfl (lv_at hl 0 rfl) ?_
  refine va_get (D := D) (ci := 7) (v := .ref aU) (C := RX7) (T := TX7) (N := 11) hx hb hts iX7_lay_X7 hown hK hP 0 rfl rfl 2 (by decide) (hts (.fieldLink RX7 26 "TapeCalculator" "units" "LTapeCalculator$Units;") (List.mem_of_getElem? (i := 1) rfl)) (fun _ h9 => h9) rfl dX7_lay_1 ?_
  refine lv_iload_n hx hb dX7_lay_4 rfl (lv_at hl 1 rfl) ?_
  refine kCallR (wr := [(h0, .inr (7, [.ref aS, .ref aA, .ref aU, .ref aX, .ref aW, .int 0, .int 0, .int 0, .int 0, .int 0, .long 0])), (t0, .inr (4, [.ref i0, .int 0, .int 0])), (t1, .inr (4, [.ref i1, .int 0, .int 0])), (t2, .inr (4, [.ref i2, .int 0, .int 0])), (t3, .inr (4, [.ref i3, .int 0, .int 0])), (i0, .inl (cL, 300, .inr (.inl (fun _ => 0)))), (i1, .inl (cL, 300, .inr (.inl (fun _ => 0)))), (i2, .inl (cL, 300, .inr (.inl (fun _ => 0)))), (i3, .inl (cL, 300, .inr (.inl (fun _ => 0))))]) (va_runV (As := [.int tt]) (rest := []) ⟨hx, hb, hml, hown, hts⟩ (c_tapeAt l D cI cL cB cZ cT _ aU bT aD 0 0 (k4 t0 t1 t2 t3) tt) (cwV 1 hts gX7_lay_X6_tapeAt rfl rfl rfl (by decide +kernel) ⟨Nat.le_of_ble_eq_true rfl, Nat.le_of_ble_eq_true rfl⟩) (kPreV hG hP hD [1, 2] rfl (by decide) 0 6 rfl rfl rfl) rfl rfl hl.1 rfl (lv_room (Nat.le_of_ble_eq_true rfl)) dX7_lay_5 ⟨Nat.le_of_ble_eq_true rfl, Nat.le_of_ble_eq_true rfl⟩) hA hP hD hS [1, 2] [0, 3, 4, 5, 6, 7, 8, 9, 10] rfl rfl (by decide) (by decide) (fun r_1 u_r_1 H locs wr_1 hP hD hS => ?_)
  have hP : va_P D vwCl [(h0, .inr (7, [.ref aS, .ref aA, .ref aU, .ref aX, .ref aW, .int 0, .int 0, .int 0, .int 0, .int 0, .long 0])), (t0, .inr (4, [.ref i0, .int 0, .int 0])), (t1, .inr (4, [.ref i1, .int 0, .int 0])), (t2, .inr (4, [.ref i2, .int 0, .int 0])), (t3, .inr (4, [.ref i3, .int 0, .int 0])), (i0, .inl (cL, 300, .inr (.inl (fun _ => 0)))), (i1, .inl (cL, 300, .inr (.inl (fun _ => 0)))), (i2, .inl (cL, 300, .inr (.inl (fun _ => 0)))), (i3, .inl (cL, 300, .inr (.inl (fun _ => 0)))), (aU, .inr (6, [.ref bT, .ref aD, .int 0, .int 0])), (bT, .inl (cT, 4, .inr (.inr (.inr (.inr (k4 t0 t1 t2 t3))))))] H := hP
  have hD : va_D A [(h0, .inr (7, [.ref aS, .ref aA, .ref aU, .ref aX, .ref aW, .int 0, .int 0, .int 0, .int 0, .int 0, .long 0])), (t0, .inr (4, [.ref i0, .int 0, .int 0])), (t1, .inr (4, [.ref i1, .int 0, .int 0])), (t2, .inr (4, [.ref i2, .int 0, .int 0])), (t3, .inr (4, [.ref i3, .int 0, .int 0])), (i0, .inl (cL, 300, .inr (.inl (fun _ => 0)))), (i1, .inl (cL, 300, .inr (.inl (fun _ => 0)))), (i2, .inl (cL, 300, .inr (.inl (fun _ => 0)))), (i3, .inl (cL, 300, .inr (.inl (fun _ => 0)))), (aU, .inr (6, [.ref bT, .ref aD, .int 0, .int 0])), (bT, .inl (cT, 4, .inr (.inr (.inr (.inr (k4 t0 t1 t2 t3))))))] := hD
  try dsimp only at wr_1
  subst wr_1
  rcases kTp_c t0 t1 t2 t3 tt with ⟨hsw, hv⟩ | ⟨rfl, hv⟩ | ⟨rfl, hv⟩ | ⟨rfl, hv⟩ | ⟨rfl, hv⟩
  · rw [hv]
    refine lv_astoreN (lv' := [(4, .null), (0, .ref h0), (1, .int tt), (2, .long v)]) hx hb dX7_lay_8 hl (by decide) rfl (fun ls hl => ?_)
    refine lv_aloadN hx hb dX7_lay_10 (lv_at hl 0 rfl) ?_
    refine lv_ifnullN (tgt := 22) hx hb dX7_lay_12 (by decide) ?_
    refine lv_iconst (v := (-1)) hx hb dX7_lay_22 (by decide) ?_
    refine kIret (u := (0, 0, 0, 0, (fun _ => 0), (fun _ => 0), (fun _ => 0), (fun _ => 0))) hx hb hr rfl hlocks hS dX7_lay_23 ?_ (hP.sub [0, 9, 10, 1, 2, 3, 4, 5, 6, 7, 8] rfl) (hD.sub [0, 9, 10, 1, 2, 3, 4, 5, 6, 7, 8] (by decide) rfl)
    first
      | exact (kif_t ⟨by decide, by omega⟩).symm
      | exact (kif_t (by omega)).symm
      | exact (kif_f (by omega)).symm
      | exact (kif_f (fun h => absurd h.2 (by omega))).symm
  · rw [hv]
    refine lv_astore (lv' := [(4, .ref t0), (0, .ref h0), (1, .int 0), (2, .long v)]) hx hb dX7_lay_8 hl (by decide) rfl (fun ls hl => ?_)
    refine lv_aload hx hb dX7_lay_10 (lv_at hl 0 rfl) ?_
    refine lv_ifnull hx hb dX7_lay_12 ?_
    refine lv_lload_n hx hb dX7_lay_15 rfl (lv_at hl 3 rfl) ?_
    refine kCallI (wr := [(h0, .inr (7, [.ref aS, .ref aA, .ref aU, .ref aX, .ref aW, .int 0, .int 0, .int 0, .int 0, .int 0, .long 0])), (t0, .inr (4, [.ref i0, .int 0, .int 0])), (t1, .inr (4, [.ref i1, .int 0, .int 0])), (t2, .inr (4, [.ref i2, .int 0, .int 0])), (t3, .inr (4, [.ref i3, .int 0, .int 0])), (i0, .inl (cL, 300, .inr (.inl (fun _ => 0)))), (i1, .inl (cL, 300, .inr (.inl (fun _ => 0)))), (i2, .inl (cL, 300, .inr (.inl (fun _ => 0)))), (i3, .inl (cL, 300, .inr (.inl (fun _ => 0)))), (aU, .inr (6, [.ref bT, .ref aD, .int 0, .int 0])), (bT, .inl (cT, 4, .inr (.inr (.inr (.inr (k4 t0 t1 t2 t3))))))]) (va_runS (As := [.long v]) (rest := []) ⟨hx, hb, hml, hown, hts⟩ (c_isItem l D cI cL cB cZ cT _ v) (va_cwS 1 hts gX7_lay_X7_isItem rfl rfl rfl (by decide +kernel) ⟨Nat.le_of_ble_eq_true rfl, Nat.le_of_ble_eq_true rfl⟩) (kPreS hG hP hD [] rfl (by decide)) rfl rfl hl.1 rfl (lv_room (Nat.le_of_ble_eq_true rfl)) dX7_lay_16 ⟨Nat.le_of_ble_eq_true rfl, Nat.le_of_ble_eq_true rfl⟩) hA hP hD hS [] [0, 1, 2, 3, 4, 5, 6, 7, 8, 9, 10] rfl rfl (by decide) (by decide) (fun r_2 u_r_2 H locs wr_2 hP hD hS => ?_)
    have hP : va_P D vwCl [(h0, .inr (7, [.ref aS, .ref aA, .ref aU, .ref aX, .ref aW, .int 0, .int 0, .int 0, .int 0, .int 0, .long 0])), (t0, .inr (4, [.ref i0, .int 0, .int 0])), (t1, .inr (4, [.ref i1, .int 0, .int 0])), (t2, .inr (4, [.ref i2, .int 0, .int 0])), (t3, .inr (4, [.ref i3, .int 0, .int 0])), (i0, .inl (cL, 300, .inr (.inl (fun _ => 0)))), (i1, .inl (cL, 300, .inr (.inl (fun _ => 0)))), (i2, .inl (cL, 300, .inr (.inl (fun _ => 0)))), (i3, .inl (cL, 300, .inr (.inl (fun _ => 0)))), (aU, .inr (6, [.ref bT, .ref aD, .int 0, .int 0])), (bT, .inl (cT, 4, .inr (.inr (.inr (.inr (k4 t0 t1 t2 t3))))))] H := hP
    have hD : va_D A [(h0, .inr (7, [.ref aS, .ref aA, .ref aU, .ref aX, .ref aW, .int 0, .int 0, .int 0, .int 0, .int 0, .long 0])), (t0, .inr (4, [.ref i0, .int 0, .int 0])), (t1, .inr (4, [.ref i1, .int 0, .int 0])), (t2, .inr (4, [.ref i2, .int 0, .int 0])), (t3, .inr (4, [.ref i3, .int 0, .int 0])), (i0, .inl (cL, 300, .inr (.inl (fun _ => 0)))), (i1, .inl (cL, 300, .inr (.inl (fun _ => 0)))), (i2, .inl (cL, 300, .inr (.inl (fun _ => 0)))), (i3, .inl (cL, 300, .inr (.inl (fun _ => 0)))), (aU, .inr (6, [.ref bT, .ref aD, .int 0, .int 0])), (bT, .inl (cT, 4, .inr (.inr (.inr (.inr (k4 t0 t1 t2 t3))))))] := hD
    try dsimp only at wr_2
    subst wr_2
    refine lv_if_ne (tgt := 24) hx hb dX7_lay_19 (by decide) (fun c_19_2 => ?_) (fun c_19_2 => ?_)
    · have t_19_2 := c_19_2
      try simp only [kb_eq0, kb_ne0, lg_cmp_lt, lg_cmp_le, lg_cmp_gt, lg_cmp_ge, lg_cmp_eq] at t_19_2
      try simp only [Int32.lt_iff_toInt_lt, Int32.le_iff_toInt_le, ← Int32.toInt_inj, Int64.lt_iff_toInt_lt, Int64.le_iff_toInt_le, ← Int64.toInt_inj, Int32.toInt_toInt64, Int32.reduceToInt, Int64.reduceToInt] at t_19_2
      refine lv_aload hx hb dX7_lay_24 (lv_at hl 0 rfl) ?_
      refine lv_lload_n hx hb dX7_lay_26 rfl (lv_at hl 3 rfl) ?_
      refine kCallI (wr := [(h0, .inr (7, [.ref aS, .ref aA, .ref aU, .ref aX, .ref aW, .int 0, .int 0, .int 0, .int 0, .int 0, .long 0])), (t1, .inr (4, [.ref i1, .int 0, .int 0])), (t2, .inr (4, [.ref i2, .int 0, .int 0])), (t3, .inr (4, [.ref i3, .int 0, .int 0])), (i1, .inl (cL, 300, .inr (.inl (fun _ => 0)))), (i2, .inl (cL, 300, .inr (.inl (fun _ => 0)))), (i3, .inl (cL, 300, .inr (.inl (fun _ => 0)))), (aU, .inr (6, [.ref bT, .ref aD, .int 0, .int 0])), (bT, .inl (cT, 4, .inr (.inr (.inr (.inr (k4 t0 t1 t2 t3))))))]) (va_runV (As := [.long v]) (rest := []) ⟨hx, hb, hml, hown, hts⟩ (c_addBehind l D cI cL cB cZ cT _ t0 i0 v) (cwV 1 hts gX7_lay_X4_addBehindAll rfl rfl rfl (by decide +kernel) ⟨Nat.le_of_ble_eq_true rfl, Nat.le_of_ble_eq_true rfl⟩) (kPreV hG hP hD [1, 5] rfl (by decide) 0 4 rfl rfl rfl) rfl rfl hl.1 rfl (lv_room (Nat.le_of_ble_eq_true rfl)) dX7_lay_27 ⟨Nat.le_of_ble_eq_true rfl, Nat.le_of_ble_eq_true rfl⟩) hA hP hD hS [1, 5] [0, 2, 3, 4, 6, 7, 8, 9, 10] rfl rfl (by decide) (by decide) (fun r_4 u_r_4 H locs wr_4 hP hD hS => ?_)
      have hP : va_P D vwCl [(h0, .inr (7, [.ref aS, .ref aA, .ref aU, .ref aX, .ref aW, .int 0, .int 0, .int 0, .int 0, .int 0, .long 0])), (t1, .inr (4, [.ref i1, .int 0, .int 0])), (t2, .inr (4, [.ref i2, .int 0, .int 0])), (t3, .inr (4, [.ref i3, .int 0, .int 0])), (i1, .inl (cL, 300, .inr (.inl (fun _ => 0)))), (i2, .inl (cL, 300, .inr (.inl (fun _ => 0)))), (i3, .inl (cL, 300, .inr (.inl (fun _ => 0)))), (aU, .inr (6, [.ref bT, .ref aD, .int 0, .int 0])), (bT, .inl (cT, 4, .inr (.inr (.inr (.inr (k4 t0 t1 t2 t3)))))), (t0, .inr (4, [.ref i0, .int 1, .int 0])), (i0, .inl (cL, 300, .inr (.inl u_r_4)))] H := hP
      have hD : va_D A [(h0, .inr (7, [.ref aS, .ref aA, .ref aU, .ref aX, .ref aW, .int 0, .int 0, .int 0, .int 0, .int 0, .long 0])), (t1, .inr (4, [.ref i1, .int 0, .int 0])), (t2, .inr (4, [.ref i2, .int 0, .int 0])), (t3, .inr (4, [.ref i3, .int 0, .int 0])), (i1, .inl (cL, 300, .inr (.inl (fun _ => 0)))), (i2, .inl (cL, 300, .inr (.inl (fun _ => 0)))), (i3, .inl (cL, 300, .inr (.inl (fun _ => 0)))), (aU, .inr (6, [.ref bT, .ref aD, .int 0, .int 0])), (bT, .inl (cT, 4, .inr (.inr (.inr (.inr (k4 t0 t1 t2 t3)))))), (t0, .inr (4, [.ref i0, .int 1, .int 0])), (i0, .inl (cL, 300, .inr (.inl u_r_4)))] := hD
      try dsimp only at wr_4
      subst wr_4
      refine lv_if_eq (tgt := 41) hx hb dX7_lay_30 (by decide) (fun c_30_4 => ?_) (fun c_30_4 => ?_)
      · exact absurd c_30_4 (by decide)
      · have t_30_4 := c_30_4
        try simp only [kb_eq0, kb_ne0, lg_cmp_lt, lg_cmp_le, lg_cmp_gt, lg_cmp_ge, lg_cmp_eq] at t_30_4
        try simp only [Int32.lt_iff_toInt_lt, Int32.le_iff_toInt_le, ← Int32.toInt_inj, Int64.lt_iff_toInt_lt, Int64.le_iff_toInt_le, ← Int64.toInt_inj, Int32.toInt_toInt64, Int32.reduceToInt, Int64.reduceToInt] at t_30_4
        refine lv_aload hx hb dX7_lay_33 (lv_at hl 0 rfl) ?_
        refine va_get (D := D) (ci := 4) (v := .int 1) (C := RX4) (T := TX4) (N := 3) hx hb hts iX7_lay_X4 hown hK hP 9 rfl rfl 1 (by decide) (hts (.fieldLink RX7 131 "TapeCalculator$Tape" "count" "I") (List.mem_of_getElem? (i := 2) rfl)) (fun _ h9 => h9) rfl dX7_lay_35 ?_
        refine lv_goto (tgt := 43) hx hb dX7_lay_38 (by decide) ?_
        refine kIret (u := (1, 0, 0, 0, u_r_4, (fun _ => 0), (fun _ => 0), (fun _ => 0))) hx hb hr rfl hlocks hS dX7_lay_43 ?_ (hP.sub [0, 7, 8, 9, 1, 2, 3, 10, 4, 5, 6] rfl) (hD.sub [0, 7, 8, 9, 1, 2, 3, 10, 4, 5, 6] (by decide) rfl)
        first
          | exact (kif_t ⟨by decide, by omega⟩).symm
          | exact (kif_t (by omega)).symm
          | exact (kif_f (by omega)).symm
          | exact (kif_f (fun h => absurd h.2 (by omega))).symm
    · have t_19_2 := c_19_2
      try simp only [kb_eq0, kb_ne0, lg_cmp_lt, lg_cmp_le, lg_cmp_gt, lg_cmp_ge, lg_cmp_eq] at t_19_2
      try simp only [Int32.lt_iff_toInt_lt, Int32.le_iff_toInt_le, ← Int32.toInt_inj, Int64.lt_iff_toInt_lt, Int64.le_iff_toInt_le, ← Int64.toInt_inj, Int32.toInt_toInt64, Int32.reduceToInt, Int64.reduceToInt] at t_19_2
      refine lv_iconst (v := (-1)) hx hb dX7_lay_22 (by decide) ?_
      refine kIret (u := (0, 0, 0, 0, (fun _ => 0), (fun _ => 0), (fun _ => 0), (fun _ => 0))) hx hb hr rfl hlocks hS dX7_lay_23 ?_ (hP.sub [0, 9, 10, 1, 2, 3, 4, 5, 6, 7, 8] rfl) (hD.sub [0, 9, 10, 1, 2, 3, 4, 5, 6, 7, 8] (by decide) rfl)
      first
        | exact (kif_t ⟨by decide, by omega⟩).symm
        | exact (kif_t (by omega)).symm
        | exact (kif_f (by omega)).symm
        | exact (kif_f (fun h => absurd h.2 (by omega))).symm
  · rw [hv]
    refine lv_astore (lv' := [(4, .ref t1), (0, .ref h0), (1, .int 1), (2, .long v)]) hx hb dX7_lay_8 hl (by decide) rfl (fun ls hl => ?_)
    refine lv_aload hx hb dX7_lay_10 (lv_at hl 0 rfl) ?_
    refine lv_ifnull hx hb dX7_lay_12 ?_
    refine lv_lload_n hx hb dX7_lay_15 rfl (lv_at hl 3 rfl) ?_
    refine kCallI (wr := [(h0, .inr (7, [.ref aS, .ref aA, .ref aU, .ref aX, .ref aW, .int 0, .int 0, .int 0, .int 0, .int 0, .long 0])), (t0, .inr (4, [.ref i0, .int 0, .int 0])), (t1, .inr (4, [.ref i1, .int 0, .int 0])), (t2, .inr (4, [.ref i2, .int 0, .int 0])), (t3, .inr (4, [.ref i3, .int 0, .int 0])), (i0, .inl (cL, 300, .inr (.inl (fun _ => 0)))), (i1, .inl (cL, 300, .inr (.inl (fun _ => 0)))), (i2, .inl (cL, 300, .inr (.inl (fun _ => 0)))), (i3, .inl (cL, 300, .inr (.inl (fun _ => 0)))), (aU, .inr (6, [.ref bT, .ref aD, .int 0, .int 0])), (bT, .inl (cT, 4, .inr (.inr (.inr (.inr (k4 t0 t1 t2 t3))))))]) (va_runS (As := [.long v]) (rest := []) ⟨hx, hb, hml, hown, hts⟩ (c_isItem l D cI cL cB cZ cT _ v) (va_cwS 1 hts gX7_lay_X7_isItem rfl rfl rfl (by decide +kernel) ⟨Nat.le_of_ble_eq_true rfl, Nat.le_of_ble_eq_true rfl⟩) (kPreS hG hP hD [] rfl (by decide)) rfl rfl hl.1 rfl (lv_room (Nat.le_of_ble_eq_true rfl)) dX7_lay_16 ⟨Nat.le_of_ble_eq_true rfl, Nat.le_of_ble_eq_true rfl⟩) hA hP hD hS [] [0, 1, 2, 3, 4, 5, 6, 7, 8, 9, 10] rfl rfl (by decide) (by decide) (fun r_6 u_r_6 H locs wr_6 hP hD hS => ?_)
    have hP : va_P D vwCl [(h0, .inr (7, [.ref aS, .ref aA, .ref aU, .ref aX, .ref aW, .int 0, .int 0, .int 0, .int 0, .int 0, .long 0])), (t0, .inr (4, [.ref i0, .int 0, .int 0])), (t1, .inr (4, [.ref i1, .int 0, .int 0])), (t2, .inr (4, [.ref i2, .int 0, .int 0])), (t3, .inr (4, [.ref i3, .int 0, .int 0])), (i0, .inl (cL, 300, .inr (.inl (fun _ => 0)))), (i1, .inl (cL, 300, .inr (.inl (fun _ => 0)))), (i2, .inl (cL, 300, .inr (.inl (fun _ => 0)))), (i3, .inl (cL, 300, .inr (.inl (fun _ => 0)))), (aU, .inr (6, [.ref bT, .ref aD, .int 0, .int 0])), (bT, .inl (cT, 4, .inr (.inr (.inr (.inr (k4 t0 t1 t2 t3))))))] H := hP
    have hD : va_D A [(h0, .inr (7, [.ref aS, .ref aA, .ref aU, .ref aX, .ref aW, .int 0, .int 0, .int 0, .int 0, .int 0, .long 0])), (t0, .inr (4, [.ref i0, .int 0, .int 0])), (t1, .inr (4, [.ref i1, .int 0, .int 0])), (t2, .inr (4, [.ref i2, .int 0, .int 0])), (t3, .inr (4, [.ref i3, .int 0, .int 0])), (i0, .inl (cL, 300, .inr (.inl (fun _ => 0)))), (i1, .inl (cL, 300, .inr (.inl (fun _ => 0)))), (i2, .inl (cL, 300, .inr (.inl (fun _ => 0)))), (i3, .inl (cL, 300, .inr (.inl (fun _ => 0)))), (aU, .inr (6, [.ref bT, .ref aD, .int 0, .int 0])), (bT, .inl (cT, 4, .inr (.inr (.inr (.inr (k4 t0 t1 t2 t3))))))] := hD
    try dsimp only at wr_6
    subst wr_6
    refine lv_if_ne (tgt := 24) hx hb dX7_lay_19 (by decide) (fun c_19_6 => ?_) (fun c_19_6 => ?_)
    · have t_19_6 := c_19_6
      try simp only [kb_eq0, kb_ne0, lg_cmp_lt, lg_cmp_le, lg_cmp_gt, lg_cmp_ge, lg_cmp_eq] at t_19_6
      try simp only [Int32.lt_iff_toInt_lt, Int32.le_iff_toInt_le, ← Int32.toInt_inj, Int64.lt_iff_toInt_lt, Int64.le_iff_toInt_le, ← Int64.toInt_inj, Int32.toInt_toInt64, Int32.reduceToInt, Int64.reduceToInt] at t_19_6
      refine lv_aload hx hb dX7_lay_24 (lv_at hl 0 rfl) ?_
      refine lv_lload_n hx hb dX7_lay_26 rfl (lv_at hl 3 rfl) ?_
      refine kCallI (wr := [(h0, .inr (7, [.ref aS, .ref aA, .ref aU, .ref aX, .ref aW, .int 0, .int 0, .int 0, .int 0, .int 0, .long 0])), (t0, .inr (4, [.ref i0, .int 0, .int 0])), (t2, .inr (4, [.ref i2, .int 0, .int 0])), (t3, .inr (4, [.ref i3, .int 0, .int 0])), (i0, .inl (cL, 300, .inr (.inl (fun _ => 0)))), (i2, .inl (cL, 300, .inr (.inl (fun _ => 0)))), (i3, .inl (cL, 300, .inr (.inl (fun _ => 0)))), (aU, .inr (6, [.ref bT, .ref aD, .int 0, .int 0])), (bT, .inl (cT, 4, .inr (.inr (.inr (.inr (k4 t0 t1 t2 t3))))))]) (va_runV (As := [.long v]) (rest := []) ⟨hx, hb, hml, hown, hts⟩ (c_addBehind l D cI cL cB cZ cT _ t1 i1 v) (cwV 1 hts gX7_lay_X4_addBehindAll rfl rfl rfl (by decide +kernel) ⟨Nat.le_of_ble_eq_true rfl, Nat.le_of_ble_eq_true rfl⟩) (kPreV hG hP hD [2, 6] rfl (by decide) 0 4 rfl rfl rfl) rfl rfl hl.1 rfl (lv_room (Nat.le_of_ble_eq_true rfl)) dX7_lay_27 ⟨Nat.le_of_ble_eq_true rfl, Nat.le_of_ble_eq_true rfl⟩) hA hP hD hS [2, 6] [0, 1, 3, 4, 5, 7, 8, 9, 10] rfl rfl (by decide) (by decide) (fun r_8 u_r_8 H locs wr_8 hP hD hS => ?_)
      have hP : va_P D vwCl [(h0, .inr (7, [.ref aS, .ref aA, .ref aU, .ref aX, .ref aW, .int 0, .int 0, .int 0, .int 0, .int 0, .long 0])), (t0, .inr (4, [.ref i0, .int 0, .int 0])), (t2, .inr (4, [.ref i2, .int 0, .int 0])), (t3, .inr (4, [.ref i3, .int 0, .int 0])), (i0, .inl (cL, 300, .inr (.inl (fun _ => 0)))), (i2, .inl (cL, 300, .inr (.inl (fun _ => 0)))), (i3, .inl (cL, 300, .inr (.inl (fun _ => 0)))), (aU, .inr (6, [.ref bT, .ref aD, .int 0, .int 0])), (bT, .inl (cT, 4, .inr (.inr (.inr (.inr (k4 t0 t1 t2 t3)))))), (t1, .inr (4, [.ref i1, .int 1, .int 0])), (i1, .inl (cL, 300, .inr (.inl u_r_8)))] H := hP
      have hD : va_D A [(h0, .inr (7, [.ref aS, .ref aA, .ref aU, .ref aX, .ref aW, .int 0, .int 0, .int 0, .int 0, .int 0, .long 0])), (t0, .inr (4, [.ref i0, .int 0, .int 0])), (t2, .inr (4, [.ref i2, .int 0, .int 0])), (t3, .inr (4, [.ref i3, .int 0, .int 0])), (i0, .inl (cL, 300, .inr (.inl (fun _ => 0)))), (i2, .inl (cL, 300, .inr (.inl (fun _ => 0)))), (i3, .inl (cL, 300, .inr (.inl (fun _ => 0)))), (aU, .inr (6, [.ref bT, .ref aD, .int 0, .int 0])), (bT, .inl (cT, 4, .inr (.inr (.inr (.inr (k4 t0 t1 t2 t3)))))), (t1, .inr (4, [.ref i1, .int 1, .int 0])), (i1, .inl (cL, 300, .inr (.inl u_r_8)))] := hD
      try dsimp only at wr_8
      subst wr_8
      refine lv_if_eq (tgt := 41) hx hb dX7_lay_30 (by decide) (fun c_30_8 => ?_) (fun c_30_8 => ?_)
      · exact absurd c_30_8 (by decide)
      · have t_30_8 := c_30_8
        try simp only [kb_eq0, kb_ne0, lg_cmp_lt, lg_cmp_le, lg_cmp_gt, lg_cmp_ge, lg_cmp_eq] at t_30_8
        try simp only [Int32.lt_iff_toInt_lt, Int32.le_iff_toInt_le, ← Int32.toInt_inj, Int64.lt_iff_toInt_lt, Int64.le_iff_toInt_le, ← Int64.toInt_inj, Int32.toInt_toInt64, Int32.reduceToInt, Int64.reduceToInt] at t_30_8
        refine lv_aload hx hb dX7_lay_33 (lv_at hl 0 rfl) ?_
        refine va_get (D := D) (ci := 4) (v := .int 1) (C := RX4) (T := TX4) (N := 3) hx hb hts iX7_lay_X4 hown hK hP 9 rfl rfl 1 (by decide) (hts (.fieldLink RX7 131 "TapeCalculator$Tape" "count" "I") (List.mem_of_getElem? (i := 2) rfl)) (fun _ h9 => h9) rfl dX7_lay_35 ?_
        refine lv_goto (tgt := 43) hx hb dX7_lay_38 (by decide) ?_
        refine kIret (u := (0, 1, 0, 0, (fun _ => 0), u_r_8, (fun _ => 0), (fun _ => 0))) hx hb hr rfl hlocks hS dX7_lay_43 ?_ (hP.sub [0, 7, 8, 1, 9, 2, 3, 4, 10, 5, 6] rfl) (hD.sub [0, 7, 8, 1, 9, 2, 3, 4, 10, 5, 6] (by decide) rfl)
        first
          | exact (kif_t ⟨by decide, by omega⟩).symm
          | exact (kif_t (by omega)).symm
          | exact (kif_f (by omega)).symm
          | exact (kif_f (fun h => absurd h.2 (by omega))).symm
    · have t_19_6 := c_19_6
      try simp only [kb_eq0, kb_ne0, lg_cmp_lt, lg_cmp_le, lg_cmp_gt, lg_cmp_ge, lg_cmp_eq] at t_19_6
      try simp only [Int32.lt_iff_toInt_lt, Int32.le_iff_toInt_le, ← Int32.toInt_inj, Int64.lt_iff_toInt_lt, Int64.le_iff_toInt_le, ← Int64.toInt_inj, Int32.toInt_toInt64, Int32.reduceToInt, Int64.reduceToInt] at t_19_6
      refine lv_iconst (v := (-1)) hx hb dX7_lay_22 (by decide) ?_
      refine kIret (u := (0, 0, 0, 0, (fun _ => 0), (fun _ => 0), (fun _ => 0), (fun _ => 0))) hx hb hr rfl hlocks hS dX7_lay_23 ?_ (hP.sub [0, 9, 10, 1, 2, 3, 4, 5, 6, 7, 8] rfl) (hD.sub [0, 9, 10, 1, 2, 3, 4, 5, 6, 7, 8] (by decide) rfl)
      first
        | exact (kif_t ⟨by decide, by omega⟩).symm
        | exact (kif_t (by omega)).symm
        | exact (kif_f (by omega)).symm
        | exact (kif_f (fun h => absurd h.2 (by omega))).symm
  · rw [hv]
    refine lv_astore (lv' := [(4, .ref t2), (0, .ref h0), (1, .int 2), (2, .long v)]) hx hb dX7_lay_8 hl (by decide) rfl (fun ls hl => ?_)
    refine lv_aload hx hb dX7_lay_10 (lv_at hl 0 rfl) ?_
    refine lv_ifnull hx hb dX7_lay_12 ?_
    refine lv_lload_n hx hb dX7_lay_15 rfl (lv_at hl 3 rfl) ?_
    refine kCallI (wr := [(h0, .inr (7, [.ref aS, .ref aA, .ref aU, .ref aX, .ref aW, .int 0, .int 0, .int 0, .int 0, .int 0, .long 0])), (t0, .inr (4, [.ref i0, .int 0, .int 0])), (t1, .inr (4, [.ref i1, .int 0, .int 0])), (t2, .inr (4, [.ref i2, .int 0, .int 0])), (t3, .inr (4, [.ref i3, .int 0, .int 0])), (i0, .inl (cL, 300, .inr (.inl (fun _ => 0)))), (i1, .inl (cL, 300, .inr (.inl (fun _ => 0)))), (i2, .inl (cL, 300, .inr (.inl (fun _ => 0)))), (i3, .inl (cL, 300, .inr (.inl (fun _ => 0)))), (aU, .inr (6, [.ref bT, .ref aD, .int 0, .int 0])), (bT, .inl (cT, 4, .inr (.inr (.inr (.inr (k4 t0 t1 t2 t3))))))]) (va_runS (As := [.long v]) (rest := []) ⟨hx, hb, hml, hown, hts⟩ (c_isItem l D cI cL cB cZ cT _ v) (va_cwS 1 hts gX7_lay_X7_isItem rfl rfl rfl (by decide +kernel) ⟨Nat.le_of_ble_eq_true rfl, Nat.le_of_ble_eq_true rfl⟩) (kPreS hG hP hD [] rfl (by decide)) rfl rfl hl.1 rfl (lv_room (Nat.le_of_ble_eq_true rfl)) dX7_lay_16 ⟨Nat.le_of_ble_eq_true rfl, Nat.le_of_ble_eq_true rfl⟩) hA hP hD hS [] [0, 1, 2, 3, 4, 5, 6, 7, 8, 9, 10] rfl rfl (by decide) (by decide) (fun r_10 u_r_10 H locs wr_10 hP hD hS => ?_)
    have hP : va_P D vwCl [(h0, .inr (7, [.ref aS, .ref aA, .ref aU, .ref aX, .ref aW, .int 0, .int 0, .int 0, .int 0, .int 0, .long 0])), (t0, .inr (4, [.ref i0, .int 0, .int 0])), (t1, .inr (4, [.ref i1, .int 0, .int 0])), (t2, .inr (4, [.ref i2, .int 0, .int 0])), (t3, .inr (4, [.ref i3, .int 0, .int 0])), (i0, .inl (cL, 300, .inr (.inl (fun _ => 0)))), (i1, .inl (cL, 300, .inr (.inl (fun _ => 0)))), (i2, .inl (cL, 300, .inr (.inl (fun _ => 0)))), (i3, .inl (cL, 300, .inr (.inl (fun _ => 0)))), (aU, .inr (6, [.ref bT, .ref aD, .int 0, .int 0])), (bT, .inl (cT, 4, .inr (.inr (.inr (.inr (k4 t0 t1 t2 t3))))))] H := hP
    have hD : va_D A [(h0, .inr (7, [.ref aS, .ref aA, .ref aU, .ref aX, .ref aW, .int 0, .int 0, .int 0, .int 0, .int 0, .long 0])), (t0, .inr (4, [.ref i0, .int 0, .int 0])), (t1, .inr (4, [.ref i1, .int 0, .int 0])), (t2, .inr (4, [.ref i2, .int 0, .int 0])), (t3, .inr (4, [.ref i3, .int 0, .int 0])), (i0, .inl (cL, 300, .inr (.inl (fun _ => 0)))), (i1, .inl (cL, 300, .inr (.inl (fun _ => 0)))), (i2, .inl (cL, 300, .inr (.inl (fun _ => 0)))), (i3, .inl (cL, 300, .inr (.inl (fun _ => 0)))), (aU, .inr (6, [.ref bT, .ref aD, .int 0, .int 0])), (bT, .inl (cT, 4, .inr (.inr (.inr (.inr (k4 t0 t1 t2 t3))))))] := hD
    try dsimp only at wr_10
    subst wr_10
    refine lv_if_ne (tgt := 24) hx hb dX7_lay_19 (by decide) (fun c_19_10 => ?_) (fun c_19_10 => ?_)
    · have t_19_10 := c_19_10
      try simp only [kb_eq0, kb_ne0, lg_cmp_lt, lg_cmp_le, lg_cmp_gt, lg_cmp_ge, lg_cmp_eq] at t_19_10
      try simp only [Int32.lt_iff_toInt_lt, Int32.le_iff_toInt_le, ← Int32.toInt_inj, Int64.lt_iff_toInt_lt, Int64.le_iff_toInt_le, ← Int64.toInt_inj, Int32.toInt_toInt64, Int32.reduceToInt, Int64.reduceToInt] at t_19_10
      refine lv_aload hx hb dX7_lay_24 (lv_at hl 0 rfl) ?_
      refine lv_lload_n hx hb dX7_lay_26 rfl (lv_at hl 3 rfl) ?_
      refine kCallI (wr := [(h0, .inr (7, [.ref aS, .ref aA, .ref aU, .ref aX, .ref aW, .int 0, .int 0, .int 0, .int 0, .int 0, .long 0])), (t0, .inr (4, [.ref i0, .int 0, .int 0])), (t1, .inr (4, [.ref i1, .int 0, .int 0])), (t3, .inr (4, [.ref i3, .int 0, .int 0])), (i0, .inl (cL, 300, .inr (.inl (fun _ => 0)))), (i1, .inl (cL, 300, .inr (.inl (fun _ => 0)))), (i3, .inl (cL, 300, .inr (.inl (fun _ => 0)))), (aU, .inr (6, [.ref bT, .ref aD, .int 0, .int 0])), (bT, .inl (cT, 4, .inr (.inr (.inr (.inr (k4 t0 t1 t2 t3))))))]) (va_runV (As := [.long v]) (rest := []) ⟨hx, hb, hml, hown, hts⟩ (c_addBehind l D cI cL cB cZ cT _ t2 i2 v) (cwV 1 hts gX7_lay_X4_addBehindAll rfl rfl rfl (by decide +kernel) ⟨Nat.le_of_ble_eq_true rfl, Nat.le_of_ble_eq_true rfl⟩) (kPreV hG hP hD [3, 7] rfl (by decide) 0 4 rfl rfl rfl) rfl rfl hl.1 rfl (lv_room (Nat.le_of_ble_eq_true rfl)) dX7_lay_27 ⟨Nat.le_of_ble_eq_true rfl, Nat.le_of_ble_eq_true rfl⟩) hA hP hD hS [3, 7] [0, 1, 2, 4, 5, 6, 8, 9, 10] rfl rfl (by decide) (by decide) (fun r_12 u_r_12 H locs wr_12 hP hD hS => ?_)
      have hP : va_P D vwCl [(h0, .inr (7, [.ref aS, .ref aA, .ref aU, .ref aX, .ref aW, .int 0, .int 0, .int 0, .int 0, .int 0, .long 0])), (t0, .inr (4, [.ref i0, .int 0, .int 0])), (t1, .inr (4, [.ref i1, .int 0, .int 0])), (t3, .inr (4, [.ref i3, .int 0, .int 0])), (i0, .inl (cL, 300, .inr (.inl (fun _ => 0)))), (i1, .inl (cL, 300, .inr (.inl (fun _ => 0)))), (i3, .inl (cL, 300, .inr (.inl (fun _ => 0)))), (aU, .inr (6, [.ref bT, .ref aD, .int 0, .int 0])), (bT, .inl (cT, 4, .inr (.inr (.inr (.inr (k4 t0 t1 t2 t3)))))), (t2, .inr (4, [.ref i2, .int 1, .int 0])), (i2, .inl (cL, 300, .inr (.inl u_r_12)))] H := hP
      have hD : va_D A [(h0, .inr (7, [.ref aS, .ref aA, .ref aU, .ref aX, .ref aW, .int 0, .int 0, .int 0, .int 0, .int 0, .long 0])), (t0, .inr (4, [.ref i0, .int 0, .int 0])), (t1, .inr (4, [.ref i1, .int 0, .int 0])), (t3, .inr (4, [.ref i3, .int 0, .int 0])), (i0, .inl (cL, 300, .inr (.inl (fun _ => 0)))), (i1, .inl (cL, 300, .inr (.inl (fun _ => 0)))), (i3, .inl (cL, 300, .inr (.inl (fun _ => 0)))), (aU, .inr (6, [.ref bT, .ref aD, .int 0, .int 0])), (bT, .inl (cT, 4, .inr (.inr (.inr (.inr (k4 t0 t1 t2 t3)))))), (t2, .inr (4, [.ref i2, .int 1, .int 0])), (i2, .inl (cL, 300, .inr (.inl u_r_12)))] := hD
      try dsimp only at wr_12
      subst wr_12
      refine lv_if_eq (tgt := 41) hx hb dX7_lay_30 (by decide) (fun c_30_12 => ?_) (fun c_30_12 => ?_)
      · exact absurd c_30_12 (by decide)
      · have t_30_12 := c_30_12
        try simp only [kb_eq0, kb_ne0, lg_cmp_lt, lg_cmp_le, lg_cmp_gt, lg_cmp_ge, lg_cmp_eq] at t_30_12
        try simp only [Int32.lt_iff_toInt_lt, Int32.le_iff_toInt_le, ← Int32.toInt_inj, Int64.lt_iff_toInt_lt, Int64.le_iff_toInt_le, ← Int64.toInt_inj, Int32.toInt_toInt64, Int32.reduceToInt, Int64.reduceToInt] at t_30_12
        refine lv_aload hx hb dX7_lay_33 (lv_at hl 0 rfl) ?_
        refine va_get (D := D) (ci := 4) (v := .int 1) (C := RX4) (T := TX4) (N := 3) hx hb hts iX7_lay_X4 hown hK hP 9 rfl rfl 1 (by decide) (hts (.fieldLink RX7 131 "TapeCalculator$Tape" "count" "I") (List.mem_of_getElem? (i := 2) rfl)) (fun _ h9 => h9) rfl dX7_lay_35 ?_
        refine lv_goto (tgt := 43) hx hb dX7_lay_38 (by decide) ?_
        refine kIret (u := (0, 0, 1, 0, (fun _ => 0), (fun _ => 0), u_r_12, (fun _ => 0))) hx hb hr rfl hlocks hS dX7_lay_43 ?_ (hP.sub [0, 7, 8, 1, 2, 9, 3, 4, 5, 10, 6] rfl) (hD.sub [0, 7, 8, 1, 2, 9, 3, 4, 5, 10, 6] (by decide) rfl)
        first
          | exact (kif_t ⟨by decide, by omega⟩).symm
          | exact (kif_t (by omega)).symm
          | exact (kif_f (by omega)).symm
          | exact (kif_f (fun h => absurd h.2 (by omega))).symm
    · have t_19_10 := c_19_10
      try simp only [kb_eq0, kb_ne0, lg_cmp_lt, lg_cmp_le, lg_cmp_gt, lg_cmp_ge, lg_cmp_eq] at t_19_10
      try simp only [Int32.lt_iff_toInt_lt, Int32.le_iff_toInt_le, ← Int32.toInt_inj, Int64.lt_iff_toInt_lt, Int64.le_iff_toInt_le, ← Int64.toInt_inj, Int32.toInt_toInt64, Int32.reduceToInt, Int64.reduceToInt] at t_19_10
      refine lv_iconst (v := (-1)) hx hb dX7_lay_22 (by decide) ?_
      refine kIret (u := (0, 0, 0, 0, (fun _ => 0), (fun _ => 0), (fun _ => 0), (fun _ => 0))) hx hb hr rfl hlocks hS dX7_lay_23 ?_ (hP.sub [0, 9, 10, 1, 2, 3, 4, 5, 6, 7, 8] rfl) (hD.sub [0, 9, 10, 1, 2, 3, 4, 5, 6, 7, 8] (by decide) rfl)
      first
        | exact (kif_t ⟨by decide, by omega⟩).symm
        | exact (kif_t (by omega)).symm
        | exact (kif_f (by omega)).symm
        | exact (kif_f (fun h => absurd h.2 (by omega))).symm
  · rw [hv]
    refine lv_astore (lv' := [(4, .ref t3), (0, .ref h0), (1, .int 3), (2, .long v)]) hx hb dX7_lay_8 hl (by decide) rfl (fun ls hl => ?_)
    refine lv_aload hx hb dX7_lay_10 (lv_at hl 0 rfl) ?_
    refine lv_ifnull hx hb dX7_lay_12 ?_
    refine lv_lload_n hx hb dX7_lay_15 rfl (lv_at hl 3 rfl) ?_
    refine kCallI (wr := [(h0, .inr (7, [.ref aS, .ref aA, .ref aU, .ref aX, .ref aW, .int 0, .int 0, .int 0, .int 0, .int 0, .long 0])), (t0, .inr (4, [.ref i0, .int 0, .int 0])), (t1, .inr (4, [.ref i1, .int 0, .int 0])), (t2, .inr (4, [.ref i2, .int 0, .int 0])), (t3, .inr (4, [.ref i3, .int 0, .int 0])), (i0, .inl (cL, 300, .inr (.inl (fun _ => 0)))), (i1, .inl (cL, 300, .inr (.inl (fun _ => 0)))), (i2, .inl (cL, 300, .inr (.inl (fun _ => 0)))), (i3, .inl (cL, 300, .inr (.inl (fun _ => 0)))), (aU, .inr (6, [.ref bT, .ref aD, .int 0, .int 0])), (bT, .inl (cT, 4, .inr (.inr (.inr (.inr (k4 t0 t1 t2 t3))))))]) (va_runS (As := [.long v]) (rest := []) ⟨hx, hb, hml, hown, hts⟩ (c_isItem l D cI cL cB cZ cT _ v) (va_cwS 1 hts gX7_lay_X7_isItem rfl rfl rfl (by decide +kernel) ⟨Nat.le_of_ble_eq_true rfl, Nat.le_of_ble_eq_true rfl⟩) (kPreS hG hP hD [] rfl (by decide)) rfl rfl hl.1 rfl (lv_room (Nat.le_of_ble_eq_true rfl)) dX7_lay_16 ⟨Nat.le_of_ble_eq_true rfl, Nat.le_of_ble_eq_true rfl⟩) hA hP hD hS [] [0, 1, 2, 3, 4, 5, 6, 7, 8, 9, 10] rfl rfl (by decide) (by decide) (fun r_14 u_r_14 H locs wr_14 hP hD hS => ?_)
    have hP : va_P D vwCl [(h0, .inr (7, [.ref aS, .ref aA, .ref aU, .ref aX, .ref aW, .int 0, .int 0, .int 0, .int 0, .int 0, .long 0])), (t0, .inr (4, [.ref i0, .int 0, .int 0])), (t1, .inr (4, [.ref i1, .int 0, .int 0])), (t2, .inr (4, [.ref i2, .int 0, .int 0])), (t3, .inr (4, [.ref i3, .int 0, .int 0])), (i0, .inl (cL, 300, .inr (.inl (fun _ => 0)))), (i1, .inl (cL, 300, .inr (.inl (fun _ => 0)))), (i2, .inl (cL, 300, .inr (.inl (fun _ => 0)))), (i3, .inl (cL, 300, .inr (.inl (fun _ => 0)))), (aU, .inr (6, [.ref bT, .ref aD, .int 0, .int 0])), (bT, .inl (cT, 4, .inr (.inr (.inr (.inr (k4 t0 t1 t2 t3))))))] H := hP
    have hD : va_D A [(h0, .inr (7, [.ref aS, .ref aA, .ref aU, .ref aX, .ref aW, .int 0, .int 0, .int 0, .int 0, .int 0, .long 0])), (t0, .inr (4, [.ref i0, .int 0, .int 0])), (t1, .inr (4, [.ref i1, .int 0, .int 0])), (t2, .inr (4, [.ref i2, .int 0, .int 0])), (t3, .inr (4, [.ref i3, .int 0, .int 0])), (i0, .inl (cL, 300, .inr (.inl (fun _ => 0)))), (i1, .inl (cL, 300, .inr (.inl (fun _ => 0)))), (i2, .inl (cL, 300, .inr (.inl (fun _ => 0)))), (i3, .inl (cL, 300, .inr (.inl (fun _ => 0)))), (aU, .inr (6, [.ref bT, .ref aD, .int 0, .int 0])), (bT, .inl (cT, 4, .inr (.inr (.inr (.inr (k4 t0 t1 t2 t3))))))] := hD
    try dsimp only at wr_14
    subst wr_14
    refine lv_if_ne (tgt := 24) hx hb dX7_lay_19 (by decide) (fun c_19_14 => ?_) (fun c_19_14 => ?_)
    · have t_19_14 := c_19_14
      try simp only [kb_eq0, kb_ne0, lg_cmp_lt, lg_cmp_le, lg_cmp_gt, lg_cmp_ge, lg_cmp_eq] at t_19_14
      try simp only [Int32.lt_iff_toInt_lt, Int32.le_iff_toInt_le, ← Int32.toInt_inj, Int64.lt_iff_toInt_lt, Int64.le_iff_toInt_le, ← Int64.toInt_inj, Int32.toInt_toInt64, Int32.reduceToInt, Int64.reduceToInt] at t_19_14
      refine lv_aload hx hb dX7_lay_24 (lv_at hl 0 rfl) ?_
      refine lv_lload_n hx hb dX7_lay_26 rfl (lv_at hl 3 rfl) ?_
      refine kCallI (wr := [(h0, .inr (7, [.ref aS, .ref aA, .ref aU, .ref aX, .ref aW, .int 0, .int 0, .int 0, .int 0, .int 0, .long 0])), (t0, .inr (4, [.ref i0, .int 0, .int 0])), (t1, .inr (4, [.ref i1, .int 0, .int 0])), (t2, .inr (4, [.ref i2, .int 0, .int 0])), (i0, .inl (cL, 300, .inr (.inl (fun _ => 0)))), (i1, .inl (cL, 300, .inr (.inl (fun _ => 0)))), (i2, .inl (cL, 300, .inr (.inl (fun _ => 0)))), (aU, .inr (6, [.ref bT, .ref aD, .int 0, .int 0])), (bT, .inl (cT, 4, .inr (.inr (.inr (.inr (k4 t0 t1 t2 t3))))))]) (va_runV (As := [.long v]) (rest := []) ⟨hx, hb, hml, hown, hts⟩ (c_addBehind l D cI cL cB cZ cT _ t3 i3 v) (cwV 1 hts gX7_lay_X4_addBehindAll rfl rfl rfl (by decide +kernel) ⟨Nat.le_of_ble_eq_true rfl, Nat.le_of_ble_eq_true rfl⟩) (kPreV hG hP hD [4, 8] rfl (by decide) 0 4 rfl rfl rfl) rfl rfl hl.1 rfl (lv_room (Nat.le_of_ble_eq_true rfl)) dX7_lay_27 ⟨Nat.le_of_ble_eq_true rfl, Nat.le_of_ble_eq_true rfl⟩) hA hP hD hS [4, 8] [0, 1, 2, 3, 5, 6, 7, 9, 10] rfl rfl (by decide) (by decide) (fun r_16 u_r_16 H locs wr_16 hP hD hS => ?_)
      have hP : va_P D vwCl [(h0, .inr (7, [.ref aS, .ref aA, .ref aU, .ref aX, .ref aW, .int 0, .int 0, .int 0, .int 0, .int 0, .long 0])), (t0, .inr (4, [.ref i0, .int 0, .int 0])), (t1, .inr (4, [.ref i1, .int 0, .int 0])), (t2, .inr (4, [.ref i2, .int 0, .int 0])), (i0, .inl (cL, 300, .inr (.inl (fun _ => 0)))), (i1, .inl (cL, 300, .inr (.inl (fun _ => 0)))), (i2, .inl (cL, 300, .inr (.inl (fun _ => 0)))), (aU, .inr (6, [.ref bT, .ref aD, .int 0, .int 0])), (bT, .inl (cT, 4, .inr (.inr (.inr (.inr (k4 t0 t1 t2 t3)))))), (t3, .inr (4, [.ref i3, .int 1, .int 0])), (i3, .inl (cL, 300, .inr (.inl u_r_16)))] H := hP
      have hD : va_D A [(h0, .inr (7, [.ref aS, .ref aA, .ref aU, .ref aX, .ref aW, .int 0, .int 0, .int 0, .int 0, .int 0, .long 0])), (t0, .inr (4, [.ref i0, .int 0, .int 0])), (t1, .inr (4, [.ref i1, .int 0, .int 0])), (t2, .inr (4, [.ref i2, .int 0, .int 0])), (i0, .inl (cL, 300, .inr (.inl (fun _ => 0)))), (i1, .inl (cL, 300, .inr (.inl (fun _ => 0)))), (i2, .inl (cL, 300, .inr (.inl (fun _ => 0)))), (aU, .inr (6, [.ref bT, .ref aD, .int 0, .int 0])), (bT, .inl (cT, 4, .inr (.inr (.inr (.inr (k4 t0 t1 t2 t3)))))), (t3, .inr (4, [.ref i3, .int 1, .int 0])), (i3, .inl (cL, 300, .inr (.inl u_r_16)))] := hD
      try dsimp only at wr_16
      subst wr_16
      refine lv_if_eq (tgt := 41) hx hb dX7_lay_30 (by decide) (fun c_30_16 => ?_) (fun c_30_16 => ?_)
      · exact absurd c_30_16 (by decide)
      · have t_30_16 := c_30_16
        try simp only [kb_eq0, kb_ne0, lg_cmp_lt, lg_cmp_le, lg_cmp_gt, lg_cmp_ge, lg_cmp_eq] at t_30_16
        try simp only [Int32.lt_iff_toInt_lt, Int32.le_iff_toInt_le, ← Int32.toInt_inj, Int64.lt_iff_toInt_lt, Int64.le_iff_toInt_le, ← Int64.toInt_inj, Int32.toInt_toInt64, Int32.reduceToInt, Int64.reduceToInt] at t_30_16
        refine lv_aload hx hb dX7_lay_33 (lv_at hl 0 rfl) ?_
        refine va_get (D := D) (ci := 4) (v := .int 1) (C := RX4) (T := TX4) (N := 3) hx hb hts iX7_lay_X4 hown hK hP 9 rfl rfl 1 (by decide) (hts (.fieldLink RX7 131 "TapeCalculator$Tape" "count" "I") (List.mem_of_getElem? (i := 2) rfl)) (fun _ h9 => h9) rfl dX7_lay_35 ?_
        refine lv_goto (tgt := 43) hx hb dX7_lay_38 (by decide) ?_
        refine kIret (u := (0, 0, 0, 1, (fun _ => 0), (fun _ => 0), (fun _ => 0), u_r_16)) hx hb hr rfl hlocks hS dX7_lay_43 ?_ (hP.sub [0, 7, 8, 1, 2, 3, 9, 4, 5, 6, 10] rfl) (hD.sub [0, 7, 8, 1, 2, 3, 9, 4, 5, 6, 10] (by decide) rfl)
        first
          | exact (kif_t ⟨by decide, by omega⟩).symm
          | exact (kif_t (by omega)).symm
          | exact (kif_f (by omega)).symm
          | exact (kif_f (fun h => absurd h.2 (by omega))).symm
    · have t_19_14 := c_19_14
      try simp only [kb_eq0, kb_ne0, lg_cmp_lt, lg_cmp_le, lg_cmp_gt, lg_cmp_ge, lg_cmp_eq] at t_19_14
      try simp only [Int32.lt_iff_toInt_lt, Int32.le_iff_toInt_le, ← Int32.toInt_inj, Int64.lt_iff_toInt_lt, Int64.le_iff_toInt_le, ← Int64.toInt_inj, Int32.toInt_toInt64, Int32.reduceToInt, Int64.reduceToInt] at t_19_14
      refine lv_iconst (v := (-1)) hx hb dX7_lay_22 (by decide) ?_
      refine kIret (u := (0, 0, 0, 0, (fun _ => 0), (fun _ => 0), (fun _ => 0), (fun _ => 0))) hx hb hr rfl hlocks hS dX7_lay_23 ?_ (hP.sub [0, 9, 10, 1, 2, 3, 4, 5, 6, 7, 8] rfl) (hD.sub [0, 9, 10, 1, 2, 3, 4, 5, 6, 7, 8] (by decide) rfl)
      first
        | exact (kif_t ⟨by decide, by omega⟩).symm
        | exact (kif_t (by omega)).symm
        | exact (kif_f (by omega)).symm
        | exact (kif_f (fun h => absurd h.2 (by omega))).symm
set_option maxRecDepth 100000 in
theorem iX7_stands_X7 : ∀ w ∈ wsX70, w ∈ wsX7_stands := fun w h => (goodIn_r (big := wsX7_stands) wsX70 [9, 10, 11, 12, 13, 14, 15, 16, 17, 18, 19] rfl (by decide +kernel) w h).1
set_option maxRecDepth 100000 in
theorem iX7_stands_X4 : ∀ w ∈ wsX40, w ∈ wsX7_stands := fun w h => (goodIn_r (big := wsX7_stands) wsX40 [20, 21, 22] rfl (by decide +kernel) w h).1
set_option maxRecDepth 100000 in
set_option maxHeartbeats 4000000 in
theorem c_stands (l : Launch) (D : va_G) (cI cL cB cZ cT : ClassId) (sz : Nat) (h0 aS aA aU aX aW : Nat) (bT aD : Nat) (t0 t1 t2 t3 i0 i1 i2 i3 : Nat) (tt : Int32) : kM (S := Unit) l yX7_stands wsX7_stands ({ frames := 1, cells := 0, slots := 0, locals := 21 }) D (kT cI cL cB cZ cT) [.ref h0, .int tt] [(h0, .inr (7, [.ref aS, .ref aA, .ref aU, .ref aX, .ref aW, .int 0, .int 0, .int 0, .int 0, .int 0, .long 0])), (aU, .inr (6, [.ref bT, .ref aD, .int 0, .int 0])), (bT, .inl (cT, 4, .inr (.inr (.inr (.inr (k4 t0 t1 t2 t3)))))), (t0, .inr (4, [.ref i0, .int 0, .int 0])), (t1, .inr (4, [.ref i1, .int 0, .int 0])), (t2, .inr (4, [.ref i2, .int 0, .int 0])), (t3, .inr (4, [.ref i3, .int 0, .int 0])), (i0, .inl (cL, 300, .inr (.inl (fun _ => 0)))), (i1, .inl (cL, 300, .inr (.inl (fun _ => 0)))), (i2, .inl (cL, 300, .inr (.inl (fun _ => 0)))), (i3, .inl (cL, 300, .inr (.inl (fun _ => 0))))] sz eI (fun r _ => r = (kif (0 ≤ tt.toInt ∧ tt.toInt ≤ 3) 0 (-1))) (fun _ => [(h0, .inr (7, [.ref aS, .ref aA, .ref aU, .ref aX, .ref aW, .int 0, .int 0, .int 0, .int 0, .int 0, .long 0])), (aU, .inr (6, [.ref bT, .ref aD, .int 0, .int 0])), (bT, .inl (cT, 4, .inr (.inr (.inr (.inr (k4 t0 t1 t2 t3)))))), (t0, .inr (4, [.ref i0, .int 0, .int 0])), (t1, .inr (4, [.ref i1, .int 0, .int 0])), (t2, .inr (4, [.ref i2, .int 0, .int 0])), (t3, .inr (4, [.ref i3, .int 0, .int 0])), (i0, .inl (cL, 300, .inr (.inl (fun _ => 0)))), (i1, .inl (cL, 300, .inr (.inl (fun _ => 0)))), (i2, .inl (cL, 300, .inr (.inl (fun _ => 0)))), (i3, .inl (cL, 300, .inr (.inl (fun _ => 0))))]) 0 0 := by
  refine kStart (cc := cX7_stands) (maxL := 3) (ret := (some .int)) (own := RX7) (by decide) rfl rfl (Nat.le_of_ble_eq_true rfl) ?_
  intro p e s m args below meth c A ls hx hb hr hml hown hts hlocks hnm hsz hA hG hP hD hS hl
  have hK := hG.1
  have hl : lv_has ls 3 [(0, .ref h0), (1, .int tt)] := hl
  refine lv_aload_n hx hb dX7_stands_0 rfl (lv_at hl 0 rfl) ?_
  refine va_get (D := D) (ci := 7) (v := .ref aU) (C := RX7) (T := TX7) (N := 11) hx hb hts iX7_stands_X7 hown hK hP 0 rfl rfl 2 (by decide) (hts (.fieldLink RX7 26 "TapeCalculator" "units" "LTapeCalculator$Units;") (List.mem_of_getElem? (i := 1) rfl)) (fun _ h9 => h9) rfl dX7_stands_1 ?_
  refine lv_iload_n hx hb dX7_stands_4 rfl (lv_at hl 1 rfl) ?_
  refine kCallR (wr := [(h0, .inr (7, [.ref aS, .ref aA, .ref aU, .ref aX, .ref aW, .int 0, .int 0, .int 0, .int 0, .int 0, .long 0])), (t0, .inr (4, [.ref i0, .int 0, .int 0])), (t1, .inr (4, [.ref i1, .int 0, .int 0])), (t2, .inr (4, [.ref i2, .int 0, .int 0])), (t3, .inr (4, [.ref i3, .int 0, .int 0])), (i0, .inl (cL, 300, .inr (.inl (fun _ => 0)))), (i1, .inl (cL, 300, .inr (.inl (fun _ => 0)))), (i2, .inl (cL, 300, .inr (.inl (fun _ => 0)))), (i3, .inl (cL, 300, .inr (.inl (fun _ => 0))))]) (va_runV (As := [.int tt]) (rest := []) ⟨hx, hb, hml, hown, hts⟩ (c_tapeAt l D cI cL cB cZ cT _ aU bT aD 0 0 (k4 t0 t1 t2 t3) tt) (cwV 1 hts gX7_stands_X6_tapeAt rfl rfl rfl (by decide +kernel) ⟨Nat.le_of_ble_eq_true rfl, Nat.le_of_ble_eq_true rfl⟩) (kPreV hG hP hD [1, 2] rfl (by decide) 0 6 rfl rfl rfl) rfl rfl hl.1 rfl (lv_room (Nat.le_of_ble_eq_true rfl)) dX7_stands_5 ⟨Nat.le_of_ble_eq_true rfl, Nat.le_of_ble_eq_true rfl⟩) hA hP hD hS [1, 2] [0, 3, 4, 5, 6, 7, 8, 9, 10] rfl rfl (by decide) (by decide) (fun r_1 u_r_1 H locs wr_1 hP hD hS => ?_)
  have hP : va_P D vwCl [(h0, .inr (7, [.ref aS, .ref aA, .ref aU, .ref aX, .ref aW, .int 0, .int 0, .int 0, .int 0, .int 0, .long 0])), (t0, .inr (4, [.ref i0, .int 0, .int 0])), (t1, .inr (4, [.ref i1, .int 0, .int 0])), (t2, .inr (4, [.ref i2, .int 0, .int 0])), (t3, .inr (4, [.ref i3, .int 0, .int 0])), (i0, .inl (cL, 300, .inr (.inl (fun _ => 0)))), (i1, .inl (cL, 300, .inr (.inl (fun _ => 0)))), (i2, .inl (cL, 300, .inr (.inl (fun _ => 0)))), (i3, .inl (cL, 300, .inr (.inl (fun _ => 0)))), (aU, .inr (6, [.ref bT, .ref aD, .int 0, .int 0])), (bT, .inl (cT, 4, .inr (.inr (.inr (.inr (k4 t0 t1 t2 t3))))))] H := hP
  have hD : va_D A [(h0, .inr (7, [.ref aS, .ref aA, .ref aU, .ref aX, .ref aW, .int 0, .int 0, .int 0, .int 0, .int 0, .long 0])), (t0, .inr (4, [.ref i0, .int 0, .int 0])), (t1, .inr (4, [.ref i1, .int 0, .int 0])), (t2, .inr (4, [.ref i2, .int 0, .int 0])), (t3, .inr (4, [.ref i3, .int 0, .int 0])), (i0, .inl (cL, 300, .inr (.inl (fun _ => 0)))), (i1, .inl (cL, 300, .inr (.inl (fun _ => 0)))), (i2, .inl (cL, 300, .inr (.inl (fun _ => 0)))), (i3, .inl (cL, 300, .inr (.inl (fun _ => 0)))), (aU, .inr (6, [.ref bT, .ref aD, .int 0, .int 0])), (bT, .inl (cT, 4, .inr (.inr (.inr (.inr (k4 t0 t1 t2 t3))))))] := hD
  try dsimp only at wr_1
  subst wr_1
  rcases kTp_c t0 t1 t2 t3 tt with ⟨hsw, hv⟩ | ⟨rfl, hv⟩ | ⟨rfl, hv⟩ | ⟨rfl, hv⟩ | ⟨rfl, hv⟩
  · rw [hv]
    refine lv_astore_nN (lv' := [(2, .null), (0, .ref h0), (1, .int tt)]) hx hb dX7_stands_8 rfl hl (by decide) rfl (fun ls hl => ?_)
    refine lv_aload_nN hx hb dX7_stands_9 rfl (lv_at hl 0 rfl) ?_
    refine lv_ifnonnullN hx hb dX7_stands_10 ?_
    refine lv_iconst (v := (-1)) hx hb dX7_stands_13 (by decide) ?_
    refine lv_goto (tgt := 21) hx hb dX7_stands_14 (by decide) ?_
    refine kIret (u := ()) hx hb hr rfl hlocks hS dX7_stands_21 ?_ (hP.sub [0, 9, 10, 1, 2, 3, 4, 5, 6, 7, 8] rfl) (hD.sub [0, 9, 10, 1, 2, 3, 4, 5, 6, 7, 8] (by decide) rfl)
    first
      | exact (kif_t (by decide)).symm
      | exact (kif_t (by omega)).symm
      | exact (kif_f (by omega)).symm
  · rw [hv]
    refine lv_astore_n (lv' := [(2, .ref t0), (0, .ref h0), (1, .int 0)]) hx hb dX7_stands_8 rfl hl (by decide) rfl (fun ls hl => ?_)
    refine lv_aload_n hx hb dX7_stands_9 rfl (lv_at hl 0 rfl) ?_
    refine lv_ifnonnull (tgt := 17) hx hb dX7_stands_10 (by decide) ?_
    refine lv_aload_n hx hb dX7_stands_17 rfl (lv_at hl 0 rfl) ?_
    refine va_get (D := D) (ci := 4) (v := .int 0) (C := RX4) (T := TX4) (N := 3) hx hb hts iX7_stands_X4 hown hK hP 1 rfl rfl 2 (by decide) (hts (.fieldLink RX7 134 "TapeCalculator$Tape" "at" "I") (List.mem_of_getElem? (i := 2) rfl)) (fun _ h9 => h9) rfl dX7_stands_18 ?_
    refine kIret (u := ()) hx hb hr rfl hlocks hS dX7_stands_21 ?_ (hP.sub [0, 9, 10, 1, 2, 3, 4, 5, 6, 7, 8] rfl) (hD.sub [0, 9, 10, 1, 2, 3, 4, 5, 6, 7, 8] (by decide) rfl)
    first
      | exact (kif_t (by decide)).symm
      | exact (kif_t (by omega)).symm
      | exact (kif_f (by omega)).symm
  · rw [hv]
    refine lv_astore_n (lv' := [(2, .ref t1), (0, .ref h0), (1, .int 1)]) hx hb dX7_stands_8 rfl hl (by decide) rfl (fun ls hl => ?_)
    refine lv_aload_n hx hb dX7_stands_9 rfl (lv_at hl 0 rfl) ?_
    refine lv_ifnonnull (tgt := 17) hx hb dX7_stands_10 (by decide) ?_
    refine lv_aload_n hx hb dX7_stands_17 rfl (lv_at hl 0 rfl) ?_
    refine va_get (D := D) (ci := 4) (v := .int 0) (C := RX4) (T := TX4) (N := 3) hx hb hts iX7_stands_X4 hown hK hP 2 rfl rfl 2 (by decide) (hts (.fieldLink RX7 134 "TapeCalculator$Tape" "at" "I") (List.mem_of_getElem? (i := 2) rfl)) (fun _ h9 => h9) rfl dX7_stands_18 ?_
    refine kIret (u := ()) hx hb hr rfl hlocks hS dX7_stands_21 ?_ (hP.sub [0, 9, 10, 1, 2, 3, 4, 5, 6, 7, 8] rfl) (hD.sub [0, 9, 10, 1, 2, 3, 4, 5, 6, 7, 8] (by decide) rfl)
    first
      | exact (kif_t (by decide)).symm
      | exact (kif_t (by omega)).symm
      | exact (kif_f (by omega)).symm
  · rw [hv]
    refine lv_astore_n (lv' := [(2, .ref t2), (0, .ref h0), (1, .int 2)]) hx hb dX7_stands_8 rfl hl (by decide) rfl (fun ls hl => ?_)
    refine lv_aload_n hx hb dX7_stands_9 rfl (lv_at hl 0 rfl) ?_
    refine lv_ifnonnull (tgt := 17) hx hb dX7_stands_10 (by decide) ?_
    refine lv_aload_n hx hb dX7_stands_17 rfl (lv_at hl 0 rfl) ?_
    refine va_get (D := D) (ci := 4) (v := .int 0) (C := RX4) (T := TX4) (N := 3) hx hb hts iX7_stands_X4 hown hK hP 3 rfl rfl 2 (by decide) (hts (.fieldLink RX7 134 "TapeCalculator$Tape" "at" "I") (List.mem_of_getElem? (i := 2) rfl)) (fun _ h9 => h9) rfl dX7_stands_18 ?_
    refine kIret (u := ()) hx hb hr rfl hlocks hS dX7_stands_21 ?_ (hP.sub [0, 9, 10, 1, 2, 3, 4, 5, 6, 7, 8] rfl) (hD.sub [0, 9, 10, 1, 2, 3, 4, 5, 6, 7, 8] (by decide) rfl)
    first
      | exact (kif_t (by decide)).symm
      | exact (kif_t (by omega)).symm
      | exact (kif_f (by omega)).symm
  · rw [hv]
    refine lv_astore_n (lv' := [(2, .ref t3), (0, .ref h0), (1, .int 3)]) hx hb dX7_stands_8 rfl hl (by decide) rfl (fun ls hl => ?_)
    refine lv_aload_n hx hb dX7_stands_9 rfl (lv_at hl 0 rfl) ?_
    refine lv_ifnonnull (tgt := 17) hx hb dX7_stands_10 (by decide) ?_
    refine lv_aload_n hx hb dX7_stands_17 rfl (lv_at hl 0 rfl) ?_
    refine va_get (D := D) (ci := 4) (v := .int 0) (C := RX4) (T := TX4) (N := 3) hx hb hts iX7_stands_X4 hown hK hP 4 rfl rfl 2 (by decide) (hts (.fieldLink RX7 134 "TapeCalculator$Tape" "at" "I") (List.mem_of_getElem? (i := 2) rfl)) (fun _ h9 => h9) rfl dX7_stands_18 ?_
    refine kIret (u := ()) hx hb hr rfl hlocks hS dX7_stands_21 ?_ (hP.sub [0, 9, 10, 1, 2, 3, 4, 5, 6, 7, 8] rfl) (hD.sub [0, 9, 10, 1, 2, 3, 4, 5, 6, 7, 8] (by decide) rfl)
    first
      | exact (kif_t (by decide)).symm
      | exact (kif_t (by omega)).symm
      | exact (kif_f (by omega)).symm
set_option maxRecDepth 100000 in
theorem iX4_clear_X4 : ∀ w ∈ wsX40, w ∈ wsX4_clear := fun w h => (goodIn_r (big := wsX4_clear) wsX40 [3, 4, 5] rfl (by decide +kernel) w h).1
set_option maxRecDepth 100000 in
set_option maxHeartbeats 4000000 in
theorem c_clear (l : Launch) (D : va_G) (cI cL cB cZ cT : ClassId) (sz : Nat) (t0 i0 : Nat) : kM (S := Unit) l yX4_clear wsX4_clear ({ frames := 0, cells := 0, slots := 0, locals := 0 }) D (kT cI cL cB cZ cT) [.ref t0] [(t0, .inr (4, [.ref i0, .int 0, .int 0]))] sz eV (fun _ _ => True) (fun _ => [(t0, .inr (4, [.ref i0, .int 0, .int 0]))]) 0 0 := by
  refine kStart (cc := cX4_clear) (maxL := 1) (ret := none) (own := RX4) (by decide) rfl rfl (Nat.le_of_ble_eq_true rfl) ?_
  intro p e s m args below meth c A ls hx hb hr hml hown hts hlocks hnm hsz hA hG hP hD hS hl
  have hK := hG.1
  have hl : lv_has ls 1 [(0, .ref t0)] := hl
  refine lv_aload_n hx hb dX4_clear_0 rfl (lv_at hl 0 rfl) ?_
  refine lv_iconst (v := 0) hx hb dX4_clear_1 (by decide) ?_
  refine va_put (D := D) (ci := 4) (v := .int 0) (ty := .int) (C := RX4) (T := TX4) (N := 3) hx hb hts iX4_clear_X4 tyX4 tyX4_ok nmX4 hown hK hP hD hS 0 rfl rfl 1 (by decide) (hts (.fieldLink RX4 15 "TapeCalculator$Tape" "count" "I") (List.mem_of_getElem? (i := 1) rfl)) (fun _ h9 => h9) rfl (by decide +kernel) rfl rfl (Nat.le_of_ble_eq_true rfl) dX4_clear_2 (fun H locs hP hD hS => ?_)
  have hP : va_P D vwCl [(t0, .inr (4, [.ref i0, .int 0, .int 0]))] H := hP
  have hD : va_D A [(t0, .inr (4, [.ref i0, .int 0, .int 0]))] := hD
  refine lv_aload_n hx hb dX4_clear_5 rfl (lv_at hl 0 rfl) ?_
  refine lv_iconst (v := 0) hx hb dX4_clear_6 (by decide) ?_
  refine va_put (D := D) (ci := 4) (v := .int 0) (ty := .int) (C := RX4) (T := TX4) (N := 3) hx hb hts iX4_clear_X4 tyX4 tyX4_ok nmX4 hown hK hP hD hS 0 rfl rfl 2 (by decide) (hts (.fieldLink RX4 21 "TapeCalculator$Tape" "at" "I") (List.mem_of_getElem? (i := 2) rfl)) (fun _ h9 => h9) rfl (by decide +kernel) rfl rfl (Nat.le_of_ble_eq_true rfl) dX4_clear_7 (fun H locs hP hD hS => ?_)
  have hP : va_P D vwCl [(t0, .inr (4, [.ref i0, .int 0, .int 0]))] H := hP
  have hD : va_D A [(t0, .inr (4, [.ref i0, .int 0, .int 0]))] := hD
  refine kVret (u := ()) hx hb hr hlocks hS dX4_clear_10 ?_ (hP.sub [0] rfl) (hD.sub [0] (by decide) rfl)
  exact trivial
set_option maxRecDepth 100000 in
theorem iX6_clearTape_X4 : ∀ w ∈ wsX40, w ∈ wsX6_clearTape := fun w h => (goodIn_r (big := wsX6_clearTape) wsX40 [17, 18, 19] rfl (by decide +kernel) w h).1
set_option maxRecDepth 100000 in
theorem iX6_clearTape_X6 : ∀ w ∈ wsX60, w ∈ wsX6_clearTape := fun w h => (goodIn_r (big := wsX6_clearTape) wsX60 [20, 21, 22, 23] rfl (by decide +kernel) w h).1
set_option maxRecDepth 100000 in
set_option maxHeartbeats 4000000 in
theorem c_clearTape (l : Launch) (D : va_G) (cI cL cB cZ cT : ClassId) (sz : Nat) (aU bT aD : Nat) (t0 t1 t2 t3 i0 i1 i2 i3 : Nat) (tt : Int32) : kM (S := Unit) l yX6_clearTape wsX6_clearTape ({ frames := 1, cells := 0, slots := 0, locals := 21 }) D (kT cI cL cB cZ cT) [.ref aU, .int tt] [(aU, .inr (6, [.ref bT, .ref aD, .int 0, .int 0])), (bT, .inl (cT, 4, .inr (.inr (.inr (.inr (k4 t0 t1 t2 t3)))))), (t0, .inr (4, [.ref i0, .int 0, .int 0])), (t1, .inr (4, [.ref i1, .int 0, .int 0])), (t2, .inr (4, [.ref i2, .int 0, .int 0])), (t3, .inr (4, [.ref i3, .int 0, .int 0])), (i0, .inl (cL, 300, .inr (.inl (fun _ => 0)))), (i1, .inl (cL, 300, .inr (.inl (fun _ => 0)))), (i2, .inl (cL, 300, .inr (.inl (fun _ => 0)))), (i3, .inl (cL, 300, .inr (.inl (fun _ => 0))))] sz eI (fun r _ => r = (kif (0 ≤ tt.toInt ∧ tt.toInt ≤ 3) 0 (-1))) (fun _ => [(aU, .inr (6, [.ref bT, .ref aD, .int 0, .int 0])), (bT, .inl (cT, 4, .inr (.inr (.inr (.inr (k4 t0 t1 t2 t3)))))), (t0, .inr (4, [.ref i0, .int 0, .int 0])), (t1, .inr (4, [.ref i1, .int 0, .int 0])), (t2, .inr (4, [.ref i2, .int 0, .int 0])), (t3, .inr (4, [.ref i3, .int 0, .int 0])), (i0, .inl (cL, 300, .inr (.inl (fun _ => 0)))), (i1, .inl (cL, 300, .inr (.inl (fun _ => 0)))), (i2, .inl (cL, 300, .inr (.inl (fun _ => 0)))), (i3, .inl (cL, 300, .inr (.inl (fun _ => 0))))]) 0 0 := by
  refine kStart (cc := cX6_clearTape) (maxL := 4) (ret := (some .int)) (own := RX6) (by decide) rfl rfl (Nat.le_of_ble_eq_true rfl) ?_
  intro p e s m args below meth c A ls hx hb hr hml hown hts hlocks hnm hsz hA hG hP hD hS hl
  have hK := hG.1
  have hl : lv_has ls 4 [(0, .ref aU), (1, .int tt)] := hl
  refine lv_aload_n hx hb dX6_clearTape_0 rfl (lv_at hl 0 rfl) ?_
  refine lv_iload_n hx hb dX6_clearTape_1 rfl (lv_at hl 1 rfl) ?_
  refine kCallR (wr := [(t0, .inr (4, [.ref i0, .int 0, .int 0])), (t1, .inr (4, [.ref i1, .int 0, .int 0])), (t2, .inr (4, [.ref i2, .int 0, .int 0])), (t3, .inr (4, [.ref i3, .int 0, .int 0])), (i0, .inl (cL, 300, .inr (.inl (fun _ => 0)))), (i1, .inl (cL, 300, .inr (.inl (fun _ => 0)))), (i2, .inl (cL, 300, .inr (.inl (fun _ => 0)))), (i3, .inl (cL, 300, .inr (.inl (fun _ => 0))))]) (va_runV (As := [.int tt]) (rest := []) ⟨hx, hb, hml, hown, hts⟩ (c_tapeAt l D cI cL cB cZ cT _ aU bT aD 0 0 (k4 t0 t1 t2 t3) tt) (cwV 1 hts gX6_clearTape_X6_tapeAt rfl rfl rfl (by decide +kernel) ⟨Nat.le_of_ble_eq_true rfl, Nat.le_of_ble_eq_true rfl⟩) (kPreV hG hP hD [0, 1] rfl (by decide) 0 6 rfl rfl rfl) rfl rfl hl.1 rfl (lv_room (Nat.le_of_ble_eq_true rfl)) dX6_clearTape_2 ⟨Nat.le_of_ble_eq_true rfl, Nat.le_of_ble_eq_true rfl⟩) hA hP hD hS [0, 1] [2, 3, 4, 5, 6, 7, 8, 9] rfl rfl (by decide) (by decide) (fun r_1 u_r_1 H locs wr_1 hP hD hS => ?_)
  have hP : va_P D vwCl [(t0, .inr (4, [.ref i0, .int 0, .int 0])), (t1, .inr (4, [.ref i1, .int 0, .int 0])), (t2, .inr (4, [.ref i2, .int 0, .int 0])), (t3, .inr (4, [.ref i3, .int 0, .int 0])), (i0, .inl (cL, 300, .inr (.inl (fun _ => 0)))), (i1, .inl (cL, 300, .inr (.inl (fun _ => 0)))), (i2, .inl (cL, 300, .inr (.inl (fun _ => 0)))), (i3, .inl (cL, 300, .inr (.inl (fun _ => 0)))), (aU, .inr (6, [.ref bT, .ref aD, .int 0, .int 0])), (bT, .inl (cT, 4, .inr (.inr (.inr (.inr (k4 t0 t1 t2 t3))))))] H := hP
  have hD : va_D A [(t0, .inr (4, [.ref i0, .int 0, .int 0])), (t1, .inr (4, [.ref i1, .int 0, .int 0])), (t2, .inr (4, [.ref i2, .int 0, .int 0])), (t3, .inr (4, [.ref i3, .int 0, .int 0])), (i0, .inl (cL, 300, .inr (.inl (fun _ => 0)))), (i1, .inl (cL, 300, .inr (.inl (fun _ => 0)))), (i2, .inl (cL, 300, .inr (.inl (fun _ => 0)))), (i3, .inl (cL, 300, .inr (.inl (fun _ => 0)))), (aU, .inr (6, [.ref bT, .ref aD, .int 0, .int 0])), (bT, .inl (cT, 4, .inr (.inr (.inr (.inr (k4 t0 t1 t2 t3))))))] := hD
  try dsimp only at wr_1
  subst wr_1
  rcases kTp_c t0 t1 t2 t3 tt with ⟨hsw, hv⟩ | ⟨rfl, hv⟩ | ⟨rfl, hv⟩ | ⟨rfl, hv⟩ | ⟨rfl, hv⟩
  · rw [hv]
    refine lv_astore_nN (lv' := [(2, .null), (0, .ref aU), (1, .int tt)]) hx hb dX6_clearTape_5 rfl hl (by decide) rfl (fun ls hl => ?_)
    refine lv_aload_nN hx hb dX6_clearTape_6 rfl (lv_at hl 0 rfl) ?_
    refine lv_ifnonnullN hx hb dX6_clearTape_7 ?_
    refine lv_iconst (v := (-1)) hx hb dX6_clearTape_10 (by decide) ?_
    refine kIret (u := ()) hx hb hr rfl hlocks hS dX6_clearTape_11 ?_ (hP.sub [8, 9, 0, 1, 2, 3, 4, 5, 6, 7] rfl) (hD.sub [8, 9, 0, 1, 2, 3, 4, 5, 6, 7] (by decide) rfl)
    first
      | exact (kif_t (by decide)).symm
      | exact (kif_t (by omega)).symm
      | exact (kif_f (by omega)).symm
  · rw [hv]
    refine lv_astore_n (lv' := [(2, .ref t0), (0, .ref aU), (1, .int 0)]) hx hb dX6_clearTape_5 rfl hl (by decide) rfl (fun ls hl => ?_)
    refine lv_aload_n hx hb dX6_clearTape_6 rfl (lv_at hl 0 rfl) ?_
    refine lv_ifnonnull (tgt := 12) hx hb dX6_clearTape_7 (by decide) ?_
    refine lv_aload_n hx hb dX6_clearTape_12 rfl (lv_at hl 0 rfl) ?_
    refine va_get (D := D) (ci := 4) (v := .int 0) (C := RX4) (T := TX4) (N := 3) hx hb hts iX6_clearTape_X4 hown hK hP 0 rfl rfl 1 (by decide) (hts (.fieldLink RX6 29 "TapeCalculator$Tape" "count" "I") (List.mem_of_getElem? (i := 1) rfl)) (fun _ h9 => h9) rfl dX6_clearTape_13 ?_
    refine lv_istore_n (lv' := [(3, .int 0), (2, .ref t0), (0, .ref aU), (1, .int 0)]) hx hb dX6_clearTape_16 rfl hl (by decide) rfl (fun ls hl => ?_)
    refine lv_aload_n hx hb dX6_clearTape_17 rfl (lv_at hl 1 rfl) ?_
    refine kCallVd (wr := [(t1, .inr (4, [.ref i1, .int 0, .int 0])), (t2, .inr (4, [.ref i2, .int 0, .int 0])), (t3, .inr (4, [.ref i3, .int 0, .int 0])), (i0, .inl (cL, 300, .inr (.inl (fun _ => 0)))), (i1, .inl (cL, 300, .inr (.inl (fun _ => 0)))), (i2, .inl (cL, 300, .inr (.inl (fun _ => 0)))), (i3, .inl (cL, 300, .inr (.inl (fun _ => 0)))), (aU, .inr (6, [.ref bT, .ref aD, .int 0, .int 0])), (bT, .inl (cT, 4, .inr (.inr (.inr (.inr (k4 t0 t1 t2 t3))))))]) (va_runV (As := []) (rest := []) ⟨hx, hb, hml, hown, hts⟩ (c_clear l D cI cL cB cZ cT _ t0 i0) (cwV 0 hts gX6_clearTape_X4_clear rfl rfl rfl (by decide +kernel) ⟨Nat.le_of_ble_eq_true rfl, Nat.le_of_ble_eq_true rfl⟩) (kPreV hG hP hD [0] rfl (by decide) 0 4 rfl rfl rfl) rfl rfl hl.1 rfl (lv_room (Nat.le_of_ble_eq_true rfl)) dX6_clearTape_18 ⟨Nat.le_of_ble_eq_true rfl, Nat.le_of_ble_eq_true rfl⟩) hA hP hD hS [0] [1, 2, 3, 4, 5, 6, 7, 8, 9] rfl rfl (by decide) (by decide) (fun _ u_r_2 H locs wr_2 hP hD hS => ?_)
    have hP : va_P D vwCl [(t1, .inr (4, [.ref i1, .int 0, .int 0])), (t2, .inr (4, [.ref i2, .int 0, .int 0])), (t3, .inr (4, [.ref i3, .int 0, .int 0])), (i0, .inl (cL, 300, .inr (.inl (fun _ => 0)))), (i1, .inl (cL, 300, .inr (.inl (fun _ => 0)))), (i2, .inl (cL, 300, .inr (.inl (fun _ => 0)))), (i3, .inl (cL, 300, .inr (.inl (fun _ => 0)))), (aU, .inr (6, [.ref bT, .ref aD, .int 0, .int 0])), (bT, .inl (cT, 4, .inr (.inr (.inr (.inr (k4 t0 t1 t2 t3)))))), (t0, .inr (4, [.ref i0, .int 0, .int 0]))] H := hP
    have hD : va_D A [(t1, .inr (4, [.ref i1, .int 0, .int 0])), (t2, .inr (4, [.ref i2, .int 0, .int 0])), (t3, .inr (4, [.ref i3, .int 0, .int 0])), (i0, .inl (cL, 300, .inr (.inl (fun _ => 0)))), (i1, .inl (cL, 300, .inr (.inl (fun _ => 0)))), (i2, .inl (cL, 300, .inr (.inl (fun _ => 0)))), (i3, .inl (cL, 300, .inr (.inl (fun _ => 0)))), (aU, .inr (6, [.ref bT, .ref aD, .int 0, .int 0])), (bT, .inl (cT, 4, .inr (.inr (.inr (.inr (k4 t0 t1 t2 t3)))))), (t0, .inr (4, [.ref i0, .int 0, .int 0]))] := hD
    try dsimp only at wr_2
    refine lv_aload_n hx hb dX6_clearTape_21 rfl (lv_at hl 2 rfl) ?_
    refine va_get (D := D) (ci := 6) (v := .int 0) (C := RX6) (T := TX6) (N := 4) hx hb hts iX6_clearTape_X6 hown hK hP 7 rfl rfl 2 (by decide) (hts (.fieldLink RX6 36 "TapeCalculator$Units" "chosen" "I") (List.mem_of_getElem? (i := 2) rfl)) (fun _ h9 => h9) rfl dX6_clearTape_22 ?_
    refine lv_bipush (v := 9) hx hb dX6_clearTape_25 (by decide) ?_
    refine lv_iload_n hx hb dX6_clearTape_27 rfl (lv_at hl 3 rfl) ?_
    refine lv_iadd hx hb dX6_clearTape_28 ?_
    refine lv_topi (fun x_3 ex_3 => ?_)
    obtain rfl : x_3 = 9 := ex_3.trans (by decide)
    refine lv_icmp_ne (tgt := 37) hx hb dX6_clearTape_29 (by decide) (fun c_29_3 => ?_) (fun c_29_3 => ?_)
    · have t_29_3 := c_29_3
      try simp only [kb_eq0, kb_ne0, lg_cmp_lt, lg_cmp_le, lg_cmp_gt, lg_cmp_ge, lg_cmp_eq] at t_29_3
      try simp only [Int32.lt_iff_toInt_lt, Int32.le_iff_toInt_le, ← Int32.toInt_inj, Int64.lt_iff_toInt_lt, Int64.le_iff_toInt_le, ← Int64.toInt_inj, Int32.toInt_toInt64, Int32.reduceToInt, Int64.reduceToInt] at t_29_3
      refine lv_iload_n hx hb dX6_clearTape_37 rfl (lv_at hl 0 rfl) ?_
      refine kIret (u := ()) hx hb hr rfl hlocks hS dX6_clearTape_38 ?_ (hP.sub [7, 8, 9, 0, 1, 2, 3, 4, 5, 6] rfl) (hD.sub [7, 8, 9, 0, 1, 2, 3, 4, 5, 6] (by decide) rfl)
      first
        | exact (kif_t (by decide)).symm
        | exact (kif_t (by omega)).symm
        | exact (kif_f (by omega)).symm
    · exact absurd c_29_3 (by decide)
  · rw [hv]
    refine lv_astore_n (lv' := [(2, .ref t1), (0, .ref aU), (1, .int 1)]) hx hb dX6_clearTape_5 rfl hl (by decide) rfl (fun ls hl => ?_)
    refine lv_aload_n hx hb dX6_clearTape_6 rfl (lv_at hl 0 rfl) ?_
    refine lv_ifnonnull (tgt := 12) hx hb dX6_clearTape_7 (by decide) ?_
    refine lv_aload_n hx hb dX6_clearTape_12 rfl (lv_at hl 0 rfl) ?_
    refine va_get (D := D) (ci := 4) (v := .int 0) (C := RX4) (T := TX4) (N := 3) hx hb hts iX6_clearTape_X4 hown hK hP 1 rfl rfl 1 (by decide) (hts (.fieldLink RX6 29 "TapeCalculator$Tape" "count" "I") (List.mem_of_getElem? (i := 1) rfl)) (fun _ h9 => h9) rfl dX6_clearTape_13 ?_
    refine lv_istore_n (lv' := [(3, .int 0), (2, .ref t1), (0, .ref aU), (1, .int 1)]) hx hb dX6_clearTape_16 rfl hl (by decide) rfl (fun ls hl => ?_)
    refine lv_aload_n hx hb dX6_clearTape_17 rfl (lv_at hl 1 rfl) ?_
    refine kCallVd (wr := [(t0, .inr (4, [.ref i0, .int 0, .int 0])), (t2, .inr (4, [.ref i2, .int 0, .int 0])), (t3, .inr (4, [.ref i3, .int 0, .int 0])), (i0, .inl (cL, 300, .inr (.inl (fun _ => 0)))), (i1, .inl (cL, 300, .inr (.inl (fun _ => 0)))), (i2, .inl (cL, 300, .inr (.inl (fun _ => 0)))), (i3, .inl (cL, 300, .inr (.inl (fun _ => 0)))), (aU, .inr (6, [.ref bT, .ref aD, .int 0, .int 0])), (bT, .inl (cT, 4, .inr (.inr (.inr (.inr (k4 t0 t1 t2 t3))))))]) (va_runV (As := []) (rest := []) ⟨hx, hb, hml, hown, hts⟩ (c_clear l D cI cL cB cZ cT _ t1 i1) (cwV 0 hts gX6_clearTape_X4_clear rfl rfl rfl (by decide +kernel) ⟨Nat.le_of_ble_eq_true rfl, Nat.le_of_ble_eq_true rfl⟩) (kPreV hG hP hD [1] rfl (by decide) 0 4 rfl rfl rfl) rfl rfl hl.1 rfl (lv_room (Nat.le_of_ble_eq_true rfl)) dX6_clearTape_18 ⟨Nat.le_of_ble_eq_true rfl, Nat.le_of_ble_eq_true rfl⟩) hA hP hD hS [1] [0, 2, 3, 4, 5, 6, 7, 8, 9] rfl rfl (by decide) (by decide) (fun _ u_r_5 H locs wr_5 hP hD hS => ?_)
    have hP : va_P D vwCl [(t0, .inr (4, [.ref i0, .int 0, .int 0])), (t2, .inr (4, [.ref i2, .int 0, .int 0])), (t3, .inr (4, [.ref i3, .int 0, .int 0])), (i0, .inl (cL, 300, .inr (.inl (fun _ => 0)))), (i1, .inl (cL, 300, .inr (.inl (fun _ => 0)))), (i2, .inl (cL, 300, .inr (.inl (fun _ => 0)))), (i3, .inl (cL, 300, .inr (.inl (fun _ => 0)))), (aU, .inr (6, [.ref bT, .ref aD, .int 0, .int 0])), (bT, .inl (cT, 4, .inr (.inr (.inr (.inr (k4 t0 t1 t2 t3)))))), (t1, .inr (4, [.ref i1, .int 0, .int 0]))] H := hP
    have hD : va_D A [(t0, .inr (4, [.ref i0, .int 0, .int 0])), (t2, .inr (4, [.ref i2, .int 0, .int 0])), (t3, .inr (4, [.ref i3, .int 0, .int 0])), (i0, .inl (cL, 300, .inr (.inl (fun _ => 0)))), (i1, .inl (cL, 300, .inr (.inl (fun _ => 0)))), (i2, .inl (cL, 300, .inr (.inl (fun _ => 0)))), (i3, .inl (cL, 300, .inr (.inl (fun _ => 0)))), (aU, .inr (6, [.ref bT, .ref aD, .int 0, .int 0])), (bT, .inl (cT, 4, .inr (.inr (.inr (.inr (k4 t0 t1 t2 t3)))))), (t1, .inr (4, [.ref i1, .int 0, .int 0]))] := hD
    try dsimp only at wr_5
    refine lv_aload_n hx hb dX6_clearTape_21 rfl (lv_at hl 2 rfl) ?_
    refine va_get (D := D) (ci := 6) (v := .int 0) (C := RX6) (T := TX6) (N := 4) hx hb hts iX6_clearTape_X6 hown hK hP 7 rfl rfl 2 (by decide) (hts (.fieldLink RX6 36 "TapeCalculator$Units" "chosen" "I") (List.mem_of_getElem? (i := 2) rfl)) (fun _ h9 => h9) rfl dX6_clearTape_22 ?_
    refine lv_bipush (v := 9) hx hb dX6_clearTape_25 (by decide) ?_
    refine lv_iload_n hx hb dX6_clearTape_27 rfl (lv_at hl 3 rfl) ?_
    refine lv_iadd hx hb dX6_clearTape_28 ?_
    refine lv_topi (fun x_6 ex_6 => ?_)
    obtain rfl : x_6 = 10 := ex_6.trans (by decide)
    refine lv_icmp_ne (tgt := 37) hx hb dX6_clearTape_29 (by decide) (fun c_29_6 => ?_) (fun c_29_6 => ?_)
    · have t_29_6 := c_29_6
      try simp only [kb_eq0, kb_ne0, lg_cmp_lt, lg_cmp_le, lg_cmp_gt, lg_cmp_ge, lg_cmp_eq] at t_29_6
      try simp only [Int32.lt_iff_toInt_lt, Int32.le_iff_toInt_le, ← Int32.toInt_inj, Int64.lt_iff_toInt_lt, Int64.le_iff_toInt_le, ← Int64.toInt_inj, Int32.toInt_toInt64, Int32.reduceToInt, Int64.reduceToInt] at t_29_6
      refine lv_iload_n hx hb dX6_clearTape_37 rfl (lv_at hl 0 rfl) ?_
      refine kIret (u := ()) hx hb hr rfl hlocks hS dX6_clearTape_38 ?_ (hP.sub [7, 8, 0, 9, 1, 2, 3, 4, 5, 6] rfl) (hD.sub [7, 8, 0, 9, 1, 2, 3, 4, 5, 6] (by decide) rfl)
      first
        | exact (kif_t (by decide)).symm
        | exact (kif_t (by omega)).symm
        | exact (kif_f (by omega)).symm
    · exact absurd c_29_6 (by decide)
  · rw [hv]
    refine lv_astore_n (lv' := [(2, .ref t2), (0, .ref aU), (1, .int 2)]) hx hb dX6_clearTape_5 rfl hl (by decide) rfl (fun ls hl => ?_)
    refine lv_aload_n hx hb dX6_clearTape_6 rfl (lv_at hl 0 rfl) ?_
    refine lv_ifnonnull (tgt := 12) hx hb dX6_clearTape_7 (by decide) ?_
    refine lv_aload_n hx hb dX6_clearTape_12 rfl (lv_at hl 0 rfl) ?_
    refine va_get (D := D) (ci := 4) (v := .int 0) (C := RX4) (T := TX4) (N := 3) hx hb hts iX6_clearTape_X4 hown hK hP 2 rfl rfl 1 (by decide) (hts (.fieldLink RX6 29 "TapeCalculator$Tape" "count" "I") (List.mem_of_getElem? (i := 1) rfl)) (fun _ h9 => h9) rfl dX6_clearTape_13 ?_
    refine lv_istore_n (lv' := [(3, .int 0), (2, .ref t2), (0, .ref aU), (1, .int 2)]) hx hb dX6_clearTape_16 rfl hl (by decide) rfl (fun ls hl => ?_)
    refine lv_aload_n hx hb dX6_clearTape_17 rfl (lv_at hl 1 rfl) ?_
    refine kCallVd (wr := [(t0, .inr (4, [.ref i0, .int 0, .int 0])), (t1, .inr (4, [.ref i1, .int 0, .int 0])), (t3, .inr (4, [.ref i3, .int 0, .int 0])), (i0, .inl (cL, 300, .inr (.inl (fun _ => 0)))), (i1, .inl (cL, 300, .inr (.inl (fun _ => 0)))), (i2, .inl (cL, 300, .inr (.inl (fun _ => 0)))), (i3, .inl (cL, 300, .inr (.inl (fun _ => 0)))), (aU, .inr (6, [.ref bT, .ref aD, .int 0, .int 0])), (bT, .inl (cT, 4, .inr (.inr (.inr (.inr (k4 t0 t1 t2 t3))))))]) (va_runV (As := []) (rest := []) ⟨hx, hb, hml, hown, hts⟩ (c_clear l D cI cL cB cZ cT _ t2 i2) (cwV 0 hts gX6_clearTape_X4_clear rfl rfl rfl (by decide +kernel) ⟨Nat.le_of_ble_eq_true rfl, Nat.le_of_ble_eq_true rfl⟩) (kPreV hG hP hD [2] rfl (by decide) 0 4 rfl rfl rfl) rfl rfl hl.1 rfl (lv_room (Nat.le_of_ble_eq_true rfl)) dX6_clearTape_18 ⟨Nat.le_of_ble_eq_true rfl, Nat.le_of_ble_eq_true rfl⟩) hA hP hD hS [2] [0, 1, 3, 4, 5, 6, 7, 8, 9] rfl rfl (by decide) (by decide) (fun _ u_r_8 H locs wr_8 hP hD hS => ?_)
    have hP : va_P D vwCl [(t0, .inr (4, [.ref i0, .int 0, .int 0])), (t1, .inr (4, [.ref i1, .int 0, .int 0])), (t3, .inr (4, [.ref i3, .int 0, .int 0])), (i0, .inl (cL, 300, .inr (.inl (fun _ => 0)))), (i1, .inl (cL, 300, .inr (.inl (fun _ => 0)))), (i2, .inl (cL, 300, .inr (.inl (fun _ => 0)))), (i3, .inl (cL, 300, .inr (.inl (fun _ => 0)))), (aU, .inr (6, [.ref bT, .ref aD, .int 0, .int 0])), (bT, .inl (cT, 4, .inr (.inr (.inr (.inr (k4 t0 t1 t2 t3)))))), (t2, .inr (4, [.ref i2, .int 0, .int 0]))] H := hP
    have hD : va_D A [(t0, .inr (4, [.ref i0, .int 0, .int 0])), (t1, .inr (4, [.ref i1, .int 0, .int 0])), (t3, .inr (4, [.ref i3, .int 0, .int 0])), (i0, .inl (cL, 300, .inr (.inl (fun _ => 0)))), (i1, .inl (cL, 300, .inr (.inl (fun _ => 0)))), (i2, .inl (cL, 300, .inr (.inl (fun _ => 0)))), (i3, .inl (cL, 300, .inr (.inl (fun _ => 0)))), (aU, .inr (6, [.ref bT, .ref aD, .int 0, .int 0])), (bT, .inl (cT, 4, .inr (.inr (.inr (.inr (k4 t0 t1 t2 t3)))))), (t2, .inr (4, [.ref i2, .int 0, .int 0]))] := hD
    try dsimp only at wr_8
    refine lv_aload_n hx hb dX6_clearTape_21 rfl (lv_at hl 2 rfl) ?_
    refine va_get (D := D) (ci := 6) (v := .int 0) (C := RX6) (T := TX6) (N := 4) hx hb hts iX6_clearTape_X6 hown hK hP 7 rfl rfl 2 (by decide) (hts (.fieldLink RX6 36 "TapeCalculator$Units" "chosen" "I") (List.mem_of_getElem? (i := 2) rfl)) (fun _ h9 => h9) rfl dX6_clearTape_22 ?_
    refine lv_bipush (v := 9) hx hb dX6_clearTape_25 (by decide) ?_
    refine lv_iload_n hx hb dX6_clearTape_27 rfl (lv_at hl 3 rfl) ?_
    refine lv_iadd hx hb dX6_clearTape_28 ?_
    refine lv_topi (fun x_9 ex_9 => ?_)
    obtain rfl : x_9 = 11 := ex_9.trans (by decide)
    refine lv_icmp_ne (tgt := 37) hx hb dX6_clearTape_29 (by decide) (fun c_29_9 => ?_) (fun c_29_9 => ?_)
    · have t_29_9 := c_29_9
      try simp only [kb_eq0, kb_ne0, lg_cmp_lt, lg_cmp_le, lg_cmp_gt, lg_cmp_ge, lg_cmp_eq] at t_29_9
      try simp only [Int32.lt_iff_toInt_lt, Int32.le_iff_toInt_le, ← Int32.toInt_inj, Int64.lt_iff_toInt_lt, Int64.le_iff_toInt_le, ← Int64.toInt_inj, Int32.toInt_toInt64, Int32.reduceToInt, Int64.reduceToInt] at t_29_9
      refine lv_iload_n hx hb dX6_clearTape_37 rfl (lv_at hl 0 rfl) ?_
      refine kIret (u := ()) hx hb hr rfl hlocks hS dX6_clearTape_38 ?_ (hP.sub [7, 8, 0, 1, 9, 2, 3, 4, 5, 6] rfl) (hD.sub [7, 8, 0, 1, 9, 2, 3, 4, 5, 6] (by decide) rfl)
      first
        | exact (kif_t (by decide)).symm
        | exact (kif_t (by omega)).symm
        | exact (kif_f (by omega)).symm
    · exact absurd c_29_9 (by decide)
  · rw [hv]
    refine lv_astore_n (lv' := [(2, .ref t3), (0, .ref aU), (1, .int 3)]) hx hb dX6_clearTape_5 rfl hl (by decide) rfl (fun ls hl => ?_)
    refine lv_aload_n hx hb dX6_clearTape_6 rfl (lv_at hl 0 rfl) ?_
    refine lv_ifnonnull (tgt := 12) hx hb dX6_clearTape_7 (by decide) ?_
    refine lv_aload_n hx hb dX6_clearTape_12 rfl (lv_at hl 0 rfl) ?_
    refine va_get (D := D) (ci := 4) (v := .int 0) (C := RX4) (T := TX4) (N := 3) hx hb hts iX6_clearTape_X4 hown hK hP 3 rfl rfl 1 (by decide) (hts (.fieldLink RX6 29 "TapeCalculator$Tape" "count" "I") (List.mem_of_getElem? (i := 1) rfl)) (fun _ h9 => h9) rfl dX6_clearTape_13 ?_
    refine lv_istore_n (lv' := [(3, .int 0), (2, .ref t3), (0, .ref aU), (1, .int 3)]) hx hb dX6_clearTape_16 rfl hl (by decide) rfl (fun ls hl => ?_)
    refine lv_aload_n hx hb dX6_clearTape_17 rfl (lv_at hl 1 rfl) ?_
    refine kCallVd (wr := [(t0, .inr (4, [.ref i0, .int 0, .int 0])), (t1, .inr (4, [.ref i1, .int 0, .int 0])), (t2, .inr (4, [.ref i2, .int 0, .int 0])), (i0, .inl (cL, 300, .inr (.inl (fun _ => 0)))), (i1, .inl (cL, 300, .inr (.inl (fun _ => 0)))), (i2, .inl (cL, 300, .inr (.inl (fun _ => 0)))), (i3, .inl (cL, 300, .inr (.inl (fun _ => 0)))), (aU, .inr (6, [.ref bT, .ref aD, .int 0, .int 0])), (bT, .inl (cT, 4, .inr (.inr (.inr (.inr (k4 t0 t1 t2 t3))))))]) (va_runV (As := []) (rest := []) ⟨hx, hb, hml, hown, hts⟩ (c_clear l D cI cL cB cZ cT _ t3 i3) (cwV 0 hts gX6_clearTape_X4_clear rfl rfl rfl (by decide +kernel) ⟨Nat.le_of_ble_eq_true rfl, Nat.le_of_ble_eq_true rfl⟩) (kPreV hG hP hD [3] rfl (by decide) 0 4 rfl rfl rfl) rfl rfl hl.1 rfl (lv_room (Nat.le_of_ble_eq_true rfl)) dX6_clearTape_18 ⟨Nat.le_of_ble_eq_true rfl, Nat.le_of_ble_eq_true rfl⟩) hA hP hD hS [3] [0, 1, 2, 4, 5, 6, 7, 8, 9] rfl rfl (by decide) (by decide) (fun _ u_r_11 H locs wr_11 hP hD hS => ?_)
    have hP : va_P D vwCl [(t0, .inr (4, [.ref i0, .int 0, .int 0])), (t1, .inr (4, [.ref i1, .int 0, .int 0])), (t2, .inr (4, [.ref i2, .int 0, .int 0])), (i0, .inl (cL, 300, .inr (.inl (fun _ => 0)))), (i1, .inl (cL, 300, .inr (.inl (fun _ => 0)))), (i2, .inl (cL, 300, .inr (.inl (fun _ => 0)))), (i3, .inl (cL, 300, .inr (.inl (fun _ => 0)))), (aU, .inr (6, [.ref bT, .ref aD, .int 0, .int 0])), (bT, .inl (cT, 4, .inr (.inr (.inr (.inr (k4 t0 t1 t2 t3)))))), (t3, .inr (4, [.ref i3, .int 0, .int 0]))] H := hP
    have hD : va_D A [(t0, .inr (4, [.ref i0, .int 0, .int 0])), (t1, .inr (4, [.ref i1, .int 0, .int 0])), (t2, .inr (4, [.ref i2, .int 0, .int 0])), (i0, .inl (cL, 300, .inr (.inl (fun _ => 0)))), (i1, .inl (cL, 300, .inr (.inl (fun _ => 0)))), (i2, .inl (cL, 300, .inr (.inl (fun _ => 0)))), (i3, .inl (cL, 300, .inr (.inl (fun _ => 0)))), (aU, .inr (6, [.ref bT, .ref aD, .int 0, .int 0])), (bT, .inl (cT, 4, .inr (.inr (.inr (.inr (k4 t0 t1 t2 t3)))))), (t3, .inr (4, [.ref i3, .int 0, .int 0]))] := hD
    try dsimp only at wr_11
    refine lv_aload_n hx hb dX6_clearTape_21 rfl (lv_at hl 2 rfl) ?_
    refine va_get (D := D) (ci := 6) (v := .int 0) (C := RX6) (T := TX6) (N := 4) hx hb hts iX6_clearTape_X6 hown hK hP 7 rfl rfl 2 (by decide) (hts (.fieldLink RX6 36 "TapeCalculator$Units" "chosen" "I") (List.mem_of_getElem? (i := 2) rfl)) (fun _ h9 => h9) rfl dX6_clearTape_22 ?_
    refine lv_bipush (v := 9) hx hb dX6_clearTape_25 (by decide) ?_
    refine lv_iload_n hx hb dX6_clearTape_27 rfl (lv_at hl 3 rfl) ?_
    refine lv_iadd hx hb dX6_clearTape_28 ?_
    refine lv_topi (fun x_12 ex_12 => ?_)
    obtain rfl : x_12 = 12 := ex_12.trans (by decide)
    refine lv_icmp_ne (tgt := 37) hx hb dX6_clearTape_29 (by decide) (fun c_29_12 => ?_) (fun c_29_12 => ?_)
    · have t_29_12 := c_29_12
      try simp only [kb_eq0, kb_ne0, lg_cmp_lt, lg_cmp_le, lg_cmp_gt, lg_cmp_ge, lg_cmp_eq] at t_29_12
      try simp only [Int32.lt_iff_toInt_lt, Int32.le_iff_toInt_le, ← Int32.toInt_inj, Int64.lt_iff_toInt_lt, Int64.le_iff_toInt_le, ← Int64.toInt_inj, Int32.toInt_toInt64, Int32.reduceToInt, Int64.reduceToInt] at t_29_12
      refine lv_iload_n hx hb dX6_clearTape_37 rfl (lv_at hl 0 rfl) ?_
      refine kIret (u := ()) hx hb hr rfl hlocks hS dX6_clearTape_38 ?_ (hP.sub [7, 8, 0, 1, 2, 9, 3, 4, 5, 6] rfl) (hD.sub [7, 8, 0, 1, 2, 9, 3, 4, 5, 6] (by decide) rfl)
      first
        | exact (kif_t (by decide)).symm
        | exact (kif_t (by omega)).symm
        | exact (kif_f (by omega)).symm
    · exact absurd c_29_12 (by decide)
set_option maxRecDepth 100000 in
theorem iX7_blank_X7 : ∀ w ∈ wsX70, w ∈ wsX7_blank := fun w h => (goodIn_r (big := wsX7_blank) wsX70 [22, 23, 24, 25, 26, 27, 28, 29, 30, 31, 32] rfl (by decide +kernel) w h).1
set_option maxRecDepth 100000 in
set_option maxHeartbeats 4000000 in
theorem c_blank (l : Launch) (D : va_G) (cI cL cB cZ cT : ClassId) (sz : Nat) (h0 aS aA aU aX aW : Nat) (bT aD : Nat) (t0 t1 t2 t3 i0 i1 i2 i3 : Nat) (tt : Int32) : kM (S := Unit) l yX7_blank wsX7_blank ({ frames := 2, cells := 0, slots := 0, locals := 44 }) D (kT cI cL cB cZ cT) [.ref h0, .int tt] [(h0, .inr (7, [.ref aS, .ref aA, .ref aU, .ref aX, .ref aW, .int 0, .int 0, .int 0, .int 0, .int 0, .long 0])), (aU, .inr (6, [.ref bT, .ref aD, .int 0, .int 0])), (bT, .inl (cT, 4, .inr (.inr (.inr (.inr (k4 t0 t1 t2 t3)))))), (t0, .inr (4, [.ref i0, .int 0, .int 0])), (t1, .inr (4, [.ref i1, .int 0, .int 0])), (t2, .inr (4, [.ref i2, .int 0, .int 0])), (t3, .inr (4, [.ref i3, .int 0, .int 0])), (i0, .inl (cL, 300, .inr (.inl (fun _ => 0)))), (i1, .inl (cL, 300, .inr (.inl (fun _ => 0)))), (i2, .inl (cL, 300, .inr (.inl (fun _ => 0)))), (i3, .inl (cL, 300, .inr (.inl (fun _ => 0))))] sz eI (fun r _ => r = (kif (0 ≤ tt.toInt ∧ tt.toInt ≤ 3) 0 (-1))) (fun _ => [(h0, .inr (7, [.ref aS, .ref aA, .ref aU, .ref aX, .ref aW, .int 0, .int 0, .int 0, .int 0, .int 0, .long 0])), (aU, .inr (6, [.ref bT, .ref aD, .int 0, .int 0])), (bT, .inl (cT, 4, .inr (.inr (.inr (.inr (k4 t0 t1 t2 t3)))))), (t0, .inr (4, [.ref i0, .int 0, .int 0])), (t1, .inr (4, [.ref i1, .int 0, .int 0])), (t2, .inr (4, [.ref i2, .int 0, .int 0])), (t3, .inr (4, [.ref i3, .int 0, .int 0])), (i0, .inl (cL, 300, .inr (.inl (fun _ => 0)))), (i1, .inl (cL, 300, .inr (.inl (fun _ => 0)))), (i2, .inl (cL, 300, .inr (.inl (fun _ => 0)))), (i3, .inl (cL, 300, .inr (.inl (fun _ => 0))))]) 0 0 := by
  refine kStart (cc := cX7_blank) (maxL := 2) (ret := (some .int)) (own := RX7) (by decide) rfl rfl (Nat.le_of_ble_eq_true rfl) ?_
  intro p e s m args below meth c A ls hx hb hr hml hown hts hlocks hnm hsz hA hG hP hD hS hl
  have hK := hG.1
  have hl : lv_has ls 2 [(0, .ref h0), (1, .int tt)] := hl
  refine lv_aload_n hx hb dX7_blank_0 rfl (lv_at hl 0 rfl) ?_
  refine va_get (D := D) (ci := 7) (v := .ref aU) (C := RX7) (T := TX7) (N := 11) hx hb hts iX7_blank_X7 hown hK hP 0 rfl rfl 2 (by decide) (hts (.fieldLink RX7 26 "TapeCalculator" "units" "LTapeCalculator$Units;") (List.mem_of_getElem? (i := 1) rfl)) (fun _ h9 => h9) rfl dX7_blank_1 ?_
  refine lv_iload_n hx hb dX7_blank_4 rfl (lv_at hl 1 rfl) ?_
  refine kCallI (wr := [(h0, .inr (7, [.ref aS, .ref aA, .ref aU, .ref aX, .ref aW, .int 0, .int 0, .int 0, .int 0, .int 0, .long 0]))]) (va_runV (As := [.int tt]) (rest := []) ⟨hx, hb, hml, hown, hts⟩ (c_clearTape l D cI cL cB cZ cT _ aU bT aD t0 t1 t2 t3 i0 i1 i2 i3 tt) (cwV 1 hts gX7_blank_X6_clearTape rfl rfl rfl (by decide +kernel) ⟨Nat.le_of_ble_eq_true rfl, Nat.le_of_ble_eq_true rfl⟩) (kPreV hG hP hD [1, 2, 3, 4, 5, 6, 7, 8, 9, 10] rfl (by decide) 0 6 rfl rfl rfl) rfl rfl hl.1 rfl (lv_room (Nat.le_of_ble_eq_true rfl)) dX7_blank_5 ⟨Nat.le_of_ble_eq_true rfl, Nat.le_of_ble_eq_true rfl⟩) hA hP hD hS [1, 2, 3, 4, 5, 6, 7, 8, 9, 10] [0] rfl rfl (by decide) (by decide) (fun r_1 u_r_1 H locs wr_1 hP hD hS => ?_)
  have hP : va_P D vwCl [(h0, .inr (7, [.ref aS, .ref aA, .ref aU, .ref aX, .ref aW, .int 0, .int 0, .int 0, .int 0, .int 0, .long 0])), (aU, .inr (6, [.ref bT, .ref aD, .int 0, .int 0])), (bT, .inl (cT, 4, .inr (.inr (.inr (.inr (k4 t0 t1 t2 t3)))))), (t0, .inr (4, [.ref i0, .int 0, .int 0])), (t1, .inr (4, [.ref i1, .int 0, .int 0])), (t2, .inr (4, [.ref i2, .int 0, .int 0])), (t3, .inr (4, [.ref i3, .int 0, .int 0])), (i0, .inl (cL, 300, .inr (.inl (fun _ => 0)))), (i1, .inl (cL, 300, .inr (.inl (fun _ => 0)))), (i2, .inl (cL, 300, .inr (.inl (fun _ => 0)))), (i3, .inl (cL, 300, .inr (.inl (fun _ => 0))))] H := hP
  have hD : va_D A [(h0, .inr (7, [.ref aS, .ref aA, .ref aU, .ref aX, .ref aW, .int 0, .int 0, .int 0, .int 0, .int 0, .long 0])), (aU, .inr (6, [.ref bT, .ref aD, .int 0, .int 0])), (bT, .inl (cT, 4, .inr (.inr (.inr (.inr (k4 t0 t1 t2 t3)))))), (t0, .inr (4, [.ref i0, .int 0, .int 0])), (t1, .inr (4, [.ref i1, .int 0, .int 0])), (t2, .inr (4, [.ref i2, .int 0, .int 0])), (t3, .inr (4, [.ref i3, .int 0, .int 0])), (i0, .inl (cL, 300, .inr (.inl (fun _ => 0)))), (i1, .inl (cL, 300, .inr (.inl (fun _ => 0)))), (i2, .inl (cL, 300, .inr (.inl (fun _ => 0)))), (i3, .inl (cL, 300, .inr (.inl (fun _ => 0))))] := hD
  try dsimp only at wr_1
  subst wr_1
  refine kIret (u := ()) hx hb hr rfl hlocks hS dX7_blank_8 ?_ (hP.sub [0, 1, 2, 3, 4, 5, 6, 7, 8, 9, 10] rfl) (hD.sub [0, 1, 2, 3, 4, 5, 6, 7, 8, 9, 10] (by decide) rfl)
  exact rfl
set_option maxRecDepth 100000 in
theorem iX1_wordAt_X1 : ∀ w ∈ wsX10, w ∈ wsX1_wordAt := fun w h => (goodIn_r (big := wsX1_wordAt) wsX10 [2, 3] rfl (by decide +kernel) w h).1
set_option maxRecDepth 100000 in
set_option maxHeartbeats 4000000 in
theorem c_wordAt (l : Launch) (D : va_G) (cI cL cB cZ cT : ClassId) (sz : Nat) (aD bD : Nat) (i : Int32) : kM (S := Unit) l yX1_wordAt wsX1_wordAt ({ frames := 0, cells := 0, slots := 0, locals := 0 }) D (kT cI cL cB cZ cT) [.ref aD, .int i] [(aD, .inr (1, [.ref bD, .int 0])), (bD, .inl (cL, 256, .inr (.inl (fun _ => 0))))] sz eL (fun r _ => r = 0) (fun _ => [(aD, .inr (1, [.ref bD, .int 0])), (bD, .inl (cL, 256, .inr (.inl (fun _ => 0))))]) 0 0 := by
  refine kStart (cc := cX1_wordAt) (maxL := 2) (ret := (some .long)) (own := RX1) (by decide) rfl rfl (Nat.le_of_ble_eq_true rfl) ?_
  intro p e s m args below meth c A ls hx hb hr hml hown hts hlocks hnm hsz hA hG hP hD hS hl
  have hK := hG.1
  have hl : lv_has ls 2 [(0, .ref aD), (1, .int i)] := hl
  refine lv_iload_n hx hb dX1_wordAt_0 rfl (lv_at hl 1 rfl) ?_
  refine lv_if_lt (tgt := 22) hx hb dX1_wordAt_1 (by decide) (fun c_1_0 => ?_) (fun c_1_0 => ?_)
  · have t_1_0 := c_1_0
    try simp only [kb_eq0, kb_ne0, lg_cmp_lt, lg_cmp_le, lg_cmp_gt, lg_cmp_ge, lg_cmp_eq] at t_1_0
    try simp only [Int32.lt_iff_toInt_lt, Int32.le_iff_toInt_le, ← Int32.toInt_inj, Int64.lt_iff_toInt_lt, Int64.le_iff_toInt_le, ← Int64.toInt_inj, Int32.toInt_toInt64, Int32.reduceToInt, Int64.reduceToInt] at t_1_0
    refine lv_lconst (v := 0) hx hb dX1_wordAt_22 (by decide) ?_
    refine kLret (u := ()) hx hb hr hlocks hS dX1_wordAt_23 ?_ (hP.sub [0, 1] rfl) (hD.sub [0, 1] (by decide) rfl)
    exact rfl
  · have t_1_0 := c_1_0
    try simp only [kb_eq0, kb_ne0, lg_cmp_lt, lg_cmp_le, lg_cmp_gt, lg_cmp_ge, lg_cmp_eq] at t_1_0
    try simp only [Int32.lt_iff_toInt_lt, Int32.le_iff_toInt_le, ← Int32.toInt_inj, Int64.lt_iff_toInt_lt, Int64.le_iff_toInt_le, ← Int64.toInt_inj, Int32.toInt_toInt64, Int32.reduceToInt, Int64.reduceToInt] at t_1_0
    refine lv_iload_n hx hb dX1_wordAt_4 rfl (lv_at hl 1 rfl) ?_
    refine lv_aload_n hx hb dX1_wordAt_5 rfl (lv_at hl 0 rfl) ?_
    refine va_get (D := D) (ci := 1) (v := .ref bD) (C := RX1) (T := TX1) (N := 2) hx hb hts iX1_wordAt_X1 hown hK hP 0 rfl rfl 0 (by decide) (hts (.fieldLink RX1 9 "TapeCalculator$Drum" "words" "[J") (List.mem_of_getElem? (i := 1) rfl)) (fun _ h9 => h9) rfl dX1_wordAt_6 ?_
    refine va_alen hx hb hK hP 1 1 rfl rfl (v := 256) rfl dX1_wordAt_9 ?_
    refine lv_icmp_ge (tgt := 22) hx hb dX1_wordAt_10 (by decide) (fun c_10_1 => ?_) (fun c_10_1 => ?_)
    · have t_10_1 := c_10_1
      try simp only [kb_eq0, kb_ne0, lg_cmp_lt, lg_cmp_le, lg_cmp_gt, lg_cmp_ge, lg_cmp_eq] at t_10_1
      try simp only [Int32.lt_iff_toInt_lt, Int32.le_iff_toInt_le, ← Int32.toInt_inj, Int64.lt_iff_toInt_lt, Int64.le_iff_toInt_le, ← Int64.toInt_inj, Int32.toInt_toInt64, Int32.reduceToInt, Int64.reduceToInt] at t_10_1
      refine lv_lconst (v := 0) hx hb dX1_wordAt_22 (by decide) ?_
      refine kLret (u := ()) hx hb hr hlocks hS dX1_wordAt_23 ?_ (hP.sub [0, 1] rfl) (hD.sub [0, 1] (by decide) rfl)
      exact rfl
    · have t_10_1 := c_10_1
      try simp only [kb_eq0, kb_ne0, lg_cmp_lt, lg_cmp_le, lg_cmp_gt, lg_cmp_ge, lg_cmp_eq] at t_10_1
      try simp only [Int32.lt_iff_toInt_lt, Int32.le_iff_toInt_le, ← Int32.toInt_inj, Int64.lt_iff_toInt_lt, Int64.le_iff_toInt_le, ← Int64.toInt_inj, Int32.toInt_toInt64, Int32.reduceToInt, Int64.reduceToInt] at t_10_1
      refine lv_aload_n hx hb dX1_wordAt_13 rfl (lv_at hl 0 rfl) ?_
      refine va_get (D := D) (ci := 1) (v := .ref bD) (C := RX1) (T := TX1) (N := 2) hx hb hts iX1_wordAt_X1 hown hK hP 0 rfl rfl 0 (by decide) (hts (.fieldLink RX1 9 "TapeCalculator$Drum" "words" "[J") (List.mem_of_getElem? (i := 1) rfl)) (fun _ h9 => h9) rfl dX1_wordAt_14 ?_
      refine lv_iload_n hx hb dX1_wordAt_17 rfl (lv_at hl 1 rfl) ?_
      refine va_lald hx hb hK hP 1 1 rfl rfl (vp_in_iff.mpr (by omega)) dX1_wordAt_18 ?_
      refine lv_goto (tgt := 23) hx hb dX1_wordAt_19 (by decide) ?_
      refine kLret (u := ()) hx hb hr hlocks hS dX1_wordAt_23 ?_ (hP.sub [0, 1] rfl) (hD.sub [0, 1] (by decide) rfl)
      exact rfl
set_option maxRecDepth 100000 in
theorem iX7_drum_X7 : ∀ w ∈ wsX70, w ∈ wsX7_drum := fun w h => (goodIn_r (big := wsX7_drum) wsX70 [10, 11, 12, 13, 14, 15, 16, 17, 18, 19, 20] rfl (by decide +kernel) w h).1
set_option maxRecDepth 100000 in
theorem iX7_drum_X6 : ∀ w ∈ wsX60, w ∈ wsX7_drum := fun w h => (goodIn_r (big := wsX7_drum) wsX60 [21, 22, 23, 24] rfl (by decide +kernel) w h).1
set_option maxRecDepth 100000 in
set_option maxHeartbeats 4000000 in
theorem c_drum (l : Launch) (D : va_G) (cI cL cB cZ cT : ClassId) (sz : Nat) (h0 aS aA aU aX aW : Nat) (bT aD bD : Nat) (i : Int32) : kM (S := Unit) l yX7_drum wsX7_drum ({ frames := 1, cells := 0, slots := 0, locals := 21 }) D (kT cI cL cB cZ cT) [.ref h0, .int i] [(h0, .inr (7, [.ref aS, .ref aA, .ref aU, .ref aX, .ref aW, .int 0, .int 0, .int 0, .int 0, .int 0, .long 0])), (aU, .inr (6, [.ref bT, .ref aD, .int 0, .int 0])), (aD, .inr (1, [.ref bD, .int 0])), (bD, .inl (cL, 256, .inr (.inl (fun _ => 0))))] sz eL (fun r _ => r = (kif (0 ≤ i.toInt ∧ i.toInt < 256) 0 (-1))) (fun _ => [(h0, .inr (7, [.ref aS, .ref aA, .ref aU, .ref aX, .ref aW, .int 0, .int 0, .int 0, .int 0, .int 0, .long 0])), (aU, .inr (6, [.ref bT, .ref aD, .int 0, .int 0])), (aD, .inr (1, [.ref bD, .int 0])), (bD, .inl (cL, 256, .inr (.inl (fun _ => 0))))]) 0 0 := by
  refine kStart (cc := cX7_drum) (maxL := 2) (ret := (some .long)) (own := RX7) (by decide) rfl rfl (Nat.le_of_ble_eq_true rfl) ?_
  intro p e s m args below meth c A ls hx hb hr hml hown hts hlocks hnm hsz hA hG hP hD hS hl
  have hK := hG.1
  have hl : lv_has ls 2 [(0, .ref h0), (1, .int i)] := hl
  refine lv_iload_n hx hb dX7_drum_0 rfl (lv_at hl 1 rfl) ?_
  refine lv_if_lt (tgt := 11) hx hb dX7_drum_1 (by decide) (fun c_1_0 => ?_) (fun c_1_0 => ?_)
  · have t_1_0 := c_1_0
    try simp only [kb_eq0, kb_ne0, lg_cmp_lt, lg_cmp_le, lg_cmp_gt, lg_cmp_ge, lg_cmp_eq] at t_1_0
    try simp only [Int32.lt_iff_toInt_lt, Int32.le_iff_toInt_le, ← Int32.toInt_inj, Int64.lt_iff_toInt_lt, Int64.le_iff_toInt_le, ← Int64.toInt_inj, Int32.toInt_toInt64, Int32.reduceToInt, Int64.reduceToInt] at t_1_0
    refine lv_ldc2 (v := (-1)) hx hb hown (hts (.constantLong RX7 61 (-1)) (List.mem_of_getElem? (i := 1) rfl)) dX7_drum_11 ?_
    refine lv_goto (tgt := 28) hx hb dX7_drum_14 (by decide) ?_
    refine kLret (u := ()) hx hb hr hlocks hS dX7_drum_28 ?_ (hP.sub [0, 1, 2, 3] rfl) (hD.sub [0, 1, 2, 3] (by decide) rfl)
    first
      | exact (kif_t (by omega)).symm
      | exact (kif_f (by omega)).symm
  · have t_1_0 := c_1_0
    try simp only [kb_eq0, kb_ne0, lg_cmp_lt, lg_cmp_le, lg_cmp_gt, lg_cmp_ge, lg_cmp_eq] at t_1_0
    try simp only [Int32.lt_iff_toInt_lt, Int32.le_iff_toInt_le, ← Int32.toInt_inj, Int64.lt_iff_toInt_lt, Int64.le_iff_toInt_le, ← Int64.toInt_inj, Int32.toInt_toInt64, Int32.reduceToInt, Int64.reduceToInt] at t_1_0
    refine lv_iload_n hx hb dX7_drum_4 rfl (lv_at hl 1 rfl) ?_
    refine lv_sipush (v := 256) hx hb dX7_drum_5 (by decide) ?_
    refine lv_icmp_lt (tgt := 17) hx hb dX7_drum_8 (by decide) (fun c_8_1 => ?_) (fun c_8_1 => ?_)
    · have t_8_1 := c_8_1
      try simp only [kb_eq0, kb_ne0, lg_cmp_lt, lg_cmp_le, lg_cmp_gt, lg_cmp_ge, lg_cmp_eq] at t_8_1
      try simp only [Int32.lt_iff_toInt_lt, Int32.le_iff_toInt_le, ← Int32.toInt_inj, Int64.lt_iff_toInt_lt, Int64.le_iff_toInt_le, ← Int64.toInt_inj, Int32.toInt_toInt64, Int32.reduceToInt, Int64.reduceToInt] at t_8_1
      refine lv_aload_n hx hb dX7_drum_17 rfl (lv_at hl 0 rfl) ?_
      refine va_get (D := D) (ci := 7) (v := .ref aU) (C := RX7) (T := TX7) (N := 11) hx hb hts iX7_drum_X7 hown hK hP 0 rfl rfl 2 (by decide) (hts (.fieldLink RX7 26 "TapeCalculator" "units" "LTapeCalculator$Units;") (List.mem_of_getElem? (i := 2) rfl)) (fun _ h9 => h9) rfl dX7_drum_18 ?_
      refine va_get (D := D) (ci := 6) (v := .ref aD) (C := RX6) (T := TX6) (N := 4) hx hb hts iX7_drum_X6 hown hK hP 1 rfl rfl 1 (by decide) (hts (.fieldLink RX7 87 "TapeCalculator$Units" "drum" "LTapeCalculator$Drum;") (List.mem_of_getElem? (i := 3) rfl)) (fun _ h9 => h9) rfl dX7_drum_21 ?_
      refine lv_iload_n hx hb dX7_drum_24 rfl (lv_at hl 1 rfl) ?_
      refine kCallL (wr := [(h0, .inr (7, [.ref aS, .ref aA, .ref aU, .ref aX, .ref aW, .int 0, .int 0, .int 0, .int 0, .int 0, .long 0])), (aU, .inr (6, [.ref bT, .ref aD, .int 0, .int 0]))]) (va_runV (As := [.int i]) (rest := []) ⟨hx, hb, hml, hown, hts⟩ (c_wordAt l D cI cL cB cZ cT _ aD bD i) (cwV 1 hts gX7_drum_X1_wordAt rfl rfl rfl (by decide +kernel) ⟨Nat.le_of_ble_eq_true rfl, Nat.le_of_ble_eq_true rfl⟩) (kPreV hG hP hD [2, 3] rfl (by decide) 0 1 rfl rfl rfl) rfl rfl hl.1 rfl (lv_room (Nat.le_of_ble_eq_true rfl)) dX7_drum_25 ⟨Nat.le_of_ble_eq_true rfl, Nat.le_of_ble_eq_true rfl⟩) hA hP hD hS [2, 3] [0, 1] rfl rfl (by decide) (by decide) (fun r_3 u_r_3 H locs wr_3 hP hD hS => ?_)
      have hP : va_P D vwCl [(h0, .inr (7, [.ref aS, .ref aA, .ref aU, .ref aX, .ref aW, .int 0, .int 0, .int 0, .int 0, .int 0, .long 0])), (aU, .inr (6, [.ref bT, .ref aD, .int 0, .int 0])), (aD, .inr (1, [.ref bD, .int 0])), (bD, .inl (cL, 256, .inr (.inl (fun _ => 0))))] H := hP
      have hD : va_D A [(h0, .inr (7, [.ref aS, .ref aA, .ref aU, .ref aX, .ref aW, .int 0, .int 0, .int 0, .int 0, .int 0, .long 0])), (aU, .inr (6, [.ref bT, .ref aD, .int 0, .int 0])), (aD, .inr (1, [.ref bD, .int 0])), (bD, .inl (cL, 256, .inr (.inl (fun _ => 0))))] := hD
      try dsimp only at wr_3
      subst wr_3
      refine kLret (u := ()) hx hb hr hlocks hS dX7_drum_28 ?_ (hP.sub [0, 1, 2, 3] rfl) (hD.sub [0, 1, 2, 3] (by decide) rfl)
      first
        | exact (kif_t (by omega)).symm
        | exact (kif_f (by omega)).symm
    · have t_8_1 := c_8_1
      try simp only [kb_eq0, kb_ne0, lg_cmp_lt, lg_cmp_le, lg_cmp_gt, lg_cmp_ge, lg_cmp_eq] at t_8_1
      try simp only [Int32.lt_iff_toInt_lt, Int32.le_iff_toInt_le, ← Int32.toInt_inj, Int64.lt_iff_toInt_lt, Int64.le_iff_toInt_le, ← Int64.toInt_inj, Int32.toInt_toInt64, Int32.reduceToInt, Int64.reduceToInt] at t_8_1
      refine lv_ldc2 (v := (-1)) hx hb hown (hts (.constantLong RX7 61 (-1)) (List.mem_of_getElem? (i := 1) rfl)) dX7_drum_11 ?_
      refine lv_goto (tgt := 28) hx hb dX7_drum_14 (by decide) ?_
      refine kLret (u := ()) hx hb hr hlocks hS dX7_drum_28 ?_ (hP.sub [0, 1, 2, 3] rfl) (hD.sub [0, 1, 2, 3] (by decide) rfl)
      first
        | exact (kif_t (by omega)).symm
        | exact (kif_f (by omega)).symm
