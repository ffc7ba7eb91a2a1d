set_option maxRecDepth 100000 in
theorem iX7_item_X7 : ∀ w ∈ wsX70, w ∈ wsX7_item := fun w h => (goodIn_r (big := wsX7_item) wsX70 [17, 18, 19, 20, 21, 22, 23, 24, 25, 26, 27] rfl (by decide +kernel) w h).1
set_option maxRecDepth 100000 in
set_option maxHeartbeats 4000000 in
theorem g_item (l : Launch) (D : va_G) (cI cL cB cZ cT : ClassId) (sz : Nat) (h0 aS aA aU aX aW : Nat) (pl np li sw lst : Int32) (ad : Int64) (bT aD : Nat) (ch ww : Int32) (t0 t1 t2 t3 : Nat) (i0 i1 i2 i3 : Nat) (n0 n1 n2 n3 p0 p1 p2 p3 : Int32) (f0 f1 f2 f3 : Nat → Int64) (t i : Int32) : kM (S := Unit) l yX7_item wsX7_item ({ frames := 1, cells := 0, slots := 0, locals := 21 }) D (kT cI cL cB cZ cT) [.ref h0, .int t, .int i] [(h0, .inr (7, [.ref aS, .ref aA, .ref aU, .ref aX, .ref aW, .int pl, .int np, .int li, .int sw, .int lst, .long ad])), (aU, .inr (6, [.ref bT, .ref aD, .int ch, .int ww])), (bT, .inl (cT, 4, .inr (.inr (.inr (.inr (k4 t0 t1 t2 t3)))))), (t0, .inr (4, [.ref i0, .int n0, .int p0])), (i0, .inl (cL, 300, .inr (.inl f0))), (t1, .inr (4, [.ref i1, .int n1, .int p1])), (i1, .inl (cL, 300, .inr (.inl f1))), (t2, .inr (4, [.ref i2, .int n2, .int p2])), (i2, .inl (cL, 300, .inr (.inl f2))), (t3, .inr (4, [.ref i3, .int n3, .int p3])), (i3, .inl (cL, 300, .inr (.inl f3)))] sz eL (fun _ _ => True) (fun _ => [(h0, .inr (7, [.ref aS, .ref aA, .ref aU, .ref aX, .ref aW, .int pl, .int np, .int li, .int sw, .int lst, .long ad])), (aU, .inr (6, [.ref bT, .ref aD, .int ch, .int ww])), (bT, .inl (cT, 4, .inr (.inr (.inr (.inr (k4 t0 t1 t2 t3)))))), (t0, .inr (4, [.ref i0, .int n0, .int p0])), (i0, .inl (cL, 300, .inr (.inl f0))), (t1, .inr (4, [.ref i1, .int n1, .int p1])), (i1, .inl (cL, 300, .inr (.inl f1))), (t2, .inr (4, [.ref i2, .int n2, .int p2])), (i2, .inl (cL, 300, .inr (.inl f2))), (t3, .inr (4, [.ref i3, .int n3, .int p3])), (i3, .inl (cL, 300, .inr (.inl f3)))]) 0 0 := by
  refine kStart (cc := cX7_item) (maxL := 4) (ret := (some .long)) (own := RX7) (by decide) rfl rfl (Nat.le_of_ble_eq_true rfl) ?_
  intro p e s m args below meth c A ls hx hb hr hml hown hts hlocks hnm hsz hA hG hP hD hS hl
  have hK := hG.1
  have hl : lv_has ls 4 [(0, .ref h0), (1, .int t), (2, .int i)] := hl
  refine lv_aload_n hx hb dX7_item_0 rfl (lv_at hl 0 rfl) ?_
  refine va_get (D := D) (ci := 7) (v := .ref aU) (C := RX7) (T := TX7) (N := 11) hx hb hts iX7_item_X7 hown hK hP 0 rfl rfl 2 (by decide) (hts (.fieldLink RX7 26 "TapeCalculator" "units" "LTapeCalculator$Units;") (List.mem_of_getElem? (i := 1) rfl)) (fun _ h9 => h9) rfl dX7_item_1 ?_
  refine lv_iload_n hx hb dX7_item_4 rfl (lv_at hl 1 rfl) ?_
  refine kCallR (wr := [(h0, .inr (7, [.ref aS, .ref aA, .ref aU, .ref aX, .ref aW, .int pl, .int np, .int li, .int sw, .int lst, .long ad])), (t0, .inr (4, [.ref i0, .int n0, .int p0])), (i0, .inl (cL, 300, .inr (.inl f0))), (t1, .inr (4, [.ref i1, .int n1, .int p1])), (i1, .inl (cL, 300, .inr (.inl f1))), (t2, .inr (4, [.ref i2, .int n2, .int p2])), (i2, .inl (cL, 300, .inr (.inl f2))), (t3, .inr (4, [.ref i3, .int n3, .int p3])), (i3, .inl (cL, 300, .inr (.inl f3)))]) (va_runV (As := [.int t]) (rest := []) ⟨hx, hb, hml, hown, hts⟩ (g_tapeAt l D cI cL cB cZ cT _ aU bT aD ch ww t0 t1 t2 t3 t) (cwV 1 hts gX7_item_X6_tapeAt rfl rfl rfl (by decide +kernel) ⟨Nat.le_of_ble_eq_true rfl, Nat.le_of_ble_eq_true rfl⟩) (kPreV hG hP hD [1, 2] rfl (by decide) 0 6 rfl rfl rfl) rfl rfl hl.1 rfl (lv_room (Nat.le_of_ble_eq_true rfl)) dX7_item_5 ⟨Nat.le_of_ble_eq_true rfl, Nat.le_of_ble_eq_true rfl⟩) hA hP hD hS [1, 2] [0, 3, 4, 5, 6, 7, 8, 9, 10] rfl rfl (by decide) (by decide) (fun r_1 u_r_1 H locs wr_1 hP hD hS => ?_)
  have hP : va_P D vwCl [(h0, .inr (7, [.ref aS, .ref aA, .ref aU, .ref aX, .ref aW, .int pl, .int np, .int li, .int sw, .int lst, .long ad])), (t0, .inr (4, [.ref i0, .int n0, .int p0])), (i0, .inl (cL, 300, .inr (.inl f0))), (t1, .inr (4, [.ref i1, .int n1, .int p1])), (i1, .inl (cL, 300, .inr (.inl f1))), (t2, .inr (4, [.ref i2, .int n2, .int p2])), (i2, .inl (cL, 300, .inr (.inl f2))), (t3, .inr (4, [.ref i3, .int n3, .int p3])), (i3, .inl (cL, 300, .inr (.inl f3))), (aU, .inr (6, [.ref bT, .ref aD, .int ch, .int ww])), (bT, .inl (cT, 4, .inr (.inr (.inr (.inr (k4 t0 t1 t2 t3))))))] H := hP
  have hD : va_D A [(h0, .inr (7, [.ref aS, .ref aA, .ref aU, .ref aX, .ref aW, .int pl, .int np, .int li, .int sw, .int lst, .long ad])), (t0, .inr (4, [.ref i0, .int n0, .int p0])), (i0, .inl (cL, 300, .inr (.inl f0))), (t1, .inr (4, [.ref i1, .int n1, .int p1])), (i1, .inl (cL, 300, .inr (.inl f1))), (t2, .inr (4, [.ref i2, .int n2, .int p2])), (i2, .inl (cL, 300, .inr (.inl f2))), (t3, .inr (4, [.ref i3, .int n3, .int p3])), (i3, .inl (cL, 300, .inr (.inl f3))), (aU, .inr (6, [.ref bT, .ref aD, .int ch, .int ww])), (bT, .inl (cT, 4, .inr (.inr (.inr (.inr (k4 t0 t1 t2 t3))))))] := hD
  try dsimp only at wr_1
  rcases wr_1 with rfl | rfl | rfl | rfl | rfl
  · show W _ _ _ _ _ _ _ _ _ _ _ _ _ _ _ (F0 _ _ _ (Value.null :: _))
    refine lv_astore_nN (lv' := [(3, .null), (0, .ref h0), (1, .int t), (2, .int i)]) hx hb dX7_item_8 rfl hl (by decide) rfl (fun ls hl => ?_)
    refine lv_aload_nN hx hb dX7_item_9 rfl (lv_at hl 0 rfl) ?_
    refine lv_ifnonnullN hx hb dX7_item_10 ?_
    refine lv_ldc2 (v := (-1)) hx hb hown (hts (.constantLong RX7 61 (-1)) (List.mem_of_getElem? (i := 2) rfl)) dX7_item_13 ?_
    refine lv_goto (tgt := 24) hx hb dX7_item_16 (by decide) ?_
    refine kLret (u := ()) hx hb hr hlocks hS dX7_item_24 ?_ (hP.sub [0, 9, 10, 1, 2, 3, 4, 5, 6, 7, 8] rfl) (hD.sub [0, 9, 10, 1, 2, 3, 4, 5, 6, 7, 8] (by decide) rfl)
    exact trivial
  · show W _ _ _ _ _ _ _ _ _ _ _ _ _ _ _ (F0 _ _ _ (Value.ref t0 :: _))
    refine lv_astore_n (lv' := [(3, .ref t0), (0, .ref h0), (1, .int t), (2, .int i)]) hx hb dX7_item_8 rfl hl (by decide) rfl (fun ls hl => ?_)
    refine lv_aload_n hx hb dX7_item_9 rfl (lv_at hl 0 rfl) ?_
    refine lv_ifnonnull (tgt := 19) hx hb dX7_item_10 (by decide) ?_
    refine lv_aload_n hx hb dX7_item_19 rfl (lv_at hl 0 rfl) ?_
    refine lv_iload_n hx hb dX7_item_20 rfl (lv_at hl 3 rfl) ?_
    refine kCallL (wr := [(h0, .inr (7, [.ref aS, .ref aA, .ref aU, .ref aX, .ref aW, .int pl, .int np, .int li, .int sw, .int lst, .long ad])), (t1, .inr (4, [.ref i1, .int n1, .int p1])), (i1, .inl (cL, 300, .inr (.inl f1))), (t2, .inr (4, [.ref i2, .int n2, .int p2])), (i2, .inl (cL, 300, .inr (.inl f2))), (t3, .inr (4, [.ref i3, .int n3, .int p3])), (i3, .inl (cL, 300, .inr (.inl f3))), (aU, .inr (6, [.ref bT, .ref aD, .int ch, .int ww])), (bT, .inl (cT, 4, .inr (.inr (.inr (.inr (k4 t0 t1 t2 t3))))))]) (va_runV (As := [.int i]) (rest := []) ⟨hx, hb, hml, hown, hts⟩ (g_itemAt l D cI cL cB cZ cT _ t0 i0 n0 p0 f0 i) (cwV 1 hts gX7_item_X4_itemAt rfl rfl rfl (by decide +kernel) ⟨Nat.le_of_ble_eq_true rfl, Nat.le_of_ble_eq_true rfl⟩) (kPreV hG hP hD [1, 2] rfl (by decide) 0 4 rfl rfl rfl) rfl rfl hl.1 rfl (lv_room (Nat.le_of_ble_eq_true rfl)) dX7_item_21 ⟨Nat.le_of_ble_eq_true rfl, Nat.le_of_ble_eq_true rfl⟩) hA hP hD hS [1, 2] [0, 3, 4, 5, 6, 7, 8, 9, 10] rfl rfl (by decide) (by decide) (fun r_2 u_r_2 H locs wr_2 hP hD hS => ?_)
    have hP : va_P D vwCl [(h0, .inr (7, [.ref aS, .ref aA, .ref aU, .ref aX, .ref aW, .int pl, .int np, .int li, .int sw, .int lst, .long ad])), (t1, .inr (4, [.ref i1, .int n1, .int p1])), (i1, .inl (cL, 300, .inr (.inl f1))), (t2, .inr (4, [.ref i2, .int n2, .int p2])), (i2, .inl (cL, 300, .inr (.inl f2))), (t3, .inr (4, [.ref i3, .int n3, .int p3])), (i3, .inl (cL, 300, .inr (.inl f3))), (aU, .inr (6, [.ref bT, .ref aD, .int ch, .int ww])), (bT, .inl (cT, 4, .inr (.inr (.inr (.inr (k4 t0 t1 t2 t3)))))), (t0, .inr (4, [.ref i0, .int n0, .int p0])), (i0, .inl (cL, 300, .inr (.inl f0)))] H := hP
    have hD : va_D A [(h0, .inr (7, [.ref aS, .ref aA, .ref aU, .ref aX, .ref aW, .int pl, .int np, .int li, .int sw, .int lst, .long ad])), (t1, .inr (4, [.ref i1, .int n1, .int p1])), (i1, .inl (cL, 300, .inr (.inl f1))), (t2, .inr (4, [.ref i2, .int n2, .int p2])), (i2, .inl (cL, 300, .inr (.inl f2))), (t3, .inr (4, [.ref i3, .int n3, .int p3])), (i3, .inl (cL, 300, .inr (.inl f3))), (aU, .inr (6, [.ref bT, .ref aD, .int ch, .int ww])), (bT, .inl (cT, 4, .inr (.inr (.inr (.inr (k4 t0 t1 t2 t3)))))), (t0, .inr (4, [.ref i0, .int n0, .int p0])), (i0, .inl (cL, 300, .inr (.inl f0)))] := hD
    try dsimp only at wr_2
    refine kLret (u := ()) hx hb hr hlocks hS dX7_item_24 ?_ (hP.sub [0, 7, 8, 9, 10, 1, 2, 3, 4, 5, 6] rfl) (hD.sub [0, 7, 8, 9, 10, 1, 2, 3, 4, 5, 6] (by decide) rfl)
    exact trivial
  · show W _ _ _ _ _ _ _ _ _ _ _ _ _ _ _ (F0 _ _ _ (Value.ref t1 :: _))
    refine lv_astore_n (lv' := [(3, .ref t1), (0, .ref h0), (1, .int t), (2, .int i)]) hx hb dX7_item_8 rfl hl (by decide) rfl (fun ls hl => ?_)
    refine lv_aload_n hx hb dX7_item_9 rfl (lv_at hl 0 rfl) ?_
    refine lv_ifnonnull (tgt := 19) hx hb dX7_item_10 (by decide) ?_
    refine lv_aload_n hx hb dX7_item_19 rfl (lv_at hl 0 rfl) ?_
    refine lv_iload_n hx hb dX7_item_20 rfl (lv_at hl 3 rfl) ?_
    refine kCallL (wr := [(h0, .inr (7, [.ref aS, .ref aA, .ref aU, .ref aX, .ref aW, .int pl, .int np, .int li, .int sw, .int lst, .long ad])), (t0, .inr (4, [.ref i0, .int n0, .int p0])), (i0, .inl (cL, 300, .inr (.inl f0))), (t2, .inr (4, [.ref i2, .int n2, .int p2])), (i2, .inl (cL, 300, .inr (.inl f2))), (t3, .inr (4, [.ref i3, .int n3, .int p3])), (i3, .inl (cL, 300, .inr (.inl f3))), (aU, .inr (6, [.ref bT, .ref aD, .int ch, .int ww])), (bT, .inl (cT, 4, .inr (.inr (.inr (.inr (k4 t0 t1 t2 t3))))))]) (va_runV (As := [.int i]) (rest := []) ⟨hx, hb, hml, hown, hts⟩ (g_itemAt l D cI cL cB cZ cT _ t1 i1 n1 p1 f1 i) (cwV 1 hts gX7_item_X4_itemAt rfl rfl rfl (by decide +kernel) ⟨Nat.le_of_ble_eq_true rfl, Nat.le_of_ble_eq_true rfl⟩) (kPreV hG hP hD [3, 4] rfl (by decide) 0 4 rfl rfl rfl) rfl rfl hl.1 rfl (lv_room (Nat.le_of_ble_eq_true rfl)) dX7_item_21 ⟨Nat.le_of_ble_eq_true rfl, Nat.le_of_ble_eq_true rfl⟩) hA hP hD hS [3, 4] [0, 1, 2, 5, 6, 7, 8, 9, 10] rfl rfl (by decide) (by decide) (fun r_3 u_r_3 H locs wr_3 hP hD hS => ?_)
    have hP : va_P D vwCl [(h0, .inr (7, [.ref aS, .ref aA, .ref aU, .ref aX, .ref aW, .int pl, .int np, .int li, .int sw, .int lst, .long ad])), (t0, .inr (4, [.ref i0, .int n0, .int p0])), (i0, .inl (cL, 300, .inr (.inl f0))), (t2, .inr (4, [.ref i2, .int n2, .int p2])), (i2, .inl (cL, 300, .inr (.inl f2))), (t3, .inr (4, [.ref i3, .int n3, .int p3])), (i3, .inl (cL, 300, .inr (.inl f3))), (aU, .inr (6, [.ref bT, .ref aD, .int ch, .int ww])), (bT, .inl (cT, 4, .inr (.inr (.inr (.inr (k4 t0 t1 t2 t3)))))), (t1, .inr (4, [.ref i1, .int n1, .int p1])), (i1, .inl (cL, 300, .inr (.inl f1)))] H := hP
    have hD : va_D A [(h0, .inr (7, [.ref aS, .ref aA, .ref aU, .ref aX, .ref aW, .int pl, .int np, .int li, .int sw, .int lst, .long ad])), (t0, .inr (4, [.ref i0, .int n0, .int p0])), (i0, .inl (cL, 300, .inr (.inl f0))), (t2, .inr (4, [.ref i2, .int n2, .int p2])), (i2, .inl (cL, 300, .inr (.inl f2))), (t3, .inr (4, [.ref i3, .int n3, .int p3])), (i3, .inl (cL, 300, .inr (.inl f3))), (aU, .inr (6, [.ref bT, .ref aD, .int ch, .int ww])), (bT, .inl (cT, 4, .inr (.inr (.inr (.inr (k4 t0 t1 t2 t3)))))), (t1, .inr (4, [.ref i1, .int n1, .int p1])), (i1, .inl (cL, 300, .inr (.inl f1)))] := hD
    try dsimp only at wr_3
    refine kLret (u := ()) hx hb hr hlocks hS dX7_item_24 ?_ (hP.sub [0, 7, 8, 1, 2, 9, 10, 3, 4, 5, 6] rfl) (hD.sub [0, 7, 8, 1, 2, 9, 10, 3, 4, 5, 6] (by decide) rfl)
    exact trivial
  · show W _ _ _ _ _ _ _ _ _ _ _ _ _ _ _ (F0 _ _ _ (Value.ref t2 :: _))
    refine lv_astore_n (lv' := [(3, .ref t2), (0, .ref h0), (1, .int t), (2, .int i)]) hx hb dX7_item_8 rfl hl (by decide) rfl (fun ls hl => ?_)
    refine lv_aload_n hx hb dX7_item_9 rfl (lv_at hl 0 rfl) ?_
    refine lv_ifnonnull (tgt := 19) hx hb dX7_item_10 (by decide) ?_
    refine lv_aload_n hx hb dX7_item_19 rfl (lv_at hl 0 rfl) ?_
    refine lv_iload_n hx hb dX7_item_20 rfl (lv_at hl 3 rfl) ?_
    refine kCallL (wr := [(h0, .inr (7, [.ref aS, .ref aA, .ref aU, .ref aX, .ref aW, .int pl, .int np, .int li, .int sw, .int lst, .long ad])), (t0, .inr (4, [.ref i0, .int n0, .int p0])), (i0, .inl (cL, 300, .inr (.inl f0))), (t1, .inr (4, [.ref i1, .int n1, .int p1])), (i1, .inl (cL, 300, .inr (.inl f1))), (t3, .inr (4, [.ref i3, .int n3, .int p3])), (i3, .inl (cL, 300, .inr (.inl f3))), (aU, .inr (6, [.ref bT, .ref aD, .int ch, .int ww])), (bT, .inl (cT, 4, .inr (.inr (.inr (.inr (k4 t0 t1 t2 t3))))))]) (va_runV (As := [.int i]) (rest := []) ⟨hx, hb, hml, hown, hts⟩ (g_itemAt l D cI cL cB cZ cT _ t2 i2 n2 p2 f2 i) (cwV 1 hts gX7_item_X4_itemAt rfl rfl rfl (by decide +kernel) ⟨Nat.le_of_ble_eq_true rfl, Nat.le_of_ble_eq_true rfl⟩) (kPreV hG hP hD [5, 6] rfl (by decide) 0 4 rfl rfl rfl) rfl rfl hl.1 rfl (lv_room (Nat.le_of_ble_eq_true rfl)) dX7_item_21 ⟨Nat.le_of_ble_eq_true rfl, Nat.le_of_ble_eq_true rfl⟩) hA hP hD hS [5, 6] [0, 1, 2, 3, 4, 7, 8, 9, 10] rfl rfl (by decide) (by decide) (fun r_4 u_r_4 H locs wr_4 hP hD hS => ?_)
    have hP : va_P D vwCl [(h0, .inr (7, [.ref aS, .ref aA, .ref aU, .ref aX, .ref aW, .int pl, .int np, .int li, .int sw, .int lst, .long ad])), (t0, .inr (4, [.ref i0, .int n0, .int p0])), (i0, .inl (cL, 300, .inr (.inl f0))), (t1, .inr (4, [.ref i1, .int n1, .int p1])), (i1, .inl (cL, 300, .inr (.inl f1))), (t3, .inr (4, [.ref i3, .int n3, .int p3])), (i3, .inl (cL, 300, .inr (.inl f3))), (aU, .inr (6, [.ref bT, .ref aD, .int ch, .int ww])), (bT, .inl (cT, 4, .inr (.inr (.inr (.inr (k4 t0 t1 t2 t3)))))), (t2, .inr (4, [.ref i2, .int n2, .int p2])), (i2, .inl (cL, 300, .inr (.inl f2)))] H := hP
    have hD : va_D A [(h0, .inr (7, [.ref aS, .ref aA, .ref aU, .ref aX, .ref aW, .int pl, .int np, .int li, .int sw, .int lst, .long ad])), (t0, .inr (4, [.ref i0, .int n0, .int p0])), (i0, .inl (cL, 300, .inr (.inl f0))), (t1, .inr (4, [.ref i1, .int n1, .int p1])), (i1, .inl (cL, 300, .inr (.inl f1))), (t3, .inr (4, [.ref i3, .int n3, .int p3])), (i3, .inl (cL, 300, .inr (.inl f3))), (aU, .inr (6, [.ref bT, .ref aD, .int ch, .int ww])), (bT, .inl (cT, 4, .inr (.inr (.inr (.inr (k4 t0 t1 t2 t3)))))), (t2, .inr (4, [.ref i2, .int n2, .int p2])), (i2, .inl (cL, 300, .inr (.inl f2)))] := hD
    try dsimp only at wr_4
    refine kLret (u := ()) hx hb hr hlocks hS dX7_item_24 ?_ (hP.sub [0, 7, 8, 1, 2, 3, 4, 9, 10, 5, 6] rfl) (hD.sub [0, 7, 8, 1, 2, 3, 4, 9, 10, 5, 6] (by decide) rfl)
    exact trivial
  · show W _ _ _ _ _ _ _ _ _ _ _ _ _ _ _ (F0 _ _ _ (Value.ref t3 :: _))
    refine lv_astore_n (lv' := [(3, .ref t3), (0, .ref h0), (1, .int t), (2, .int i)]) hx hb dX7_item_8 rfl hl (by decide) rfl (fun ls hl => ?_)
    refine lv_aload_n hx hb dX7_item_9 rfl (lv_at hl 0 rfl) ?_
    refine lv_ifnonnull (tgt := 19) hx hb dX7_item_10 (by decide) ?_
    refine lv_aload_n hx hb dX7_item_19 rfl (lv_at hl 0 rfl) ?_
    refine lv_iload_n hx hb dX7_item_20 rfl (lv_at hl 3 rfl) ?_
    refine kCallL (wr := [(h0, .inr (7, [.ref aS, .ref aA, .ref aU, .ref aX, .ref aW, .int pl, .int np, .int li, .int sw, .int lst, .long ad])), (t0, .inr (4, [.ref i0, .int n0, .int p0])), (i0, .inl (cL, 300, .inr (.inl f0))), (t1, .inr (4, [.ref i1, .int n1, .int p1])), (i1, .inl (cL, 300, .inr (.inl f1))), (t2, .inr (4, [.ref i2, .int n2, .int p2])), (i2, .inl (cL, 300, .inr (.inl f2))), (aU, .inr (6, [.ref bT, .ref aD, .int ch, .int ww])), (bT, .inl (cT, 4, .inr (.inr (.inr (.inr (k4 t0 t1 t2 t3))))))]) (va_runV (As := [.int i]) (rest := []) ⟨hx, hb, hml, hown, hts⟩ (g_itemAt l D cI cL cB cZ cT _ t3 i3 n3 p3 f3 i) (cwV 1 hts gX7_item_X4_itemAt rfl rfl rfl (by decide +kernel) ⟨Nat.le_of_ble_eq_true rfl, Nat.le_of_ble_eq_true rfl⟩) (kPreV hG hP hD [7, 8] rfl (by decide) 0 4 rfl rfl rfl) rfl rfl hl.1 rfl (lv_room (Nat.le_of_ble_eq_true rfl)) dX7_item_21 ⟨Nat.le_of_ble_eq_true rfl, Nat.le_of_ble_eq_true rfl⟩) hA hP hD hS [7, 8] [0, 1, 2, 3, 4, 5, 6, 9, 10] rfl rfl (by decide) (by decide) (fun r_5 u_r_5 H locs wr_5 hP hD hS => ?_)
    have hP : va_P D vwCl [(h0, .inr (7, [.ref aS, .ref aA, .ref aU, .ref aX, .ref aW, .int pl, .int np, .int li, .int sw, .int lst, .long ad])), (t0, .inr (4, [.ref i0, .int n0, .int p0])), (i0, .inl (cL, 300, .inr (.inl f0))), (t1, .inr (4, [.ref i1, .int n1, .int p1])), (i1, .inl (cL, 300, .inr (.inl f1))), (t2, .inr (4, [.ref i2, .int n2, .int p2])), (i2, .inl (cL, 300, .inr (.inl f2))), (aU, .inr (6, [.ref bT, .ref aD, .int ch, .int ww])), (bT, .inl (cT, 4, .inr (.inr (.inr (.inr (k4 t0 t1 t2 t3)))))), (t3, .inr (4, [.ref i3, .int n3, .int p3])), (i3, .inl (cL, 300, .inr (.inl f3)))] H := hP
    have hD : va_D A [(h0, .inr (7, [.ref aS, .ref aA, .ref aU, .ref aX, .ref aW, .int pl, .int np, .int li, .int sw, .int lst, .long ad])), (t0, .inr (4, [.ref i0, .int n0, .int p0])), (i0, .inl (cL, 300, .inr (.inl f0))), (t1, .inr (4, [.ref i1, .int n1, .int p1])), (i1, .inl (cL, 300, .inr (.inl f1))), (t2, .inr (4, [.ref i2, .int n2, .int p2])), (i2, .inl (cL, 300, .inr (.inl f2))), (aU, .inr (6, [.ref bT, .ref aD, .int ch, .int ww])), (bT, .inl (cT, 4, .inr (.inr (.inr (.inr (k4 t0 t1 t2 t3)))))), (t3, .inr (4, [.ref i3, .int n3, .int p3])), (i3, .inl (cL, 300, .inr (.inl f3)))] := hD
    try dsimp only at wr_5
    refine kLret (u := ()) hx hb hr hlocks hS dX7_item_24 ?_ (hP.sub [0, 7, 8, 1, 2, 3, 4, 5, 6, 9, 10] rfl) (hD.sub [0, 7, 8, 1, 2, 3, 4, 5, 6, 9, 10] (by decide) rfl)
    exact trivial
set_option maxRecDepth 100000 in
theorem iX7_lay_X7 : ∀ w ∈ wsX70, w ∈ wsX7_lay := fun w h => (goodIn_r (big := wsX7_lay) wsX70 [23, 24, 25, 26, 27, 28, 29, 30, 31, 32, 33] rfl (by decide +kernel) w h).1
set_option maxRecDepth 100000 in
theorem iX7_lay_X4 : ∀ w ∈ wsX40, w ∈ wsX7_lay := fun w h => (goodIn_r (big := wsX7_lay) wsX40 [34, 35, 36] rfl (by decide +kernel) w h).1
set_option maxRecDepth 100000 in
set_option maxHeartbeats 4000000 in
theorem g_lay (l : Launch) (D : va_G) (cI cL cB cZ cT : ClassId) (sz : Nat) (h0 aS aA aU aX aW : Nat) (pl np li sw lst : Int32) (ad : Int64) (bT aD : Nat) (ch ww : Int32) (t0 t1 t2 t3 : Nat) (i0 i1 i2 i3 : Nat) (n0 n1 n2 n3 p0 p1 p2 p3 : Int32) (f0 f1 f2 f3 : Nat → Int64) (t : Int32) (v : Int64) : kM (S := (Int32 × Int32 × Int32 × Int32 × Int32 × Int32 × Int32 × Int32 × (Nat → Int64) × (Nat → Int64) × (Nat → Int64) × (Nat → Int64))) l yX7_lay wsX7_lay ({ frames := 1, cells := 0, slots := 0, locals := 22 }) D (kT cI cL cB cZ cT) [.ref h0, .int t, .long v] [(h0, .inr (7, [.ref aS, .ref aA, .ref aU, .ref aX, .ref aW, .int pl, .int np, .int li, .int sw, .int lst, .long ad])), (aU, .inr (6, [.ref bT, .ref aD, .int ch, .int ww])), (bT, .inl (cT, 4, .inr (.inr (.inr (.inr (k4 t0 t1 t2 t3)))))), (t0, .inr (4, [.ref i0, .int n0, .int p0])), (i0, .inl (cL, 300, .inr (.inl f0))), (t1, .inr (4, [.ref i1, .int n1, .int p1])), (i1, .inl (cL, 300, .inr (.inl f1))), (t2, .inr (4, [.ref i2, .int n2, .int p2])), (i2, .inl (cL, 300, .inr (.inl f2))), (t3, .inr (4, [.ref i3, .int n3, .int p3])), (i3, .inl (cL, 300, .inr (.inl f3)))] sz eI (fun _ _ => True) (fun u => [(h0, .inr (7, [.ref aS, .ref aA, .ref aU, .ref aX, .ref aW, .int pl, .int np, .int li, .int sw, .int lst, .long ad])), (aU, .inr (6, [.ref bT, .ref aD, .int ch, .int ww])), (bT, .inl (cT, 4, .inr (.inr (.inr (.inr (k4 t0 t1 t2 t3)))))), (t0, .inr (4, [.ref i0, .int u.1, .int u.2.2.2.2.1])), (i0, .inl (cL, 300, .inr (.inl u.2.2.2.2.2.2.2.2.1))), (t1, .inr (4, [.ref i1, .int u.2.1, .int u.2.2.2.2.2.1])), (i1, .inl (cL, 300, .inr (.inl u.2.2.2.2.2.2.2.2.2.1))), (t2, .inr (4, [.ref i2, .int u.2.2.1, .int u.2.2.2.2.2.2.1])), (i2, .inl (cL, 300, .inr (.inl u.2.2.2.2.2.2.2.2.2.2.1))), (t3, .inr (4, [.ref i3, .int u.2.2.2.1, .int u.2.2.2.2.2.2.2.1])), (i3, .inl (cL, 300, .inr (.inl u.2.2.2.2.2.2.2.2.2.2.2)))]) 0 0 := by
  refine kStart (cc := cX7_lay) (maxL := 5) (ret := (some .int)) (own := RX7) (by decide) rfl rfl (Nat.le_of_ble_eq_true rfl) ?_
  intro p e s m args below meth c A ls hx hb hr hml hown hts hlocks hnm hsz hA hG hP hD hS hl
  have hK := hG.1
  have hl : lv_has ls 5 [(0, .ref h0), (1, .int t), (2, .long v)] := hl
  refine lv_aload_n hx hb dX7_lay_0 rfl (lv_at hl 0 rfl) ?_
  refine va_get (D := D) (ci := 7) (v := .ref aU) (C := RX7) (T := TX7) (N := 11) hx hb hts iX7_lay_X7 hown hK hP 0 rfl rfl 2 (by decide) (hts (.fieldLink RX7 26 "TapeCalculator" "units" "LTapeCalculator$Units;") (List.mem_of_getElem? (i := 1) rfl)) (fun _ h9 => h9) rfl dX7_lay_1 ?_
  refine lv_iload_n hx hb dX7_lay_4 rfl (lv_at hl 1 rfl) ?_
  refine kCallR (wr := [(h0, .inr (7, [.ref aS, .ref aA, .ref aU, .ref aX, .ref aW, .int pl, .int np, .int li, .int sw, .int lst, .long ad])), (t0, .inr (4, [.ref i0, .int n0, .int p0])), (i0, .inl (cL, 300, .inr (.inl f0))), (t1, .inr (4, [.ref i1, .int n1, .int p1])), (i1, .inl (cL, 300, .inr (.inl f1))), (t2, .inr (4, [.ref i2, .int n2, .int p2])), (i2, .inl (cL, 300, .inr (.inl f2))), (t3, .inr (4, [.ref i3, .int n3, .int p3])), (i3, .inl (cL, 300, .inr (.inl f3)))]) (va_runV (As := [.int t]) (rest := []) ⟨hx, hb, hml, hown, hts⟩ (g_tapeAt l D cI cL cB cZ cT _ aU bT aD ch ww t0 t1 t2 t3 t) (cwV 1 hts gX7_lay_X6_tapeAt rfl rfl rfl (by decide +kernel) ⟨Nat.le_of_ble_eq_true rfl, Nat.le_of_ble_eq_true rfl⟩) (kPreV hG hP hD [1, 2] rfl (by decide) 0 6 rfl rfl rfl) rfl rfl hl.1 rfl (lv_room (Nat.le_of_ble_eq_true rfl)) dX7_lay_5 ⟨Nat.le_of_ble_eq_true rfl, Nat.le_of_ble_eq_true rfl⟩) hA hP hD hS [1, 2] [0, 3, 4, 5, 6, 7, 8, 9, 10] rfl rfl (by decide) (by decide) (fun r_1 u_r_1 H locs wr_1 hP hD hS => ?_)
  have hP : va_P D vwCl [(h0, .inr (7, [.ref aS, .ref aA, .ref aU, .ref aX, .ref aW, .int pl, .int np, .int li, .int sw, .int lst, .long ad])), (t0, .inr (4, [.ref i0, .int n0, .int p0])), (i0, .inl (cL, 300, .inr (.inl f0))), (t1, .inr (4, [.ref i1, .int n1, .int p1])), (i1, .inl (cL, 300, .inr (.inl f1))), (t2, .inr (4, [.ref i2, .int n2, .int p2])), (i2, .inl (cL, 300, .inr (.inl f2))), (t3, .inr (4, [.ref i3, .int n3, .int p3])), (i3, .inl (cL, 300, .inr (.inl f3))), (aU, .inr (6, [.ref bT, .ref aD, .int ch, .int ww])), (bT, .inl (cT, 4, .inr (.inr (.inr (.inr (k4 t0 t1 t2 t3))))))] H := hP
  have hD : va_D A [(h0, .inr (7, [.ref aS, .ref aA, .ref aU, .ref aX, .ref aW, .int pl, .int np, .int li, .int sw, .int lst, .long ad])), (t0, .inr (4, [.ref i0, .int n0, .int p0])), (i0, .inl (cL, 300, .inr (.inl f0))), (t1, .inr (4, [.ref i1, .int n1, .int p1])), (i1, .inl (cL, 300, .inr (.inl f1))), (t2, .inr (4, [.ref i2, .int n2, .int p2])), (i2, .inl (cL, 300, .inr (.inl f2))), (t3, .inr (4, [.ref i3, .int n3, .int p3])), (i3, .inl (cL, 300, .inr (.inl f3))), (aU, .inr (6, [.ref bT, .ref aD, .int ch, .int ww])), (bT, .inl (cT, 4, .inr (.inr (.inr (.inr (k4 t0 t1 t2 t3))))))] := hD
  try dsimp only at wr_1
  rcases wr_1 with rfl | rfl | rfl | rfl | rfl
  · show W _ _ _ _ _ _ _ _ _ _ _ _ _ _ _ (F0 _ _ _ (Value.null :: _))
    refine lv_astoreN (lv' := [(4, .null), (0, .ref h0), (1, .int t), (2, .long v)]) hx hb dX7_lay_8 hl (by decide) rfl (fun ls hl => ?_)
    refine lv_aloadN hx hb dX7_lay_10 (lv_at hl 0 rfl) ?_
    refine lv_ifnullN (tgt := 22) hx hb dX7_lay_12 (by decide) ?_
    refine lv_iconst (v := (-1)) hx hb dX7_lay_22 (by decide) ?_
    refine kIret (u := (n0, n1, n2, n3, p0, p1, p2, p3, f0, f1, f2, f3)) hx hb hr rfl hlocks hS dX7_lay_23 ?_ (hP.sub [0, 9, 10, 1, 2, 3, 4, 5, 6, 7, 8] rfl) (hD.sub [0, 9, 10, 1, 2, 3, 4, 5, 6, 7, 8] (by decide) rfl)
    exact trivial
  · show W _ _ _ _ _ _ _ _ _ _ _ _ _ _ _ (F0 _ _ _ (Value.ref t0 :: _))
    refine lv_astore (lv' := [(4, .ref t0), (0, .ref h0), (1, .int t), (2, .long v)]) hx hb dX7_lay_8 hl (by decide) rfl (fun ls hl => ?_)
    refine lv_aload hx hb dX7_lay_10 (lv_at hl 0 rfl) ?_
    refine lv_ifnull hx hb dX7_lay_12 ?_
    refine lv_lload_n hx hb dX7_lay_15 rfl (lv_at hl 3 rfl) ?_
    refine kCallI (wr := [(h0, .inr (7, [.ref aS, .ref aA, .ref aU, .ref aX, .ref aW, .int pl, .int np, .int li, .int sw, .int lst, .long ad])), (t0, .inr (4, [.ref i0, .int n0, .int p0])), (i0, .inl (cL, 300, .inr (.inl f0))), (t1, .inr (4, [.ref i1, .int n1, .int p1])), (i1, .inl (cL, 300, .inr (.inl f1))), (t2, .inr (4, [.ref i2, .int n2, .int p2])), (i2, .inl (cL, 300, .inr (.inl f2))), (t3, .inr (4, [.ref i3, .int n3, .int p3])), (i3, .inl (cL, 300, .inr (.inl f3))), (aU, .inr (6, [.ref bT, .ref aD, .int ch, .int ww])), (bT, .inl (cT, 4, .inr (.inr (.inr (.inr (k4 t0 t1 t2 t3))))))]) (va_runS (As := [.long v]) (rest := []) ⟨hx, hb, hml, hown, hts⟩ (g_isItem l D cI cL cB cZ cT _ v) (va_cwS 1 hts gX7_lay_X7_isItem rfl rfl rfl (by decide +kernel) ⟨Nat.le_of_ble_eq_true rfl, Nat.le_of_ble_eq_true rfl⟩) (kPreS hG hP hD [] rfl (by decide)) rfl rfl hl.1 rfl (lv_room (Nat.le_of_ble_eq_true rfl)) dX7_lay_16 ⟨Nat.le_of_ble_eq_true rfl, Nat.le_of_ble_eq_true rfl⟩) hA hP hD hS [] [0, 1, 2, 3, 4, 5, 6, 7, 8, 9, 10] rfl rfl (by decide) (by decide) (fun r_2 u_r_2 H locs wr_2 hP hD hS => ?_)
    have hP : va_P D vwCl [(h0, .inr (7, [.ref aS, .ref aA, .ref aU, .ref aX, .ref aW, .int pl, .int np, .int li, .int sw, .int lst, .long ad])), (t0, .inr (4, [.ref i0, .int n0, .int p0])), (i0, .inl (cL, 300, .inr (.inl f0))), (t1, .inr (4, [.ref i1, .int n1, .int p1])), (i1, .inl (cL, 300, .inr (.inl f1))), (t2, .inr (4, [.ref i2, .int n2, .int p2])), (i2, .inl (cL, 300, .inr (.inl f2))), (t3, .inr (4, [.ref i3, .int n3, .int p3])), (i3, .inl (cL, 300, .inr (.inl f3))), (aU, .inr (6, [.ref bT, .ref aD, .int ch, .int ww])), (bT, .inl (cT, 4, .inr (.inr (.inr (.inr (k4 t0 t1 t2 t3))))))] H := hP
    have hD : va_D A [(h0, .inr (7, [.ref aS, .ref aA, .ref aU, .ref aX, .ref aW, .int pl, .int np, .int li, .int sw, .int lst, .long ad])), (t0, .inr (4, [.ref i0, .int n0, .int p0])), (i0, .inl (cL, 300, .inr (.inl f0))), (t1, .inr (4, [.ref i1, .int n1, .int p1])), (i1, .inl (cL, 300, .inr (.inl f1))), (t2, .inr (4, [.ref i2, .int n2, .int p2])), (i2, .inl (cL, 300, .inr (.inl f2))), (t3, .inr (4, [.ref i3, .int n3, .int p3])), (i3, .inl (cL, 300, .inr (.inl f3))), (aU, .inr (6, [.ref bT, .ref aD, .int ch, .int ww])), (bT, .inl (cT, 4, .inr (.inr (.inr (.inr (k4 t0 t1 t2 t3))))))] := hD
    try dsimp only at wr_2
    subst wr_2
    refine lv_if_ne (tgt := 24) hx hb dX7_lay_19 (by decide) (fun c_19_2 => ?_) (fun c_19_2 => ?_)
    · have t_19_2 := c_19_2
      try simp only [kb_eq0, kb_ne0, lg_cmp_lt, lg_cmp_le, lg_cmp_gt, lg_cmp_ge, lg_cmp_eq] at t_19_2
      try simp only [Int32.lt_iff_toInt_lt, Int32.le_iff_toInt_le, ← Int32.toInt_inj, Int64.lt_iff_toInt_lt, Int64.le_iff_toInt_le, ← Int64.toInt_inj, Int32.toInt_toInt64, Int32.reduceToInt, Int64.reduceToInt] at t_19_2
      refine lv_aload hx hb dX7_lay_24 (lv_at hl 0 rfl) ?_
      refine lv_lload_n hx hb dX7_lay_26 rfl (lv_at hl 3 rfl) ?_
      refine kCallI (wr := [(h0, .inr (7, [.ref aS, .ref aA, .ref aU, .ref aX, .ref aW, .int pl, .int np, .int li, .int sw, .int lst, .long ad])), (t1, .inr (4, [.ref i1, .int n1, .int p1])), (i1, .inl (cL, 300, .inr (.inl f1))), (t2, .inr (4, [.ref i2, .int n2, .int p2])), (i2, .inl (cL, 300, .inr (.inl f2))), (t3, .inr (4, [.ref i3, .int n3, .int p3])), (i3, .inl (cL, 300, .inr (.inl f3))), (aU, .inr (6, [.ref bT, .ref aD, .int ch, .int ww])), (bT, .inl (cT, 4, .inr (.inr (.inr (.inr (k4 t0 t1 t2 t3))))))]) (va_runV (As := [.long v]) (rest := []) ⟨hx, hb, hml, hown, hts⟩ (g_addBehind l D cI cL cB cZ cT _ t0 i0 n0 p0 f0 v) (cwV 1 hts gX7_lay_X4_addBehindAll rfl rfl rfl (by decide +kernel) ⟨Nat.le_of_ble_eq_true rfl, Nat.le_of_ble_eq_true rfl⟩) (kPreV hG hP hD [1, 2] rfl (by decide) 0 4 rfl rfl rfl) rfl rfl hl.1 rfl (lv_room (Nat.le_of_ble_eq_true rfl)) dX7_lay_27 ⟨Nat.le_of_ble_eq_true rfl, Nat.le_of_ble_eq_true rfl⟩) hA hP hD hS [1, 2] [0, 3, 4, 5, 6, 7, 8, 9, 10] rfl rfl (by decide) (by decide) (fun r_4 u_r_4 H locs wr_4 hP hD hS => ?_)
      have hP : va_P D vwCl [(h0, .inr (7, [.ref aS, .ref aA, .ref aU, .ref aX, .ref aW, .int pl, .int np, .int li, .int sw, .int lst, .long ad])), (t1, .inr (4, [.ref i1, .int n1, .int p1])), (i1, .inl (cL, 300, .inr (.inl f1))), (t2, .inr (4, [.ref i2, .int n2, .int p2])), (i2, .inl (cL, 300, .inr (.inl f2))), (t3, .inr (4, [.ref i3, .int n3, .int p3])), (i3, .inl (cL, 300, .inr (.inl f3))), (aU, .inr (6, [.ref bT, .ref aD, .int ch, .int ww])), (bT, .inl (cT, 4, .inr (.inr (.inr (.inr (k4 t0 t1 t2 t3)))))), (t0, .inr (4, [.ref i0, .int u_r_4.1, .int p0])), (i0, .inl (cL, 300, .inr (.inl u_r_4.2)))] H := hP
      have hD : va_D A [(h0, .inr (7, [.ref aS, .ref aA, .ref aU, .ref aX, .ref aW, .int pl, .int np, .int li, .int sw, .int lst, .long ad])), (t1, .inr (4, [.ref i1, .int n1, .int p1])), (i1, .inl (cL, 300, .inr (.inl f1))), (t2, .inr (4, [.ref i2, .int n2, .int p2])), (i2, .inl (cL, 300, .inr (.inl f2))), (t3, .inr (4, [.ref i3, .int n3, .int p3])), (i3, .inl (cL, 300, .inr (.inl f3))), (aU, .inr (6, [.ref bT, .ref aD, .int ch, .int ww])), (bT, .inl (cT, 4, .inr (.inr (.inr (.inr (k4 t0 t1 t2 t3)))))), (t0, .inr (4, [.ref i0, .int u_r_4.1, .int p0])), (i0, .inl (cL, 300, .inr (.inl u_r_4.2)))] := hD
      try dsimp only at wr_4
      refine lv_if_eq (tgt := 41) hx hb dX7_lay_30 (by decide) (fun c_30_4 => ?_) (fun c_30_4 => ?_)
      · have t_30_4 := c_30_4
        try simp only [kb_eq0, kb_ne0, lg_cmp_lt, lg_cmp_le, lg_cmp_gt, lg_cmp_ge, lg_cmp_eq] at t_30_4
        try simp only [Int32.lt_iff_toInt_lt, Int32.le_iff_toInt_le, ← Int32.toInt_inj, Int64.lt_iff_toInt_lt, Int64.le_iff_toInt_le, ← Int64.toInt_inj, Int32.toInt_toInt64, Int32.reduceToInt, Int64.reduceToInt] at t_30_4
        refine lv_bipush (v := (-2)) hx hb dX7_lay_41 (by decide) ?_
        refine kIret (u := (u_r_4.1, n1, n2, n3, p0, p1, p2, p3, u_r_4.2, f1, f2, f3)) hx hb hr rfl hlocks hS dX7_lay_43 ?_ (hP.sub [0, 7, 8, 9, 10, 1, 2, 3, 4, 5, 6] rfl) (hD.sub [0, 7, 8, 9, 10, 1, 2, 3, 4, 5, 6] (by decide) rfl)
        exact trivial
      · have t_30_4 := c_30_4
        try simp only [kb_eq0, kb_ne0, lg_cmp_lt, lg_cmp_le, lg_cmp_gt, lg_cmp_ge, lg_cmp_eq] at t_30_4
        try simp only [Int32.lt_iff_toInt_lt, Int32.le_iff_toInt_le, ← Int32.toInt_inj, Int64.lt_iff_toInt_lt, Int64.le_iff_toInt_le, ← Int64.toInt_inj, Int32.toInt_toInt64, Int32.reduceToInt, Int64.reduceToInt] at t_30_4
        refine lv_aload hx hb dX7_lay_33 (lv_at hl 0 rfl) ?_
        refine va_get (D := D) (ci := 4) (v := .int u_r_4.1) (C := RX4) (T := TX4) (N := 3) hx hb hts iX7_lay_X4 hown hK hP 9 rfl rfl 1 (by decide) (hts (.fieldLink RX7 131 "TapeCalculator$Tape" "count" "I") (List.mem_of_getElem? (i := 2) rfl)) (fun _ h9 => h9) rfl dX7_lay_35 ?_
        refine lv_goto (tgt := 43) hx hb dX7_lay_38 (by decide) ?_
        refine kIret (u := (u_r_4.1, n1, n2, n3, p0, p1, p2, p3, u_r_4.2, f1, f2, f3)) hx hb hr rfl hlocks hS dX7_lay_43 ?_ (hP.sub [0, 7, 8, 9, 10, 1, 2, 3, 4, 5, 6] rfl) (hD.sub [0, 7, 8, 9, 10, 1, 2, 3, 4, 5, 6] (by decide) rfl)
        exact trivial
    · have t_19_2 := c_19_2
      try simp only [kb_eq0, kb_ne0, lg_cmp_lt, lg_cmp_le, lg_cmp_gt, lg_cmp_ge, lg_cmp_eq] at t_19_2
      try simp only [Int32.lt_iff_toInt_lt, Int32.le_iff_toInt_le, ← Int32.toInt_inj, Int64.lt_iff_toInt_lt, Int64.le_iff_toInt_le, ← Int64.toInt_inj, Int32.toInt_toInt64, Int32.reduceToInt, Int64.reduceToInt] at t_19_2
      refine lv_iconst (v := (-1)) hx hb dX7_lay_22 (by decide) ?_
      refine kIret (u := (n0, n1, n2, n3, p0, p1, p2, p3, f0, f1, f2, f3)) hx hb hr rfl hlocks hS dX7_lay_23 ?_ (hP.sub [0, 9, 10, 1, 2, 3, 4, 5, 6, 7, 8] rfl) (hD.sub [0, 9, 10, 1, 2, 3, 4, 5, 6, 7, 8] (by decide) rfl)
      exact trivial
  · show W _ _ _ _ _ _ _ _ _ _ _ _ _ _ _ (F0 _ _ _ (Value.ref t1 :: _))
    refine lv_astore (lv' := [(4, .ref t1), (0, .ref h0), (1, .int t), (2, .long v)]) hx hb dX7_lay_8 hl (by decide) rfl (fun ls hl => ?_)
    refine lv_aload hx hb dX7_lay_10 (lv_at hl 0 rfl) ?_
    refine lv_ifnull hx hb dX7_lay_12 ?_
    refine lv_lload_n hx hb dX7_lay_15 rfl (lv_at hl 3 rfl) ?_
    refine kCallI (wr := [(h0, .inr (7, [.ref aS, .ref aA, .ref aU, .ref aX, .ref aW, .int pl, .int np, .int li, .int sw, .int lst, .long ad])), (t0, .inr (4, [.ref i0, .int n0, .int p0])), (i0, .inl (cL, 300, .inr (.inl f0))), (t1, .inr (4, [.ref i1, .int n1, .int p1])), (i1, .inl (cL, 300, .inr (.inl f1))), (t2, .inr (4, [.ref i2, .int n2, .int p2])), (i2, .inl (cL, 300, .inr (.inl f2))), (t3, .inr (4, [.ref i3, .int n3, .int p3])), (i3, .inl (cL, 300, .inr (.inl f3))), (aU, .inr (6, [.ref bT, .ref aD, .int ch, .int ww])), (bT, .inl (cT, 4, .inr (.inr (.inr (.inr (k4 t0 t1 t2 t3))))))]) (va_runS (As := [.long v]) (rest := []) ⟨hx, hb, hml, hown, hts⟩ (g_isItem l D cI cL cB cZ cT _ v) (va_cwS 1 hts gX7_lay_X7_isItem rfl rfl rfl (by decide +kernel) ⟨Nat.le_of_ble_eq_true rfl, Nat.le_of_ble_eq_true rfl⟩) (kPreS hG hP hD [] rfl (by decide)) rfl rfl hl.1 rfl (lv_room (Nat.le_of_ble_eq_true rfl)) dX7_lay_16 ⟨Nat.le_of_ble_eq_true rfl, Nat.le_of_ble_eq_true rfl⟩) hA hP hD hS [] [0, 1, 2, 3, 4, 5, 6, 7, 8, 9, 10] rfl rfl (by decide) (by decide) (fun r_6 u_r_6 H locs wr_6 hP hD hS => ?_)
    have hP : va_P D vwCl [(h0, .inr (7, [.ref aS, .ref aA, .ref aU, .ref aX, .ref aW, .int pl, .int np, .int li, .int sw, .int lst, .long ad])), (t0, .inr (4, [.ref i0, .int n0, .int p0])), (i0, .inl (cL, 300, .inr (.inl f0))), (t1, .inr (4, [.ref i1, .int n1, .int p1])), (i1, .inl (cL, 300, .inr (.inl f1))), (t2, .inr (4, [.ref i2, .int n2, .int p2])), (i2, .inl (cL, 300, .inr (.inl f2))), (t3, .inr (4, [.ref i3, .int n3, .int p3])), (i3, .inl (cL, 300, .inr (.inl f3))), (aU, .inr (6, [.ref bT, .ref aD, .int ch, .int ww])), (bT, .inl (cT, 4, .inr (.inr (.inr (.inr (k4 t0 t1 t2 t3))))))] H := hP
    have hD : va_D A [(h0, .inr (7, [.ref aS, .ref aA, .ref aU, .ref aX, .ref aW, .int pl, .int np, .int li, .int sw, .int lst, .long ad])), (t0, .inr (4, [.ref i0, .int n0, .int p0])), (i0, .inl (cL, 300, .inr (.inl f0))), (t1, .inr (4, [.ref i1, .int n1, .int p1])), (i1, .inl (cL, 300, .inr (.inl f1))), (t2, .inr (4, [.ref i2, .int n2, .int p2])), (i2, .inl (cL, 300, .inr (.inl f2))), (t3, .inr (4, [.ref i3, .int n3, .int p3])), (i3, .inl (cL, 300, .inr (.inl f3))), (aU, .inr (6, [.ref bT, .ref aD, .int ch, .int ww])), (bT, .inl (cT, 4, .inr (.inr (.inr (.inr (k4 t0 t1 t2 t3))))))] := hD
    try dsimp only at wr_6
    subst wr_6
    refine lv_if_ne (tgt := 24) hx hb dX7_lay_19 (by decide) (fun c_19_6 => ?_) (fun c_19_6 => ?_)
    · have t_19_6 := c_19_6
      try simp only [kb_eq0, kb_ne0, lg_cmp_lt, lg_cmp_le, lg_cmp_gt, lg_cmp_ge, lg_cmp_eq] at t_19_6
      try simp only [Int32.lt_iff_toInt_lt, Int32.le_iff_toInt_le, ← Int32.toInt_inj, Int64.lt_iff_toInt_lt, Int64.le_iff_toInt_le, ← Int64.toInt_inj, Int32.toInt_toInt64, Int32.reduceToInt, Int64.reduceToInt] at t_19_6
      refine lv_aload hx hb dX7_lay_24 (lv_at hl 0 rfl) ?_
      refine lv_lload_n hx hb dX7_lay_26 rfl (lv_at hl 3 rfl) ?_
      refine kCallI (wr := [(h0, .inr (7, [.ref aS, .ref aA, .ref aU, .ref aX, .ref aW, .int pl, .int np, .int li, .int sw, .int lst, .long ad])), (t0, .inr (4, [.ref i0, .int n0, .int p0])), (i0, .inl (cL, 300, .inr (.inl f0))), (t2, .inr (4, [.ref i2, .int n2, .int p2])), (i2, .inl (cL, 300, .inr (.inl f2))), (t3, .inr (4, [.ref i3, .int n3, .int p3])), (i3, .inl (cL, 300, .inr (.inl f3))), (aU, .inr (6, [.ref bT, .ref aD, .int ch, .int ww])), (bT, .inl (cT, 4, .inr (.inr (.inr (.inr (k4 t0 t1 t2 t3))))))]) (va_runV (As := [.long v]) (rest := []) ⟨hx, hb, hml, hown, hts⟩ (g_addBehind l D cI cL cB cZ cT _ t1 i1 n1 p1 f1 v) (cwV 1 hts gX7_lay_X4_addBehindAll rfl rfl rfl (by decide +kernel) ⟨Nat.le_of_ble_eq_true rfl, Nat.le_of_ble_eq_true rfl⟩) (kPreV hG hP hD [3, 4] rfl (by decide) 0 4 rfl rfl rfl) rfl rfl hl.1 rfl (lv_room (Nat.le_of_ble_eq_true rfl)) dX7_lay_27 ⟨Nat.le_of_ble_eq_true rfl, Nat.le_of_ble_eq_true rfl⟩) hA hP hD hS [3, 4] [0, 1, 2, 5, 6, 7, 8, 9, 10] rfl rfl (by decide) (by decide) (fun r_8 u_r_8 H locs wr_8 hP hD hS => ?_)
      have hP : va_P D vwCl [(h0, .inr (7, [.ref aS, .ref aA, .ref aU, .ref aX, .ref aW, .int pl, .int np, .int li, .int sw, .int lst, .long ad])), (t0, .inr (4, [.ref i0, .int n0, .int p0])), (i0, .inl (cL, 300, .inr (.inl f0))), (t2, .inr (4, [.ref i2, .int n2, .int p2])), (i2, .inl (cL, 300, .inr (.inl f2))), (t3, .inr (4, [.ref i3, .int n3, .int p3])), (i3, .inl (cL, 300, .inr (.inl f3))), (aU, .inr (6, [.ref bT, .ref aD, .int ch, .int ww])), (bT, .inl (cT, 4, .inr (.inr (.inr (.inr (k4 t0 t1 t2 t3)))))), (t1, .inr (4, [.ref i1, .int u_r_8.1, .int p1])), (i1, .inl (cL, 300, .inr (.inl u_r_8.2)))] H := hP
      have hD : va_D A [(h0, .inr (7, [.ref aS, .ref aA, .ref aU, .ref aX, .ref aW, .int pl, .int np, .int li, .int sw, .int lst, .long ad])), (t0, .inr (4, [.ref i0, .int n0, .int p0])), (i0, .inl (cL, 300, .inr (.inl f0))), (t2, .inr (4, [.ref i2, .int n2, .int p2])), (i2, .inl (cL, 300, .inr (.inl f2))), (t3, .inr (4, [.ref i3, .int n3, .int p3])), (i3, .inl (cL, 300, .inr (.inl f3))), (aU, .inr (6, [.ref bT, .ref aD, .int ch, .int ww])), (bT, .inl (cT, 4, .inr (.inr (.inr (.inr (k4 t0 t1 t2 t3)))))), (t1, .inr (4, [.ref i1, .int u_r_8.1, .int p1])), (i1, .inl (cL, 300, .inr (.inl u_r_8.2)))] := hD
      try dsimp only at wr_8
      refine lv_if_eq (tgt := 41) hx hb dX7_lay_30 (by decide) (fun c_30_8 => ?_) (fun c_30_8 => ?_)
      · have t_30_8 := c_30_8
        try simp only [kb_eq0, kb_ne0, lg_cmp_lt, lg_cmp_le, lg_cmp_gt, lg_cmp_ge, lg_cmp_eq] at t_30_8
        try simp only [Int32.lt_iff_toInt_lt, Int32.le_iff_toInt_le, ← Int32.toInt_inj, Int64.lt_iff_toInt_lt, Int64.le_iff_toInt_le, ← Int64.toInt_inj, Int32.toInt_toInt64, Int32.reduceToInt, Int64.reduceToInt] at t_30_8
        refine lv_bipush (v := (-2)) hx hb dX7_lay_41 (by decide) ?_
        refine kIret (u := (n0, u_r_8.1, n2, n3, p0, p1, p2, p3, f0, u_r_8.2, f2, f3)) hx hb hr rfl hlocks hS dX7_lay_43 ?_ (hP.sub [0, 7, 8, 1, 2, 9, 10, 3, 4, 5, 6] rfl) (hD.sub [0, 7, 8, 1, 2, 9, 10, 3, 4, 5, 6] (by decide) rfl)
        exact trivial
      · have t_30_8 := c_30_8
        try simp only [kb_eq0, kb_ne0, lg_cmp_lt, lg_cmp_le, lg_cmp_gt, lg_cmp_ge, lg_cmp_eq] at t_30_8
        try simp only [Int32.lt_iff_toInt_lt, Int32.le_iff_toInt_le, ← Int32.toInt_inj, Int64.lt_iff_toInt_lt, Int64.le_iff_toInt_le, ← Int64.toInt_inj, Int32.toInt_toInt64, Int32.reduceToInt, Int64.reduceToInt] at t_30_8
        refine lv_aload hx hb dX7_lay_33 (lv_at hl 0 rfl) ?_
        refine va_get (D := D) (ci := 4) (v := .int u_r_8.1) (C := RX4) (T := TX4) (N := 3) hx hb hts iX7_lay_X4 hown hK hP 9 rfl rfl 1 (by decide) (hts (.fieldLink RX7 131 "TapeCalculator$Tape" "count" "I") (List.mem_of_getElem? (i := 2) rfl)) (fun _ h9 => h9) rfl dX7_lay_35 ?_
        refine lv_goto (tgt := 43) hx hb dX7_lay_38 (by decide) ?_
        refine kIret (u := (n0, u_r_8.1, n2, n3, p0, p1, p2, p3, f0, u_r_8.2, f2, f3)) hx hb hr rfl hlocks hS dX7_lay_43 ?_ (hP.sub [0, 7, 8, 1, 2, 9, 10, 3, 4, 5, 6] rfl) (hD.sub [0, 7, 8, 1, 2, 9, 10, 3, 4, 5, 6] (by decide) rfl)
        exact trivial
    · have t_19_6 := c_19_6
      try simp only [kb_eq0, kb_ne0, lg_cmp_lt, lg_cmp_le, lg_cmp_gt, lg_cmp_ge, lg_cmp_eq] at t_19_6
      try simp only [Int32.lt_iff_toInt_lt, Int32.le_iff_toInt_le, ← Int32.toInt_inj, Int64.lt_iff_toInt_lt, Int64.le_iff_toInt_le, ← Int64.toInt_inj, Int32.toInt_toInt64, Int32.reduceToInt, Int64.reduceToInt] at t_19_6
      refine lv_iconst (v := (-1)) hx hb dX7_lay_22 (by decide) ?_
      refine kIret (u := (n0, n1, n2, n3, p0, p1, p2, p3, f0, f1, f2, f3)) hx hb hr rfl hlocks hS dX7_lay_23 ?_ (hP.sub [0, 9, 10, 1, 2, 3, 4, 5, 6, 7, 8] rfl) (hD.sub [0, 9, 10, 1, 2, 3, 4, 5, 6, 7, 8] (by decide) rfl)
      exact trivial
  · show W _ _ _ _ _ _ _ _ _ _ _ _ _ _ _ (F0 _ _ _ (Value.ref t2 :: _))
    refine lv_astore (lv' := [(4, .ref t2), (0, .ref h0), (1, .int t), (2, .long v)]) hx hb dX7_lay_8 hl (by decide) rfl (fun ls hl => ?_)
    refine lv_aload hx hb dX7_lay_10 (lv_at hl 0 rfl) ?_
    refine lv_ifnull hx hb dX7_lay_12 ?_
    refine lv_lload_n hx hb dX7_lay_15 rfl (lv_at hl 3 rfl) ?_
    refine kCallI (wr := [(h0, .inr (7, [.ref aS, .ref aA, .ref aU, .ref aX, .ref aW, .int pl, .int np, .int li, .int sw, .int lst, .long ad])), (t0, .inr (4, [.ref i0, .int n0, .int p0])), (i0, .inl (cL, 300, .inr (.inl f0))), (t1, .inr (4, [.ref i1, .int n1, .int p1])), (i1, .inl (cL, 300, .inr (.inl f1))), (t2, .inr (4, [.ref i2, .int n2, .int p2])), (i2, .inl (cL, 300, .inr (.inl f2))), (t3, .inr (4, [.ref i3, .int n3, .int p3])), (i3, .inl (cL, 300, .inr (.inl f3))), (aU, .inr (6, [.ref bT, .ref aD, .int ch, .int ww])), (bT, .inl (cT, 4, .inr (.inr (.inr (.inr (k4 t0 t1 t2 t3))))))]) (va_runS (As := [.long v]) (rest := []) ⟨hx, hb, hml, hown, hts⟩ (g_isItem l D cI cL cB cZ cT _ v) (va_cwS 1 hts gX7_lay_X7_isItem rfl rfl rfl (by decide +kernel) ⟨Nat.le_of_ble_eq_true rfl, Nat.le_of_ble_eq_true rfl⟩) (kPreS hG hP hD [] rfl (by decide)) rfl rfl hl.1 rfl (lv_room (Nat.le_of_ble_eq_true rfl)) dX7_lay_16 ⟨Nat.le_of_ble_eq_true rfl, Nat.le_of_ble_eq_true rfl⟩) hA hP hD hS [] [0, 1, 2, 3, 4, 5, 6, 7, 8, 9, 10] rfl rfl (by decide) (by decide) (fun r_10 u_r_10 H locs wr_10 hP hD hS => ?_)
    have hP : va_P D vwCl [(h0, .inr (7, [.ref aS, .ref aA, .ref aU, .ref aX, .ref aW, .int pl, .int np, .int li, .int sw, .int lst, .long ad])), (t0, .inr (4, [.ref i0, .int n0, .int p0])), (i0, .inl (cL, 300, .inr (.inl f0))), (t1, .inr (4, [.ref i1, .int n1, .int p1])), (i1, .inl (cL, 300, .inr (.inl f1))), (t2, .inr (4, [.ref i2, .int n2, .int p2])), (i2, .inl (cL, 300, .inr (.inl f2))), (t3, .inr (4, [.ref i3, .int n3, .int p3])), (i3, .inl (cL, 300, .inr (.inl f3))), (aU, .inr (6, [.ref bT, .ref aD, .int ch, .int ww])), (bT, .inl (cT, 4, .inr (.inr (.inr (.inr (k4 t0 t1 t2 t3))))))] H := hP
    have hD : va_D A [(h0, .inr (7, [.ref aS, .ref aA, .ref aU, .ref aX, .ref aW, .int pl, .int np, .int li, .int sw, .int lst, .long ad])), (t0, .inr (4, [.ref i0, .int n0, .int p0])), (i0, .inl (cL, 300, .inr (.inl f0))), (t1, .inr (4, [.ref i1, .int n1, .int p1])), (i1, .inl (cL, 300, .inr (.inl f1))), (t2, .inr (4, [.ref i2, .int n2, .int p2])), (i2, .inl (cL, 300, .inr (.inl f2))), (t3, .inr (4, [.ref i3, .int n3, .int p3])), (i3, .inl (cL, 300, .inr (.inl f3))), (aU, .inr (6, [.ref bT, .ref aD, .int ch, .int ww])), (bT, .inl (cT, 4, .inr (.inr (.inr (.inr (k4 t0 t1 t2 t3))))))] := hD
    try dsimp only at wr_10
    subst wr_10
    refine lv_if_ne (tgt := 24) hx hb dX7_lay_19 (by decide) (fun c_19_10 => ?_) (fun c_19_10 => ?_)
    · have t_19_10 := c_19_10
      try simp only [kb_eq0, kb_ne0, lg_cmp_lt, lg_cmp_le, lg_cmp_gt, lg_cmp_ge, lg_cmp_eq] at t_19_10
      try simp only [Int32.lt_iff_toInt_lt, Int32.le_iff_toInt_le, ← Int32.toInt_inj, Int64.lt_iff_toInt_lt, Int64.le_iff_toInt_le, ← Int64.toInt_inj, Int32.toInt_toInt64, Int32.reduceToInt, Int64.reduceToInt] at t_19_10
      refine lv_aload hx hb dX7_lay_24 (lv_at hl 0 rfl) ?_
      refine lv_lload_n hx hb dX7_lay_26 rfl (lv_at hl 3 rfl) ?_
      refine kCallI (wr := [(h0, .inr (7, [.ref aS, .ref aA, .ref aU, .ref aX, .ref aW, .int pl, .int np, .int li, .int sw, .int lst, .long ad])), (t0, .inr (4, [.ref i0, .int n0, .int p0])), (i0, .inl (cL, 300, .inr (.inl f0))), (t1, .inr (4, [.ref i1, .int n1, .int p1])), (i1, .inl (cL, 300, .inr (.inl f1))), (t3, .inr (4, [.ref i3, .int n3, .int p3])), (i3, .inl (cL, 300, .inr (.inl f3))), (aU, .inr (6, [.ref bT, .ref aD, .int ch, .int ww])), (bT, .inl (cT, 4, .inr (.inr (.inr (.inr (k4 t0 t1 t2 t3))))))]) (va_runV (As := [.long v]) (rest := []) ⟨hx, hb, hml, hown, hts⟩ (g_addBehind l D cI cL cB cZ cT _ t2 i2 n2 p2 f2 v) (cwV 1 hts gX7_lay_X4_addBehindAll rfl rfl rfl (by decide +kernel) ⟨Nat.le_of_ble_eq_true rfl, Nat.le_of_ble_eq_true rfl⟩) (kPreV hG hP hD [5, 6] rfl (by decide) 0 4 rfl rfl rfl) rfl rfl hl.1 rfl (lv_room (Nat.le_of_ble_eq_true rfl)) dX7_lay_27 ⟨Nat.le_of_ble_eq_true rfl, Nat.le_of_ble_eq_true rfl⟩) hA hP hD hS [5, 6] [0, 1, 2, 3, 4, 7, 8, 9, 10] rfl rfl (by decide) (by decide) (fun r_12 u_r_12 H locs wr_12 hP hD hS => ?_)
      have hP : va_P D vwCl [(h0, .inr (7, [.ref aS, .ref aA, .ref aU, .ref aX, .ref aW, .int pl, .int np, .int li, .int sw, .int lst, .long ad])), (t0, .inr (4, [.ref i0, .int n0, .int p0])), (i0, .inl (cL, 300, .inr (.inl f0))), (t1, .inr (4, [.ref i1, .int n1, .int p1])), (i1, .inl (cL, 300, .inr (.inl f1))), (t3, .inr (4, [.ref i3, .int n3, .int p3])), (i3, .inl (cL, 300, .inr (.inl f3))), (aU, .inr (6, [.ref bT, .ref aD, .int ch, .int ww])), (bT, .inl (cT, 4, .inr (.inr (.inr (.inr (k4 t0 t1 t2 t3)))))), (t2, .inr (4, [.ref i2, .int u_r_12.1, .int p2])), (i2, .inl (cL, 300, .inr (.inl u_r_12.2)))] H := hP
      have hD : va_D A [(h0, .inr (7, [.ref aS, .ref aA, .ref aU, .ref aX, .ref aW, .int pl, .int np, .int li, .int sw, .int lst, .long ad])), (t0, .inr (4, [.ref i0, .int n0, .int p0])), (i0, .inl (cL, 300, .inr (.inl f0))), (t1, .inr (4, [.ref i1, .int n1, .int p1])), (i1, .inl (cL, 300, .inr (.inl f1))), (t3, .inr (4, [.ref i3, .int n3, .int p3])), (i3, .inl (cL, 300, .inr (.inl f3))), (aU, .inr (6, [.ref bT, .ref aD, .int ch, .int ww])), (bT, .inl (cT, 4, .inr (.inr (.inr (.inr (k4 t0 t1 t2 t3)))))), (t2, .inr (4, [.ref i2, .int u_r_12.1, .int p2])), (i2, .inl (cL, 300, .inr (.inl u_r_12.2)))] := hD
      try dsimp only at wr_12
      refine lv_if_eq (tgt := 41) hx hb dX7_lay_30 (by decide) (fun c_30_12 => ?_) (fun c_30_12 => ?_)
      · have t_30_12 := c_30_12
        try simp only [kb_eq0, kb_ne0, lg_cmp_lt, lg_cmp_le, lg_cmp_gt, lg_cmp_ge, lg_cmp_eq] at t_30_12
        try simp only [Int32.lt_iff_toInt_lt, Int32.le_iff_toInt_le, ← Int32.toInt_inj, Int64.lt_iff_toInt_lt, Int64.le_iff_toInt_le, ← Int64.toInt_inj, Int32.toInt_toInt64, Int32.reduceToInt, Int64.reduceToInt] at t_30_12
        refine lv_bipush (v := (-2)) hx hb dX7_lay_41 (by decide) ?_
        refine kIret (u := (n0, n1, u_r_12.1, n3, p0, p1, p2, p3, f0, f1, u_r_12.2, f3)) hx hb hr rfl hlocks hS dX7_lay_43 ?_ (hP.sub [0, 7, 8, 1, 2, 3, 4, 9, 10, 5, 6] rfl) (hD.sub [0, 7, 8, 1, 2, 3, 4, 9, 10, 5, 6] (by decide) rfl)
        exact trivial
      · have t_30_12 := c_30_12
        try simp only [kb_eq0, kb_ne0, lg_cmp_lt, lg_cmp_le, lg_cmp_gt, lg_cmp_ge, lg_cmp_eq] at t_30_12
        try simp only [Int32.lt_iff_toInt_lt, Int32.le_iff_toInt_le, ← Int32.toInt_inj, Int64.lt_iff_toInt_lt, Int64.le_iff_toInt_le, ← Int64.toInt_inj, Int32.toInt_toInt64, Int32.reduceToInt, Int64.reduceToInt] at t_30_12
        refine lv_aload hx hb dX7_lay_33 (lv_at hl 0 rfl) ?_
        refine va_get (D := D) (ci := 4) (v := .int u_r_12.1) (C := RX4) (T := TX4) (N := 3) hx hb hts iX7_lay_X4 hown hK hP 9 rfl rfl 1 (by decide) (hts (.fieldLink RX7 131 "TapeCalculator$Tape" "count" "I") (List.mem_of_getElem? (i := 2) rfl)) (fun _ h9 => h9) rfl dX7_lay_35 ?_
        refine lv_goto (tgt := 43) hx hb dX7_lay_38 (by decide) ?_
        refine kIret (u := (n0, n1, u_r_12.1, n3, p0, p1, p2, p3, f0, f1, u_r_12.2, f3)) hx hb hr rfl hlocks hS dX7_lay_43 ?_ (hP.sub [0, 7, 8, 1, 2, 3, 4, 9, 10, 5, 6] rfl) (hD.sub [0, 7, 8, 1, 2, 3, 4, 9, 10, 5, 6] (by decide) rfl)
        exact trivial
    · have t_19_10 := c_19_10
      try simp only [kb_eq0, kb_ne0, lg_cmp_lt, lg_cmp_le, lg_cmp_gt, lg_cmp_ge, lg_cmp_eq] at t_19_10
      try simp only [Int32.lt_iff_toInt_lt, Int32.le_iff_toInt_le, ← Int32.toInt_inj, Int64.lt_iff_toInt_lt, Int64.le_iff_toInt_le, ← Int64.toInt_inj, Int32.toInt_toInt64, Int32.reduceToInt, Int64.reduceToInt] at t_19_10
      refine lv_iconst (v := (-1)) hx hb dX7_lay_22 (by decide) ?_
      refine kIret (u := (n0, n1, n2, n3, p0, p1, p2, p3, f0, f1, f2, f3)) hx hb hr rfl hlocks hS dX7_lay_23 ?_ (hP.sub [0, 9, 10, 1, 2, 3, 4, 5, 6, 7, 8] rfl) (hD.sub [0, 9, 10, 1, 2, 3, 4, 5, 6, 7, 8] (by decide) rfl)
      exact trivial
  · show W _ _ _ _ _ _ _ _ _ _ _ _ _ _ _ (F0 _ _ _ (Value.ref t3 :: _))
    refine lv_astore (lv' := [(4, .ref t3), (0, .ref h0), (1, .int t), (2, .long v)]) hx hb dX7_lay_8 hl (by decide) rfl (fun ls hl => ?_)
    refine lv_aload hx hb dX7_lay_10 (lv_at hl 0 rfl) ?_
    refine lv_ifnull hx hb dX7_lay_12 ?_
    refine lv_lload_n hx hb dX7_lay_15 rfl (lv_at hl 3 rfl) ?_
    refine kCallI (wr := [(h0, .inr (7, [.ref aS, .ref aA, .ref aU, .ref aX, .ref aW, .int pl, .int np, .int li, .int sw, .int lst, .long ad])), (t0, .inr (4, [.ref i0, .int n0, .int p0])), (i0, .inl (cL, 300, .inr (.inl f0))), (t1, .inr (4, [.ref i1, .int n1, .int p1])), (i1, .inl (cL, 300, .inr (.inl f1))), (t2, .inr (4, [.ref i2, .int n2, .int p2])), (i2, .inl (cL, 300, .inr (.inl f2))), (t3, .inr (4, [.ref i3, .int n3, .int p3])), (i3, .inl (cL, 300, .inr (.inl f3))), (aU, .inr (6, [.ref bT, .ref aD, .int ch, .int ww])), (bT, .inl (cT, 4, .inr (.inr (.inr (.inr (k4 t0 t1 t2 t3))))))]) (va_runS (As := [.long v]) (rest := []) ⟨hx, hb, hml, hown, hts⟩ (g_isItem l D cI cL cB cZ cT _ v) (va_cwS 1 hts gX7_lay_X7_isItem rfl rfl rfl (by decide +kernel) ⟨Nat.le_of_ble_eq_true rfl, Nat.le_of_ble_eq_true rfl⟩) (kPreS hG hP hD [] rfl (by decide)) rfl rfl hl.1 rfl (lv_room (Nat.le_of_ble_eq_true rfl)) dX7_lay_16 ⟨Nat.le_of_ble_eq_true rfl, Nat.le_of_ble_eq_true rfl⟩) hA hP hD hS [] [0, 1, 2, 3, 4, 5, 6, 7, 8, 9, 10] rfl rfl (by decide) (by decide) (fun r_14 u_r_14 H locs wr_14 hP hD hS => ?_)
    have hP : va_P D vwCl [(h0, .inr (7, [.ref aS, .ref aA, .ref aU, .ref aX, .ref aW, .int pl, .int np, .int li, .int sw, .int lst, .long ad])), (t0, .inr (4, [.ref i0, .int n0, .int p0])), (i0, .inl (cL, 300, .inr (.inl f0))), (t1, .inr (4, [.ref i1, .int n1, .int p1])), (i1, .inl (cL, 300, .inr (.inl f1))), (t2, .inr (4, [.ref i2, .int n2, .int p2])), (i2, .inl (cL, 300, .inr (.inl f2))), (t3, .inr (4, [.ref i3, .int n3, .int p3])), (i3, .inl (cL, 300, .inr (.inl f3))), (aU, .inr (6, [.ref bT, .ref aD, .int ch, .int ww])), (bT, .inl (cT, 4, .inr (.inr (.inr (.inr (k4 t0 t1 t2 t3))))))] H := hP
    have hD : va_D A [(h0, .inr (7, [.ref aS, .ref aA, .ref aU, .ref aX, .ref aW, .int pl, .int np, .int li, .int sw, .int lst, .long ad])), (t0, .inr (4, [.ref i0, .int n0, .int p0])), (i0, .inl (cL, 300, .inr (.inl f0))), (t1, .inr (4, [.ref i1, .int n1, .int p1])), (i1, .inl (cL, 300, .inr (.inl f1))), (t2, .inr (4, [.ref i2, .int n2, .int p2])), (i2, .inl (cL, 300, .inr (.inl f2))), (t3, .inr (4, [.ref i3, .int n3, .int p3])), (i3, .inl (cL, 300, .inr (.inl f3))), (aU, .inr (6, [.ref bT, .ref aD, .int ch, .int ww])), (bT, .inl (cT, 4, .inr (.inr (.inr (.inr (k4 t0 t1 t2 t3))))))] := hD
    try dsimp only at wr_14
    subst wr_14
    refine lv_if_ne (tgt := 24) hx hb dX7_lay_19 (by decide) (fun c_19_14 => ?_) (fun c_19_14 => ?_)
    · have t_19_14 := c_19_14
      try simp only [kb_eq0, kb_ne0, lg_cmp_lt, lg_cmp_le, lg_cmp_gt, lg_cmp_ge, lg_cmp_eq] at t_19_14
      try simp only [Int32.lt_iff_toInt_lt, Int32.le_iff_toInt_le, ← Int32.toInt_inj, Int64.lt_iff_toInt_lt, Int64.le_iff_toInt_le, ← Int64.toInt_inj, Int32.toInt_toInt64, Int32.reduceToInt, Int64.reduceToInt] at t_19_14
      refine lv_aload hx hb dX7_lay_24 (lv_at hl 0 rfl) ?_
      refine lv_lload_n hx hb dX7_lay_26 rfl (lv_at hl 3 rfl) ?_
      refine kCallI (wr := [(h0, .inr (7, [.ref aS, .ref aA, .ref aU, .ref aX, .ref aW, .int pl, .int np, .int li, .int sw, .int lst, .long ad])), (t0, .inr (4, [.ref i0, .int n0, .int p0])), (i0, .inl (cL, 300, .inr (.inl f0))), (t1, .inr (4, [.ref i1, .int n1, .int p1])), (i1, .inl (cL, 300, .inr (.inl f1))), (t2, .inr (4, [.ref i2, .int n2, .int p2])), (i2, .inl (cL, 300, .inr (.inl f2))), (aU, .inr (6, [.ref bT, .ref aD, .int ch, .int ww])), (bT, .inl (cT, 4, .inr (.inr (.inr (.inr (k4 t0 t1 t2 t3))))))]) (va_runV (As := [.long v]) (rest := []) ⟨hx, hb, hml, hown, hts⟩ (g_addBehind l D cI cL cB cZ cT _ t3 i3 n3 p3 f3 v) (cwV 1 hts gX7_lay_X4_addBehindAll rfl rfl rfl (by decide +kernel) ⟨Nat.le_of_ble_eq_true rfl, Nat.le_of_ble_eq_true rfl⟩) (kPreV hG hP hD [7, 8] rfl (by decide) 0 4 rfl rfl rfl) rfl rfl hl.1 rfl (lv_room (Nat.le_of_ble_eq_true rfl)) dX7_lay_27 ⟨Nat.le_of_ble_eq_true rfl, Nat.le_of_ble_eq_true rfl⟩) hA hP hD hS [7, 8] [0, 1, 2, 3, 4, 5, 6, 9, 10] rfl rfl (by decide) (by decide) (fun r_16 u_r_16 H locs wr_16 hP hD hS => ?_)
      have hP : va_P D vwCl [(h0, .inr (7, [.ref aS, .ref aA, .ref aU, .ref aX, .ref aW, .int pl, .int np, .int li, .int sw, .int lst, .long ad])), (t0, .inr (4, [.ref i0, .int n0, .int p0])), (i0, .inl (cL, 300, .inr (.inl f0))), (t1, .inr (4, [.ref i1, .int n1, .int p1])), (i1, .inl (cL, 300, .inr (.inl f1))), (t2, .inr (4, [.ref i2, .int n2, .int p2])), (i2, .inl (cL, 300, .inr (.inl f2))), (aU, .inr (6, [.ref bT, .ref aD, .int ch, .int ww])), (bT, .inl (cT, 4, .inr (.inr (.inr (.inr (k4 t0 t1 t2 t3)))))), (t3, .inr (4, [.ref i3, .int u_r_16.1, .int p3])), (i3, .inl (cL, 300, .inr (.inl u_r_16.2)))] H := hP
      have hD : va_D A [(h0, .inr (7, [.ref aS, .ref aA, .ref aU, .ref aX, .ref aW, .int pl, .int np, .int li, .int sw, .int lst, .long ad])), (t0, .inr (4, [.ref i0, .int n0, .int p0])), (i0, .inl (cL, 300, .inr (.inl f0))), (t1, .inr (4, [.ref i1, .int n1, .int p1])), (i1, .inl (cL, 300, .inr (.inl f1))), (t2, .inr (4, [.ref i2, .int n2, .int p2])), (i2, .inl (cL, 300, .inr (.inl f2))), (aU, .inr (6, [.ref bT, .ref aD, .int ch, .int ww])), (bT, .inl (cT, 4, .inr (.inr (.inr (.inr (k4 t0 t1 t2 t3)))))), (t3, .inr (4, [.ref i3, .int u_r_16.1, .int p3])), (i3, .inl (cL, 300, .inr (.inl u_r_16.2)))] := hD
      try dsimp only at wr_16
      refine lv_if_eq (tgt := 41) hx hb dX7_lay_30 (by decide) (fun c_30_16 => ?_) (fun c_30_16 => ?_)
      · have t_30_16 := c_30_16
        try simp only [kb_eq0, kb_ne0, lg_cmp_lt, lg_cmp_le, lg_cmp_gt, lg_cmp_ge, lg_cmp_eq] at t_30_16
        try simp only [Int32.lt_iff_toInt_lt, Int32.le_iff_toInt_le, ← Int32.toInt_inj, Int64.lt_iff_toInt_lt, Int64.le_iff_toInt_le, ← Int64.toInt_inj, Int32.toInt_toInt64, Int32.reduceToInt, Int64.reduceToInt] at t_30_16
        refine lv_bipush (v := (-2)) hx hb dX7_lay_41 (by decide) ?_
        refine kIret (u := (n0, n1, n2, u_r_16.1, p0, p1, p2, p3, f0, f1, f2, u_r_16.2)) hx hb hr rfl hlocks hS dX7_lay_43 ?_ (hP.sub [0, 7, 8, 1, 2, 3, 4, 5, 6, 9, 10] rfl) (hD.sub [0, 7, 8, 1, 2, 3, 4, 5, 6, 9, 10] (by decide) rfl)
        exact trivial
      · have t_30_16 := c_30_16
        try simp only [kb_eq0, kb_ne0, lg_cmp_lt, lg_cmp_le, lg_cmp_gt, lg_cmp_ge, lg_cmp_eq] at t_30_16
        try simp only [Int32.lt_iff_toInt_lt, Int32.le_iff_toInt_le, ← Int32.toInt_inj, Int64.lt_iff_toInt_lt, Int64.le_iff_toInt_le, ← Int64.toInt_inj, Int32.toInt_toInt64, Int32.reduceToInt, Int64.reduceToInt] at t_30_16
        refine lv_aload hx hb dX7_lay_33 (lv_at hl 0 rfl) ?_
        refine va_get (D := D) (ci := 4) (v := .int u_r_16.1) (C := RX4) (T := TX4) (N := 3) hx hb hts iX7_lay_X4 hown hK hP 9 rfl rfl 1 (by decide) (hts (.fieldLink RX7 131 "TapeCalculator$Tape" "count" "I") (List.mem_of_getElem? (i := 2) rfl)) (fun _ h9 => h9) rfl dX7_lay_35 ?_
        refine lv_goto (tgt := 43) hx hb dX7_lay_38 (by decide) ?_
        refine kIret (u := (n0, n1, n2, u_r_16.1, p0, p1, p2, p3, f0, f1, f2, u_r_16.2)) hx hb hr rfl hlocks hS dX7_lay_43 ?_ (hP.sub [0, 7, 8, 1, 2, 3, 4, 5, 6, 9, 10] rfl) (hD.sub [0, 7, 8, 1, 2, 3, 4, 5, 6, 9, 10] (by decide) rfl)
        exact trivial
    · have t_19_14 := c_19_14
      try simp only [kb_eq0, kb_ne0, lg_cmp_lt, lg_cmp_le, lg_cmp_gt, lg_cmp_ge, lg_cmp_eq] at t_19_14
      try simp only [Int32.lt_iff_toInt_lt, Int32.le_iff_toInt_le, ← Int32.toInt_inj, Int64.lt_iff_toInt_lt, Int64.le_iff_toInt_le, ← Int64.toInt_inj, Int32.toInt_toInt64, Int32.reduceToInt, Int64.reduceToInt] at t_19_14
      refine lv_iconst (v := (-1)) hx hb dX7_lay_22 (by decide) ?_
      refine kIret (u := (n0, n1, n2, n3, p0, p1, p2, p3, f0, f1, f2, f3)) hx hb hr rfl hlocks hS dX7_lay_23 ?_ (hP.sub [0, 9, 10, 1, 2, 3, 4, 5, 6, 7, 8] rfl) (hD.sub [0, 9, 10, 1, 2, 3, 4, 5, 6, 7, 8] (by decide) rfl)
      exact trivial
set_option maxRecDepth 100000 in
theorem iX7_stands_X7 : ∀ w ∈ wsX70, w ∈ wsX7_stands := fun w h => (goodIn_r (big := wsX7_stands) wsX70 [9, 10, 11, 12, 13, 14, 15, 16, 17, 18, 19] rfl (by decide +kernel) w h).1
set_option maxRecDepth 100000 in
theorem iX7_stands_X4 : ∀ w ∈ wsX40, w ∈ wsX7_stands := fun w h => (goodIn_r (big := wsX7_stands) wsX40 [20, 21, 22] rfl (by decide +kernel) w h).1
set_option maxRecDepth 100000 in
set_option maxHeartbeats 4000000 in
theorem g_stands (l : Launch) (D : va_G) (cI cL cB cZ cT : ClassId) (sz : Nat) (h0 aS aA aU aX aW : Nat) (pl np li sw lst : Int32) (ad : Int64) (bT aD : Nat) (ch ww : Int32) (t0 t1 t2 t3 : Nat) (i0 i1 i2 i3 : Nat) (n0 n1 n2 n3 p0 p1 p2 p3 : Int32) (f0 f1 f2 f3 : Nat → Int64) (t : Int32) : kM (S := Unit) l yX7_stands wsX7_stands ({ frames := 1, cells := 0, slots := 0, locals := 21 }) D (kT cI cL cB cZ cT) [.ref h0, .int t] [(h0, .inr (7, [.ref aS, .ref aA, .ref aU, .ref aX, .ref aW, .int pl, .int np, .int li, .int sw, .int lst, .long ad])), (aU, .inr (6, [.ref bT, .ref aD, .int ch, .int ww])), (bT, .inl (cT, 4, .inr (.inr (.inr (.inr (k4 t0 t1 t2 t3)))))), (t0, .inr (4, [.ref i0, .int n0, .int p0])), (i0, .inl (cL, 300, .inr (.inl f0))), (t1, .inr (4, [.ref i1, .int n1, .int p1])), (i1, .inl (cL, 300, .inr (.inl f1))), (t2, .inr (4, [.ref i2, .int n2, .int p2])), (i2, .inl (cL, 300, .inr (.inl f2))), (t3, .inr (4, [.ref i3, .int n3, .int p3])), (i3, .inl (cL, 300, .inr (.inl f3)))] sz eI (fun _ _ => True) (fun _ => [(h0, .inr (7, [.ref aS, .ref aA, .ref aU, .ref aX, .ref aW, .int pl, .int np, .int li, .int sw, .int lst, .long ad])), (aU, .inr (6, [.ref bT, .ref aD, .int ch, .int ww])), (bT, .inl (cT, 4, .inr (.inr (.inr (.inr (k4 t0 t1 t2 t3)))))), (t0, .inr (4, [.ref i0, .int n0, .int p0])), (i0, .inl (cL, 300, .inr (.inl f0))), (t1, .inr (4, [.ref i1, .int n1, .int p1])), (i1, .inl (cL, 300, .inr (.inl f1))), (t2, .inr (4, [.ref i2, .int n2, .int p2])), (i2, .inl (cL, 300, .inr (.inl f2))), (t3, .inr (4, [.ref i3, .int n3, .int p3])), (i3, .inl (cL, 300, .inr (.inl f3)))]) 0 0 := by
  refine kStart (cc := cX7_stands) (maxL := 3) (ret := (some .int)) (own := RX7) (by decide) rfl rfl (Nat.le_of_ble_eq_true rfl) ?_
  intro p e s m args below meth c A ls hx hb hr hml hown hts hlocks hnm hsz hA hG hP hD hS hl
  have hK := hG.1
  have hl : lv_has ls 3 [(0, .ref h0), (1, .int t)] := hl
  refine lv_aload_n hx hb dX7_stands_0 rfl (lv_at hl 0 rfl) ?_
  refine va_get (D := D) (ci := 7) (v := .ref aU) (C := RX7) (T := TX7) (N := 11) hx hb hts iX7_stands_X7 hown hK hP 0 rfl rfl 2 (by decide) (hts (.fieldLink RX7 26 "TapeCalculator" "units" "LTapeCalculator$Units;") (List.mem_of_getElem? (i := 1) rfl)) (fun _ h9 => h9) rfl dX7_stands_1 ?_
  refine lv_iload_n hx hb dX7_stands_4 rfl (lv_at hl 1 rfl) ?_
  refine kCallR (wr := [(h0, .inr (7, [.ref aS, .ref aA, .ref aU, .ref aX, .ref aW, .int pl, .int np, .int li, .int sw, .int lst, .long ad])), (t0, .inr (4, [.ref i0, .int n0, .int p0])), (i0, .inl (cL, 300, .inr (.inl f0))), (t1, .inr (4, [.ref i1, .int n1, .int p1])), (i1, .inl (cL, 300, .inr (.inl f1))), (t2, .inr (4, [.ref i2, .int n2, .int p2])), (i2, .inl (cL, 300, .inr (.inl f2))), (t3, .inr (4, [.ref i3, .int n3, .int p3])), (i3, .inl (cL, 300, .inr (.inl f3)))]) (va_runV (As := [.int t]) (rest := []) ⟨hx, hb, hml, hown, hts⟩ (g_tapeAt l D cI cL cB cZ cT _ aU bT aD ch ww t0 t1 t2 t3 t) (cwV 1 hts gX7_stands_X6_tapeAt rfl rfl rfl (by decide +kernel) ⟨Nat.le_of_ble_eq_true rfl, Nat.le_of_ble_eq_true rfl⟩) (kPreV hG hP hD [1, 2] rfl (by decide) 0 6 rfl rfl rfl) rfl rfl hl.1 rfl (lv_room (Nat.le_of_ble_eq_true rfl)) dX7_stands_5 ⟨Nat.le_of_ble_eq_true rfl, Nat.le_of_ble_eq_true rfl⟩) hA hP hD hS [1, 2] [0, 3, 4, 5, 6, 7, 8, 9, 10] rfl rfl (by decide) (by decide) (fun r_1 u_r_1 H locs wr_1 hP hD hS => ?_)
  have hP : va_P D vwCl [(h0, .inr (7, [.ref aS, .ref aA, .ref aU, .ref aX, .ref aW, .int pl, .int np, .int li, .int sw, .int lst, .long ad])), (t0, .inr (4, [.ref i0, .int n0, .int p0])), (i0, .inl (cL, 300, .inr (.inl f0))), (t1, .inr (4, [.ref i1, .int n1, .int p1])), (i1, .inl (cL, 300, .inr (.inl f1))), (t2, .inr (4, [.ref i2, .int n2, .int p2])), (i2, .inl (cL, 300, .inr (.inl f2))), (t3, .inr (4, [.ref i3, .int n3, .int p3])), (i3, .inl (cL, 300, .inr (.inl f3))), (aU, .inr (6, [.ref bT, .ref aD, .int ch, .int ww])), (bT, .inl (cT, 4, .inr (.inr (.inr (.inr (k4 t0 t1 t2 t3))))))] H := hP
  have hD : va_D A [(h0, .inr (7, [.ref aS, .ref aA, .ref aU, .ref aX, .ref aW, .int pl, .int np, .int li, .int sw, .int lst, .long ad])), (t0, .inr (4, [.ref i0, .int n0, .int p0])), (i0, .inl (cL, 300, .inr (.inl f0))), (t1, .inr (4, [.ref i1, .int n1, .int p1])), (i1, .inl (cL, 300, .inr (.inl f1))), (t2, .inr (4, [.ref i2, .int n2, .int p2])), (i2, .inl (cL, 300, .inr (.inl f2))), (t3, .inr (4, [.ref i3, .int n3, .int p3])), (i3, .inl (cL, 300, .inr (.inl f3))), (aU, .inr (6, [.ref bT, .ref aD, .int ch, .int ww])), (bT, .inl (cT, 4, .inr (.inr (.inr (.inr (k4 t0 t1 t2 t3))))))] := hD
  try dsimp only at wr_1
  rcases wr_1 with rfl | rfl | rfl | rfl | rfl
  · show W _ _ _ _ _ _ _ _ _ _ _ _ _ _ _ (F0 _ _ _ (Value.null :: _))
    refine lv_astore_nN (lv' := [(2, .null), (0, .ref h0), (1, .int t)]) hx hb dX7_stands_8 rfl hl (by decide) rfl (fun ls hl => ?_)
    refine lv_aload_nN hx hb dX7_stands_9 rfl (lv_at hl 0 rfl) ?_
    refine lv_ifnonnullN hx hb dX7_stands_10 ?_
    refine lv_iconst (v := (-1)) hx hb dX7_stands_13 (by decide) ?_
    refine lv_goto (tgt := 21) hx hb dX7_stands_14 (by decide) ?_
    refine kIret (u := ()) hx hb hr rfl hlocks hS dX7_stands_21 ?_ (hP.sub [0, 9, 10, 1, 2, 3, 4, 5, 6, 7, 8] rfl) (hD.sub [0, 9, 10, 1, 2, 3, 4, 5, 6, 7, 8] (by decide) rfl)
    exact trivial
  · show W _ _ _ _ _ _ _ _ _ _ _ _ _ _ _ (F0 _ _ _ (Value.ref t0 :: _))
    refine lv_astore_n (lv' := [(2, .ref t0), (0, .ref h0), (1, .int t)]) hx hb dX7_stands_8 rfl hl (by decide) rfl (fun ls hl => ?_)
    refine lv_aload_n hx hb dX7_stands_9 rfl (lv_at hl 0 rfl) ?_
    refine lv_ifnonnull (tgt := 17) hx hb dX7_stands_10 (by decide) ?_
    refine lv_aload_n hx hb dX7_stands_17 rfl (lv_at hl 0 rfl) ?_
    refine va_get (D := D) (ci := 4) (v := .int p0) (C := RX4) (T := TX4) (N := 3) hx hb hts iX7_stands_X4 hown hK hP 1 rfl rfl 2 (by decide) (hts (.fieldLink RX7 134 "TapeCalculator$Tape" "at" "I") (List.mem_of_getElem? (i := 2) rfl)) (fun _ h9 => h9) rfl dX7_stands_18 ?_
    refine kIret (u := ()) hx hb hr rfl hlocks hS dX7_stands_21 ?_ (hP.sub [0, 9, 10, 1, 2, 3, 4, 5, 6, 7, 8] rfl) (hD.sub [0, 9, 10, 1, 2, 3, 4, 5, 6, 7, 8] (by decide) rfl)
    exact trivial
  · show W _ _ _ _ _ _ _ _ _ _ _ _ _ _ _ (F0 _ _ _ (Value.ref t1 :: _))
    refine lv_astore_n (lv' := [(2, .ref t1), (0, .ref h0), (1, .int t)]) hx hb dX7_stands_8 rfl hl (by decide) rfl (fun ls hl => ?_)
    refine lv_aload_n hx hb dX7_stands_9 rfl (lv_at hl 0 rfl) ?_
    refine lv_ifnonnull (tgt := 17) hx hb dX7_stands_10 (by decide) ?_
    refine lv_aload_n hx hb dX7_stands_17 rfl (lv_at hl 0 rfl) ?_
    refine va_get (D := D) (ci := 4) (v := .int p1) (C := RX4) (T := TX4) (N := 3) hx hb hts iX7_stands_X4 hown hK hP 3 rfl rfl 2 (by decide) (hts (.fieldLink RX7 134 "TapeCalculator$Tape" "at" "I") (List.mem_of_getElem? (i := 2) rfl)) (fun _ h9 => h9) rfl dX7_stands_18 ?_
    refine kIret (u := ()) hx hb hr rfl hlocks hS dX7_stands_21 ?_ (hP.sub [0, 9, 10, 1, 2, 3, 4, 5, 6, 7, 8] rfl) (hD.sub [0, 9, 10, 1, 2, 3, 4, 5, 6, 7, 8] (by decide) rfl)
    exact trivial
  · show W _ _ _ _ _ _ _ _ _ _ _ _ _ _ _ (F0 _ _ _ (Value.ref t2 :: _))
    refine lv_astore_n (lv' := [(2, .ref t2), (0, .ref h0), (1, .int t)]) hx hb dX7_stands_8 rfl hl (by decide) rfl (fun ls hl => ?_)
    refine lv_aload_n hx hb dX7_stands_9 rfl (lv_at hl 0 rfl) ?_
    refine lv_ifnonnull (tgt := 17) hx hb dX7_stands_10 (by decide) ?_
    refine lv_aload_n hx hb dX7_stands_17 rfl (lv_at hl 0 rfl) ?_
    refine va_get (D := D) (ci := 4) (v := .int p2) (C := RX4) (T := TX4) (N := 3) hx hb hts iX7_stands_X4 hown hK hP 5 rfl rfl 2 (by decide) (hts (.fieldLink RX7 134 "TapeCalculator$Tape" "at" "I") (List.mem_of_getElem? (i := 2) rfl)) (fun _ h9 => h9) rfl dX7_stands_18 ?_
    refine kIret (u := ()) hx hb hr rfl hlocks hS dX7_stands_21 ?_ (hP.sub [0, 9, 10, 1, 2, 3, 4, 5, 6, 7, 8] rfl) (hD.sub [0, 9, 10, 1, 2, 3, 4, 5, 6, 7, 8] (by decide) rfl)
    exact trivial
  · show W _ _ _ _ _ _ _ _ _ _ _ _ _ _ _ (F0 _ _ _ (Value.ref t3 :: _))
    refine lv_astore_n (lv' := [(2, .ref t3), (0, .ref h0), (1, .int t)]) hx hb dX7_stands_8 rfl hl (by decide) rfl (fun ls hl => ?_)
    refine lv_aload_n hx hb dX7_stands_9 rfl (lv_at hl 0 rfl) ?_
    refine lv_ifnonnull (tgt := 17) hx hb dX7_stands_10 (by decide) ?_
    refine lv_aload_n hx hb dX7_stands_17 rfl (lv_at hl 0 rfl) ?_
    refine va_get (D := D) (ci := 4) (v := .int p3) (C := RX4) (T := TX4) (N := 3) hx hb hts iX7_stands_X4 hown hK hP 7 rfl rfl 2 (by decide) (hts (.fieldLink RX7 134 "TapeCalculator$Tape" "at" "I") (List.mem_of_getElem? (i := 2) rfl)) (fun _ h9 => h9) rfl dX7_stands_18 ?_
    refine kIret (u := ()) hx hb hr rfl hlocks hS dX7_stands_21 ?_ (hP.sub [0, 9, 10, 1, 2, 3, 4, 5, 6, 7, 8] rfl) (hD.sub [0, 9, 10, 1, 2, 3, 4, 5, 6, 7, 8] (by decide) rfl)
    exact trivial
set_option maxRecDepth 100000 in
theorem iX7_blank_X7 : ∀ w ∈ wsX70, w ∈ wsX7_blank := fun w h => (goodIn_r (big := wsX7_blank) wsX70 [22, 23, 24, 25, 26, 27, 28, 29, 30, 31, 32] rfl (by decide +kernel) w h).1
set_option maxRecDepth 100000 in
set_option maxHeartbeats 4000000 in
theorem g_blank (l : Launch) (D : va_G) (cI cL cB cZ cT : ClassId) (sz : Nat) (h0 aS aA aU aX aW : Nat) (pl np li sw lst : Int32) (ad : Int64) (bT aD : Nat) (ch ww : Int32) (t0 t1 t2 t3 : Nat) (i0 i1 i2 i3 : Nat) (n0 n1 n2 n3 p0 p1 p2 p3 : Int32) (f0 f1 f2 f3 : Nat → Int64) (t : Int32) : kM (S := (Int32 × Int32 × Int32 × Int32 × Int32 × Int32 × Int32 × Int32 × Int32 × Int32 × (Nat → Int64) × (Nat → Int64) × (Nat → Int64) × (Nat → Int64))) l yX7_blank wsX7_blank ({ frames := 2, cells := 0, slots := 0, locals := 44 }) D (kT cI cL cB cZ cT) [.ref h0, .int t] [(h0, .inr (7, [.ref aS, .ref aA, .ref aU, .ref aX, .ref aW, .int pl, .int np, .int li, .int sw, .int lst, .long ad])), (aU, .inr (6, [.ref bT, .ref aD, .int ch, .int ww])), (bT, .inl (cT, 4, .inr (.inr (.inr (.inr (k4 t0 t1 t2 t3)))))), (t0, .inr (4, [.ref i0, .int n0, .int p0])), (i0, .inl (cL, 300, .inr (.inl f0))), (t1, .inr (4, [.ref i1, .int n1, .int p1])), (i1, .inl (cL, 300, .inr (.inl f1))), (t2, .inr (4, [.ref i2, .int n2, .int p2])), (i2, .inl (cL, 300, .inr (.inl f2))), (t3, .inr (4, [.ref i3, .int n3, .int p3])), (i3, .inl (cL, 300, .inr (.inl f3)))] sz eI (fun _ _ => True) (fun u => [(h0, .inr (7, [.ref aS, .ref aA, .ref aU, .ref aX, .ref aW, .int pl, .int np, .int li, .int sw, .int lst, .long ad])), (aU, .inr (6, [.ref bT, .ref aD, .int u.1, .int u.2.1])), (bT, .inl (cT, 4, .inr (.inr (.inr (.inr (k4 t0 t1 t2 t3)))))), (t0, .inr (4, [.ref i0, .int u.2.2.1, .int u.2.2.2.2.2.2.1])), (i0, .inl (cL, 300, .inr (.inl u.2.2.2.2.2.2.2.2.2.2.1))), (t1, .inr (4, [.ref i1, .int u.2.2.2.1, .int u.2.2.2.2.2.2.2.1])), (i1, .inl (cL, 300, .inr (.inl u.2.2.2.2.2.2.2.2.2.2.2.1))), (t2, .inr (4, [.ref i2, .int u.2.2.2.2.1, .int u.2.2.2.2.2.2.2.2.1])), (i2, .inl (cL, 300, .inr (.inl u.2.2.2.2.2.2.2.2.2.2.2.2.1))), (t3, .inr (4, [.ref i3, .int u.2.2.2.2.2.1, .int u.2.2.2.2.2.2.2.2.2.1])), (i3, .inl (cL, 300, .inr (.inl u.2.2.2.2.2.2.2.2.2.2.2.2.2)))]) 0 0 := by
  refine kStart (cc := cX7_blank) (maxL := 2) (ret := (some .int)) (own := RX7) (by decide) rfl rfl (Nat.le_of_ble_eq_true rfl) ?_
  intro p e s m args below meth c A ls hx hb hr hml hown hts hlocks hnm hsz hA hG hP hD hS hl
  have hK := hG.1
  have hl : lv_has ls 2 [(0, .ref h0), (1, .int t)] := hl
  refine lv_aload_n hx hb dX7_blank_0 rfl (lv_at hl 0 rfl) ?_
  refine va_get (D := D) (ci := 7) (v := .ref aU) (C := RX7) (T := TX7) (N := 11) hx hb hts iX7_blank_X7 hown hK hP 0 rfl rfl 2 (by decide) (hts (.fieldLink RX7 26 "TapeCalculator" "units" "LTapeCalculator$Units;") (List.mem_of_getElem? (i := 1) rfl)) (fun _ h9 => h9) rfl dX7_blank_1 ?_
  refine lv_iload_n hx hb dX7_blank_4 rfl (lv_at hl 1 rfl) ?_
  refine kCallI (wr := [(h0, .inr (7, [.ref aS, .ref aA, .ref aU, .ref aX, .ref aW, .int pl, .int np, .int li, .int sw, .int lst, .long ad]))]) (va_runV (As := [.int t]) (rest := []) ⟨hx, hb, hml, hown, hts⟩ (g_clearTape l D cI cL cB cZ cT _ aU bT aD ch ww t0 t1 t2 t3 i0 i1 i2 i3 n0 n1 n2 n3 p0 p1 p2 p3 f0 f1 f2 f3 t) (cwV 1 hts gX7_blank_X6_clearTape rfl rfl rfl (by decide +kernel) ⟨Nat.le_of_ble_eq_true rfl, Nat.le_of_ble_eq_true rfl⟩) (kPreV hG hP hD [1, 2, 3, 4, 5, 6, 7, 8, 9, 10] rfl (by decide) 0 6 rfl rfl rfl) rfl rfl hl.1 rfl (lv_room (Nat.le_of_ble_eq_true rfl)) dX7_blank_5 ⟨Nat.le_of_ble_eq_true rfl, Nat.le_of_ble_eq_true rfl⟩) hA hP hD hS [1, 2, 3, 4, 5, 6, 7, 8, 9, 10] [0] rfl rfl (by decide) (by decide) (fun r_1 u_r_1 H locs wr_1 hP hD hS => ?_)
  have hP : va_P D vwCl [(h0, .inr (7, [.ref aS, .ref aA, .ref aU, .ref aX, .ref aW, .int pl, .int np, .int li, .int sw, .int lst, .long ad])), (aU, .inr (6, [.ref bT, .ref aD, .int u_r_1.1, .int u_r_1.2.1])), (bT, .inl (cT, 4, .inr (.inr (.inr (.inr (k4 t0 t1 t2 t3)))))), (t0, .inr (4, [.ref i0, .int u_r_1.2.2.1, .int u_r_1.2.2.2.2.2.2.1])), (i0, .inl (cL, 300, .inr (.inl u_r_1.2.2.2.2.2.2.2.2.2.2.1))), (t1, .inr (4, [.ref i1, .int u_r_1.2.2.2.1, .int u_r_1.2.2.2.2.2.2.2.1])), (i1, .inl (cL, 300, .inr (.inl u_r_1.2.2.2.2.2.2.2.2.2.2.2.1))), (t2, .inr (4, [.ref i2, .int u_r_1.2.2.2.2.1, .int u_r_1.2.2.2.2.2.2.2.2.1])), (i2, .inl (cL, 300, .inr (.inl u_r_1.2.2.2.2.2.2.2.2.2.2.2.2.1))), (t3, .inr (4, [.ref i3, .int u_r_1.2.2.2.2.2.1, .int u_r_1.2.2.2.2.2.2.2.2.2.1])), (i3, .inl (cL, 300, .inr (.inl u_r_1.2.2.2.2.2.2.2.2.2.2.2.2.2)))] H := hP
  have hD : va_D A [(h0, .inr (7, [.ref aS, .ref aA, .ref aU, .ref aX, .ref aW, .int pl, .int np, .int li, .int sw, .int lst, .long ad])), (aU, .inr (6, [.ref bT, .ref aD, .int u_r_1.1, .int u_r_1.2.1])), (bT, .inl (cT, 4, .inr (.inr (.inr (.inr (k4 t0 t1 t2 t3)))))), (t0, .inr (4, [.ref i0, .int u_r_1.2.2.1, .int u_r_1.2.2.2.2.2.2.1])), (i0, .inl (cL, 300, .inr (.inl u_r_1.2.2.2.2.2.2.2.2.2.2.1))), (t1, .inr (4, [.ref i1, .int u_r_1.2.2.2.1, .int u_r_1.2.2.2.2.2.2.2.1])), (i1, .inl (cL, 300, .inr (.inl u_r_1.2.2.2.2.2.2.2.2.2.2.2.1))), (t2, .inr (4, [.ref i2, .int u_r_1.2.2.2.2.1, .int u_r_1.2.2.2.2.2.2.2.2.1])), (i2, .inl (cL, 300, .inr (.inl u_r_1.2.2.2.2.2.2.2.2.2.2.2.2.1))), (t3, .inr (4, [.ref i3, .int u_r_1.2.2.2.2.2.1, .int u_r_1.2.2.2.2.2.2.2.2.2.1])), (i3, .inl (cL, 300, .inr (.inl u_r_1.2.2.2.2.2.2.2.2.2.2.2.2.2)))] := hD
  try dsimp only at wr_1
  refine kIret (u := (u_r_1.1, u_r_1.2.1, u_r_1.2.2.1, u_r_1.2.2.2.1, u_r_1.2.2.2.2.1, u_r_1.2.2.2.2.2.1, u_r_1.2.2.2.2.2.2.1, u_r_1.2.2.2.2.2.2.2.1, u_r_1.2.2.2.2.2.2.2.2.1, u_r_1.2.2.2.2.2.2.2.2.2.1, u_r_1.2.2.2.2.2.2.2.2.2.2.1, u_r_1.2.2.2.2.2.2.2.2.2.2.2.1, u_r_1.2.2.2.2.2.2.2.2.2.2.2.2.1, u_r_1.2.2.2.2.2.2.2.2.2.2.2.2.2)) hx hb hr rfl hlocks hS dX7_blank_8 ?_ (hP.sub [0, 1, 2, 3, 4, 5, 6, 7, 8, 9, 10] rfl) (hD.sub [0, 1, 2, 3, 4, 5, 6, 7, 8, 9, 10] (by decide) rfl)
  exact trivial
set_option maxRecDepth 100000 in
theorem iX7_drum_X7 : ∀ w ∈ wsX70, w ∈ wsX7_drum := fun w h => (goodIn_r (big := wsX7_drum) wsX70 [10, 11, 12, 13, 14, 15, 16, 17, 18, 19, 20] rfl (by decide +kernel) w h).1
set_option maxRecDepth 100000 in
theorem iX7_drum_X6 : ∀ w ∈ wsX60, w ∈ wsX7_drum := fun w h => (goodIn_r (big := wsX7_drum) wsX60 [21, 22, 23, 24] rfl (by decide +kernel) w h).1
set_option maxRecDepth 100000 in
set_option maxHeartbeats 4000000 in
theorem g_drum (l : Launch) (D : va_G) (cI cL cB cZ cT : ClassId) (sz : Nat) (h0 aS aA aU aX aW : Nat) (pl np li sw lst : Int32) (ad : Int64) (bT aD : Nat) (ch ww : Int32) (bD : Nat) (dp : Int32) (fd : Nat → Int64) (i : Int32) : kM (S := Unit) l yX7_drum wsX7_drum ({ frames := 1, cells := 0, slots := 0, locals := 21 }) D (kT cI cL cB cZ cT) [.ref h0, .int i] [(h0, .inr (7, [.ref aS, .ref aA, .ref aU, .ref aX, .ref aW, .int pl, .int np, .int li, .int sw, .int lst, .long ad])), (aU, .inr (6, [.ref bT, .ref aD, .int ch, .int ww])), (aD, .inr (1, [.ref bD, .int dp])), (bD, .inl (cL, 256, .inr (.inl fd)))] sz eL (fun _ _ => True) (fun _ => [(h0, .inr (7, [.ref aS, .ref aA, .ref aU, .ref aX, .ref aW, .int pl, .int np, .int li, .int sw, .int lst, .long ad])), (aU, .inr (6, [.ref bT, .ref aD, .int ch, .int ww])), (aD, .inr (1, [.ref bD, .int dp])), (bD, .inl (cL, 256, .inr (.inl fd)))]) 0 0 := by
  refine kStart (cc := cX7_drum) (maxL := 2) (ret := (some .long)) (own := RX7) (by decide) rfl rfl (Nat.le_of_ble_eq_true rfl) ?_
  intro p e s m args below meth c A ls hx hb hr hml hown hts hlocks hnm hsz hA hG hP hD hS hl
  have hK := hG.1
  have hl : lv_has ls 2 [(0, .ref h0), (1, .int i)] := hl
  refine lv_iload_n hx hb dX7_drum_0 rfl (lv_at hl 1 rfl) ?_
  refine lv_if_lt (tgt := 11) hx hb dX7_drum_1 (by decide) (fun c_1_0 => ?_) (fun c_1_0 => ?_)
  · have t_1_0 := c_1_0
    try simp only [kb_eq0, kb_ne0, lg_cmp_lt, lg_cmp_le, lg_cmp_gt, lg_cmp_ge, lg_cmp_eq] at t_1_0
    try simp only [Int32.lt_iff_toInt_lt, Int32.le_iff_toInt_le, ← Int32.toInt_inj, Int64.lt_iff_toInt_lt, Int64.le_iff_toInt_le, ← Int64.toInt_inj, Int32.toInt_toInt64, Int32.reduceToInt, Int64.reduceToInt] at t_1_0
    refine lv_ldc2 (v := (-1)) hx hb hown (hts (.constantLong RX7 61 (-1)) (List.mem_of_getElem? (i := 1) rfl)) dX7_drum_11 ?_
    refine lv_goto (tgt := 28) hx hb dX7_drum_14 (by decide) ?_
    refine kLret (u := ()) hx hb hr hlocks hS dX7_drum_28 ?_ (hP.sub [0, 1, 2, 3] rfl) (hD.sub [0, 1, 2, 3] (by decide) rfl)
    exact trivial
  · have t_1_0 := c_1_0
    try simp only [kb_eq0, kb_ne0, lg_cmp_lt, lg_cmp_le, lg_cmp_gt, lg_cmp_ge, lg_cmp_eq] at t_1_0
    try simp only [Int32.lt_iff_toInt_lt, Int32.le_iff_toInt_le, ← Int32.toInt_inj, Int64.lt_iff_toInt_lt, Int64.le_iff_toInt_le, ← Int64.toInt_inj, Int32.toInt_toInt64, Int32.reduceToInt, Int64.reduceToInt] at t_1_0
    refine lv_iload_n hx hb dX7_drum_4 rfl (lv_at hl 1 rfl) ?_
    refine lv_sipush (v := 256) hx hb dX7_drum_5 (by decide) ?_
    refine lv_icmp_lt (tgt := 17) hx hb dX7_drum_8 (by decide) (fun c_8_1 => ?_) (fun c_8_1 => ?_)
    · have t_8_1 := c_8_1
      try simp only [kb_eq0, kb_ne0, lg_cmp_lt, lg_cmp_le, lg_cmp_gt, lg_cmp_ge, lg_cmp_eq] at t_8_1
      try simp only [Int32.lt_iff_toInt_lt, Int32.le_iff_toInt_le, ← Int32.toInt_inj, Int64.lt_iff_toInt_lt, Int64.le_iff_toInt_le, ← Int64.toInt_inj, Int32.toInt_toInt64, Int32.reduceToInt, Int64.reduceToInt] at t_8_1
      refine lv_aload_n hx hb dX7_drum_17 rfl (lv_at hl 0 rfl) ?_
      refine va_get (D := D) (ci := 7) (v := .ref aU) (C := RX7) (T := TX7) (N := 11) hx hb hts iX7_drum_X7 hown hK hP 0 rfl rfl 2 (by decide) (hts (.fieldLink RX7 26 "TapeCalculator" "units" "LTapeCalculator$Units;") (List.mem_of_getElem? (i := 2) rfl)) (fun _ h9 => h9) rfl dX7_drum_18 ?_
      refine va_get (D := D) (ci := 6) (v := .ref aD) (C := RX6) (T := TX6) (N := 4) hx hb hts iX7_drum_X6 hown hK hP 1 rfl rfl 1 (by decide) (hts (.fieldLink RX7 87 "TapeCalculator$Units" "drum" "LTapeCalculator$Drum;") (List.mem_of_getElem? (i := 3) rfl)) (fun _ h9 => h9) rfl dX7_drum_21 ?_
      refine lv_iload_n hx hb dX7_drum_24 rfl (lv_at hl 1 rfl) ?_
      refine kCallL (wr := [(h0, .inr (7, [.ref aS, .ref aA, .ref aU, .ref aX, .ref aW, .int pl, .int np, .int li, .int sw, .int lst, .long ad])), (aU, .inr (6, [.ref bT, .ref aD, .int ch, .int ww]))]) (va_runV (As := [.int i]) (rest := []) ⟨hx, hb, hml, hown, hts⟩ (g_wordAt l D cI cL cB cZ cT _ aD bD dp fd i) (cwV 1 hts gX7_drum_X1_wordAt rfl rfl rfl (by decide +kernel) ⟨Nat.le_of_ble_eq_true rfl, Nat.le_of_ble_eq_true rfl⟩) (kPreV hG hP hD [2, 3] rfl (by decide) 0 1 rfl rfl rfl) rfl rfl hl.1 rfl (lv_room (Nat.le_of_ble_eq_true rfl)) dX7_drum_25 ⟨Nat.le_of_ble_eq_true rfl, Nat.le_of_ble_eq_true rfl⟩) hA hP hD hS [2, 3] [0, 1] rfl rfl (by decide) (by decide) (fun r_3 u_r_3 H locs wr_3 hP hD hS => ?_)
      have hP : va_P D vwCl [(h0, .inr (7, [.ref aS, .ref aA, .ref aU, .ref aX, .ref aW, .int pl, .int np, .int li, .int sw, .int lst, .long ad])), (aU, .inr (6, [.ref bT, .ref aD, .int ch, .int ww])), (aD, .inr (1, [.ref bD, .int dp])), (bD, .inl (cL, 256, .inr (.inl fd)))] H := hP
      have hD : va_D A [(h0, .inr (7, [.ref aS, .ref aA, .ref aU, .ref aX, .ref aW, .int pl, .int np, .int li, .int sw, .int lst, .long ad])), (aU, .inr (6, [.ref bT, .ref aD, .int ch, .int ww])), (aD, .inr (1, [.ref bD, .int dp])), (bD, .inl (cL, 256, .inr (.inl fd)))] := hD
      try dsimp only at wr_3
      refine kLret (u := ()) hx hb hr hlocks hS dX7_drum_28 ?_ (hP.sub [0, 1, 2, 3] rfl) (hD.sub [0, 1, 2, 3] (by decide) rfl)
      exact trivial
    · have t_8_1 := c_8_1
      try simp only [kb_eq0, kb_ne0, lg_cmp_lt, lg_cmp_le, lg_cmp_gt, lg_cmp_ge, lg_cmp_eq] at t_8_1
      try simp only [Int32.lt_iff_toInt_lt, Int32.le_iff_toInt_le, ← Int32.toInt_inj, Int64.lt_iff_toInt_lt, Int64.le_iff_toInt_le, ← Int64.toInt_inj, Int32.toInt_toInt64, Int32.reduceToInt, Int64.reduceToInt] at t_8_1
      refine lv_ldc2 (v := (-1)) hx hb hown (hts (.constantLong RX7 61 (-1)) (List.mem_of_getElem? (i := 1) rfl)) dX7_drum_11 ?_
      refine lv_goto (tgt := 28) hx hb dX7_drum_14 (by decide) ?_
      refine kLret (u := ()) hx hb hr hlocks hS dX7_drum_28 ?_ (hP.sub [0, 1, 2, 3] rfl) (hD.sub [0, 1, 2, 3] (by decide) rfl)
      exact trivial
