set_option maxRecDepth 100000 in
set_option maxHeartbeats 4000000 in
theorem c_isHalf (l : Launch) (D : va_G) (cI cL cB cZ cT : ClassId) (sz : Nat) (n : Int32) : kM (S := Unit) l yX7_isHalf wsX7_isHalf ({ frames := 0, cells := 0, slots := 0, locals := 0 }) D (kT cI cL cB cZ cT) [.int n] [] sz eI (fun r _ => r = (kb (0 ≤ n.toInt ∧ n.toInt < 512))) (fun _ => []) 0 0 := by
  refine kStart (cc := cX7_isHalf) (maxL := 1) (ret := (some .boolean)) (own := RX7) (by decide) rfl rfl (Nat.le_of_ble_eq_true rfl) ?_
  intro p e s m args below meth c A ls hx hb hr hml hown hts hlocks hnm hsz hA hG hP hD hS hl
  have hK := hG.1
  have hl : lv_has ls 1 [(0, .int n)] := hl
  refine lv_iload_n hx hb dX7_isHalf_0 rfl (lv_at hl 0 rfl) ?_
  refine lv_if_lt (tgt := 15) hx hb dX7_isHalf_1 (by decide) (fun c_1_0 => ?_) (fun c_1_0 => ?_)
  · have t_1_0 := c_1_0
    try simp only [kb_eq0, kb_ne0, lg_cmp_lt, lg_cmp_le, lg_cmp_gt, lg_cmp_ge, lg_cmp_eq] at t_1_0
    try simp only [Int32.lt_iff_toInt_lt, Int32.le_iff_toInt_le, ← Int32.toInt_inj, Int64.lt_iff_toInt_lt, Int64.le_iff_toInt_le, ← Int64.toInt_inj, Int32.toInt_toInt64, Int32.reduceToInt, Int64.reduceToInt] at t_1_0
    refine lv_iconst (v := 0) hx hb dX7_isHalf_15 (by decide) ?_
    refine kIret (u := ()) hx hb hr rfl hlocks hS dX7_isHalf_16 ?_ (hP.sub [] rfl) (hD.sub [] (by decide) rfl)
    first
      | exact (kb_t (by omega)).symm
      | exact (kb_f (by omega)).symm
  · have t_1_0 := c_1_0
    try simp only [kb_eq0, kb_ne0, lg_cmp_lt, lg_cmp_le, lg_cmp_gt, lg_cmp_ge, lg_cmp_eq] at t_1_0
    try simp only [Int32.lt_iff_toInt_lt, Int32.le_iff_toInt_le, ← Int32.toInt_inj, Int64.lt_iff_toInt_lt, Int64.le_iff_toInt_le, ← Int64.toInt_inj, Int32.toInt_toInt64, Int32.reduceToInt, Int64.reduceToInt] at t_1_0
    refine lv_iload_n hx hb dX7_isHalf_4 rfl (lv_at hl 0 rfl) ?_
    refine lv_sipush (v := 512) hx hb dX7_isHalf_5 (by decide) ?_
    refine lv_icmp_ge (tgt := 15) hx hb dX7_isHalf_8 (by decide) (fun c_8_1 => ?_) (fun c_8_1 => ?_)
    · have t_8_1 := c_8_1
      try simp only [kb_eq0, kb_ne0, lg_cmp_lt, lg_cmp_le, lg_cmp_gt, lg_cmp_ge, lg_cmp_eq] at t_8_1
      try simp only [Int32.lt_iff_toInt_lt, Int32.le_iff_toInt_le, ← Int32.toInt_inj, Int64.lt_iff_toInt_lt, Int64.le_iff_toInt_le, ← Int64.toInt_inj, Int32.toInt_toInt64, Int32.reduceToInt, Int64.reduceToInt] at t_8_1
      refine lv_iconst (v := 0) hx hb dX7_isHalf_15 (by decide) ?_
      refine kIret (u := ()) hx hb hr rfl hlocks hS dX7_isHalf_16 ?_ (hP.sub [] rfl) (hD.sub [] (by decide) rfl)
      first
        | exact (kb_t (by omega)).symm
        | exact (kb_f (by omega)).symm
    · have t_8_1 := c_8_1
      try simp only [kb_eq0, kb_ne0, lg_cmp_lt, lg_cmp_le, lg_cmp_gt, lg_cmp_ge, lg_cmp_eq] at t_8_1
      try simp only [Int32.lt_iff_toInt_lt, Int32.le_iff_toInt_le, ← Int32.toInt_inj, Int64.lt_iff_toInt_lt, Int64.le_iff_toInt_le, ← Int64.toInt_inj, Int32.toInt_toInt64, Int32.reduceToInt, Int64.reduceToInt] at t_8_1
      refine lv_iconst (v := 1) hx hb dX7_isHalf_11 (by decide) ?_
      refine lv_goto (tgt := 16) hx hb dX7_isHalf_12 (by decide) ?_
      refine kIret (u := ()) hx hb hr rfl hlocks hS dX7_isHalf_16 ?_ (hP.sub [] rfl) (hD.sub [] (by decide) rfl)
      first
        | exact (kb_t (by omega)).symm
        | exact (kb_f (by omega)).symm
set_option maxRecDepth 100000 in
theorem iX3_halfAt_X3 : ∀ w ∈ wsX30, w ∈ wsX3_halfAt := fun w h => (goodIn_r (big := wsX3_halfAt) wsX30 [5] rfl (by decide +kernel) w h).1
set_option maxRecDepth 100000 in
set_option maxHeartbeats 4000000 in
theorem c_halfAt (l : Launch) (D : va_G) (cI cL cB cZ cT : ClassId) (sz : Nat) (aS bS : Nat) (n : Int32) : kM (S := Unit) l yX3_halfAt wsX3_halfAt ({ frames := 1, cells := 0, slots := 0, locals := 20 }) D (kT cI cL cB cZ cT) [.ref aS, .int n] [(aS, .inr (3, [.ref bS])), (bS, .inl (cI, 512, .inl (fun _ => 0)))] sz eI (fun r _ => r = 0) (fun _ => [(aS, .inr (3, [.ref bS])), (bS, .inl (cI, 512, .inl (fun _ => 0)))]) 0 0 := by
  refine kStart (cc := cX3_halfAt) (maxL := 2) (ret := (some .int)) (own := RX3) (by decide) rfl rfl (Nat.le_of_ble_eq_true rfl) ?_
  intro p e s m args below meth c A ls hx hb hr hml hown hts hlocks hnm hsz hA hG hP hD hS hl
  have hK := hG.1
  have hl : lv_has ls 2 [(0, .ref aS), (1, .int n)] := hl
  refine lv_iload_n hx hb dX3_halfAt_0 rfl (lv_at hl 1 rfl) ?_
  refine kCallI (wr := [(aS, .inr (3, [.ref bS])), (bS, .inl (cI, 512, .inl (fun _ => 0)))]) (va_runSN (As := [.int n]) (rest := []) ⟨hx, hb, hml, hown, hts⟩ (c_isHalf l D cI cL cB cZ cT _ n) ⟨va_cnB 1 hts gX3_halfAt_X7_isHalf_n15 rfl rfl rfl hG.2.1 (hts (.initialized RX7) (List.mem_of_getElem? (i := 3) rfl)) (by decide +kernel) ⟨Nat.le_of_ble_eq_true rfl, Nat.le_of_ble_eq_true rfl⟩, hts (.static yX7_isHalf) (by decide +kernel), trivial⟩ (kPreS hG hP hD [] rfl (by decide)) rfl rfl hl.1 rfl (lv_room (Nat.le_of_ble_eq_true rfl)) dX3_halfAt_1 ⟨Nat.le_of_ble_eq_true rfl, Nat.le_of_ble_eq_true rfl⟩) hA hP hD hS [] [0, 1] rfl rfl (by decide) (by decide) (fun r_1 u_r_1 H locs wr_1 hP hD hS => ?_)
  have hP : va_P D vwCl [(aS, .inr (3, [.ref bS])), (bS, .inl (cI, 512, .inl (fun _ => 0)))] H := hP
  have hD : va_D A [(aS, .inr (3, [.ref bS])), (bS, .inl (cI, 512, .inl (fun _ => 0)))] := hD
  try dsimp only at wr_1
  subst wr_1
  refine lv_if_eq (tgt := 16) hx hb dX3_halfAt_4 (by decide) (fun c_4_1 => ?_) (fun c_4_1 => ?_)
  · have t_4_1 := c_4_1
    try simp only [kb_eq0, kb_ne0, lg_cmp_lt, lg_cmp_le, lg_cmp_gt, lg_cmp_ge, lg_cmp_eq] at t_4_1
    try simp only [Int32.lt_iff_toInt_lt, Int32.le_iff_toInt_le, ← Int32.toInt_inj, Int64.lt_iff_toInt_lt, Int64.le_iff_toInt_le, ← Int64.toInt_inj, Int32.toInt_toInt64, Int32.reduceToInt, Int64.reduceToInt] at t_4_1
    refine lv_iconst (v := 0) hx hb dX3_halfAt_16 (by decide) ?_
    refine kIret (u := ()) hx hb hr rfl hlocks hS dX3_halfAt_17 ?_ (hP.sub [0, 1] rfl) (hD.sub [0, 1] (by decide) rfl)
    exact rfl
  · have t_4_1 := c_4_1
    try simp only [kb_eq0, kb_ne0, lg_cmp_lt, lg_cmp_le, lg_cmp_gt, lg_cmp_ge, lg_cmp_eq] at t_4_1
    try simp only [Int32.lt_iff_toInt_lt, Int32.le_iff_toInt_le, ← Int32.toInt_inj, Int64.lt_iff_toInt_lt, Int64.le_iff_toInt_le, ← Int64.toInt_inj, Int32.toInt_toInt64, Int32.reduceToInt, Int64.reduceToInt] at t_4_1
    refine lv_aload_n hx hb dX3_halfAt_7 rfl (lv_at hl 0 rfl) ?_
    refine va_get (D := D) (ci := 3) (v := .ref bS) (C := RX3) (T := TX3) (N := 1) hx hb hts iX3_halfAt_X3 hown hK hP 0 rfl rfl 0 (by decide) (hts (.fieldLink RX3 9 "TapeCalculator$Store" "halves" "[I") (List.mem_of_getElem? (i := 1) rfl)) (fun _ h9 => h9) rfl dX3_halfAt_8 ?_
    refine lv_iload_n hx hb dX3_halfAt_11 rfl (lv_at hl 1 rfl) ?_
    refine va_iald hx hb hK hP 1 0 rfl rfl (vp_in_iff.mpr (by omega)) dX3_halfAt_12 ?_
    refine lv_goto (tgt := 17) hx hb dX3_halfAt_13 (by decide) ?_
    refine kIret (u := ()) hx hb hr rfl hlocks hS dX3_halfAt_17 ?_ (hP.sub [0, 1] rfl) (hD.sub [0, 1] (by decide) rfl)
    exact rfl
set_option maxRecDepth 100000 in
theorem iX3_keepHalf_X3 : ∀ w ∈ wsX30, w ∈ wsX3_keepHalf := fun w h => (goodIn_r (big := wsX3_keepHalf) wsX30 [6] rfl (by decide +kernel) w h).1
set_option maxRecDepth 100000 in
set_option maxHeartbeats 4000000 in
theorem c_keepHalf (l : Launch) (D : va_G) (cI cL cB cZ cT : ClassId) (sz : Nat) (aS bS : Nat) (n b : Int32) : kM (S := ((Nat → Int32))) l yX3_keepHalf wsX3_keepHalf ({ frames := 1, cells := 0, slots := 0, locals := 20 }) D (kT cI cL cB cZ cT) [.ref aS, .int n, .int b] [(aS, .inr (3, [.ref bS])), (bS, .inl (cI, 512, .inl (fun _ => 0)))] sz eV (fun _ _ => True) (fun u => [(aS, .inr (3, [.ref bS])), (bS, .inl (cI, 512, .inl u))]) 0 0 := by
  refine kStart (cc := cX3_keepHalf) (maxL := 3) (ret := none) (own := RX3) (by decide) rfl rfl (Nat.le_of_ble_eq_true rfl) ?_
  intro p e s m args below meth c A ls hx hb hr hml hown hts hlocks hnm hsz hA hG hP hD hS hl
  have hK := hG.1
  have hl : lv_has ls 3 [(0, .ref aS), (1, .int n), (2, .int b)] := hl
  refine lv_iload_n hx hb dX3_keepHalf_0 rfl (lv_at hl 1 rfl) ?_
  refine kCallI (wr := [(aS, .inr (3, [.ref bS])), (bS, .inl (cI, 512, .inl (fun _ => 0)))]) (va_runSN (As := [.int n]) (rest := []) ⟨hx, hb, hml, hown, hts⟩ (c_isHalf l D cI cL cB cZ cT _ n) ⟨va_cnB 1 hts gX3_keepHalf_X7_isHalf_n15 rfl rfl rfl hG.2.1 (hts (.initialized RX7) (List.mem_of_getElem? (i := 4) rfl)) (by decide +kernel) ⟨Nat.le_of_ble_eq_true rfl, Nat.le_of_ble_eq_true rfl⟩, hts (.static yX7_isHalf) (by decide +kernel), trivial⟩ (kPreS hG hP hD [] rfl (by decide)) rfl rfl hl.1 rfl (lv_room (Nat.le_of_ble_eq_true rfl)) dX3_keepHalf_1 ⟨Nat.le_of_ble_eq_true rfl, Nat.le_of_ble_eq_true rfl⟩) hA hP hD hS [] [0, 1] rfl rfl (by decide) (by decide) (fun r_1 u_r_1 H locs wr_1 hP hD hS => ?_)
  have hP : va_P D vwCl [(aS, .inr (3, [.ref bS])), (bS, .inl (cI, 512, .inl (fun _ => 0)))] H := hP
  have hD : va_D A [(aS, .inr (3, [.ref bS])), (bS, .inl (cI, 512, .inl (fun _ => 0)))] := hD
  try dsimp only at wr_1
  subst wr_1
  refine lv_if_eq (tgt := 17) hx hb dX3_keepHalf_4 (by decide) (fun c_4_1 => ?_) (fun c_4_1 => ?_)
  · have t_4_1 := c_4_1
    try simp only [kb_eq0, kb_ne0, lg_cmp_lt, lg_cmp_le, lg_cmp_gt, lg_cmp_ge, lg_cmp_eq] at t_4_1
    try simp only [Int32.lt_iff_toInt_lt, Int32.le_iff_toInt_le, ← Int32.toInt_inj, Int64.lt_iff_toInt_lt, Int64.le_iff_toInt_le, ← Int64.toInt_inj, Int32.toInt_toInt64, Int32.reduceToInt, Int64.reduceToInt] at t_4_1
    refine kVret (u := (fun _ => 0)) hx hb hr hlocks hS dX3_keepHalf_17 ?_ (hP.sub [0, 1] rfl) (hD.sub [0, 1] (by decide) rfl)
    exact trivial
  · have t_4_1 := c_4_1
    try simp only [kb_eq0, kb_ne0, lg_cmp_lt, lg_cmp_le, lg_cmp_gt, lg_cmp_ge, lg_cmp_eq] at t_4_1
    try simp only [Int32.lt_iff_toInt_lt, Int32.le_iff_toInt_le, ← Int32.toInt_inj, Int64.lt_iff_toInt_lt, Int64.le_iff_toInt_le, ← Int64.toInt_inj, Int32.toInt_toInt64, Int32.reduceToInt, Int64.reduceToInt] at t_4_1
    refine lv_aload_n hx hb dX3_keepHalf_7 rfl (lv_at hl 0 rfl) ?_
    refine va_get (D := D) (ci := 3) (v := .ref bS) (C := RX3) (T := TX3) (N := 1) hx hb hts iX3_keepHalf_X3 hown hK hP 0 rfl rfl 0 (by decide) (hts (.fieldLink RX3 9 "TapeCalculator$Store" "halves" "[I") (List.mem_of_getElem? (i := 1) rfl)) (fun _ h9 => h9) rfl dX3_keepHalf_8 ?_
    refine lv_iload_n hx hb dX3_keepHalf_11 rfl (lv_at hl 1 rfl) ?_
    refine lv_iload_n hx hb dX3_keepHalf_12 rfl (lv_at hl 2 rfl) ?_
    refine lv_ldc (v := 262143) hx hb hown (hts (.constant RX3 19 (262143)) (List.mem_of_getElem? (i := 2) rfl)) dX3_keepHalf_13 ?_
    refine lv_iand hx hb dX3_keepHalf_15 ?_
    refine va_iast hx hb hK hP hD hS 1 0 rfl rfl (vp_in_iff.mpr (by omega)) dX3_keepHalf_16 (fun H locs hP hD hS => ?_)
    have hP : va_P D vwCl [(aS, .inr (3, [.ref bS])), (bS, .inl (cI, 512, .inl (upd (fun _ => 0) n.toNatClampNeg (b &&& 262143))))] H := hP
    have hD : va_D A [(aS, .inr (3, [.ref bS])), (bS, .inl (cI, 512, .inl (upd (fun _ => 0) n.toNatClampNeg (b &&& 262143))))] := hD
    refine kVret (u := (upd (fun _ => 0) n.toNatClampNeg (b &&& 262143))) hx hb hr hlocks hS dX3_keepHalf_17 ?_ (hP.sub [0, 1] rfl) (hD.sub [0, 1] (by decide) rfl)
    exact trivial
set_option maxRecDepth 100000 in
theorem iX7_half_X7 : ∀ w ∈ wsX70, w ∈ wsX7_half := fun w h => (goodIn_r (big := wsX7_half) wsX70 [12, 13, 14, 15, 16, 17, 18, 19, 20, 21, 22] rfl (by decide +kernel) w h).1
set_option maxRecDepth 100000 in
set_option maxHeartbeats 4000000 in
theorem c_half (l : Launch) (D : va_G) (cI cL cB cZ cT : ClassId) (sz : Nat) (h0 aS aA aU aX aW : Nat) (pl np li sw lst : Int32) (ad : Int64) (bS : Nat) (n : Int32) : kM (S := Unit) l yX7_half wsX7_half ({ frames := 2, cells := 0, slots := 0, locals := 41 }) D (kT cI cL cB cZ cT) [.ref h0, .int n] [(h0, .inr (7, [.ref aS, .ref aA, .ref aU, .ref aX, .ref aW, .int pl, .int np, .int li, .int sw, .int lst, .long ad])), (aS, .inr (3, [.ref bS])), (bS, .inl (cI, 512, .inl (fun _ => 0)))] sz eI (fun r _ => r = (kif (0 ≤ n.toInt ∧ n.toInt < 512) 0 (-1))) (fun _ => [(h0, .inr (7, [.ref aS, .ref aA, .ref aU, .ref aX, .ref aW, .int pl, .int np, .int li, .int sw, .int lst, .long ad])), (aS, .inr (3, [.ref bS])), (bS, .inl (cI, 512, .inl (fun _ => 0)))]) 0 0 := by
  refine kStart (cc := cX7_half) (maxL := 2) (ret := (some .int)) (own := RX7) (by decide) rfl rfl (Nat.le_of_ble_eq_true rfl) ?_
  intro p e s m args below meth c A ls hx hb hr hml hown hts hlocks hnm hsz hA hG hP hD hS hl
  have hK := hG.1
  have hl : lv_has ls 2 [(0, .ref h0), (1, .int n)] := hl
  refine lv_iload_n hx hb dX7_half_0 rfl (lv_at hl 1 rfl) ?_
  refine kCallI (wr := [(h0, .inr (7, [.ref aS, .ref aA, .ref aU, .ref aX, .ref aW, .int pl, .int np, .int li, .int sw, .int lst, .long ad])), (aS, .inr (3, [.ref bS])), (bS, .inl (cI, 512, .inl (fun _ => 0)))]) (va_runS (As := [.int n]) (rest := []) ⟨hx, hb, hml, hown, hts⟩ (c_isHalf l D cI cL cB cZ cT _ n) (va_cwS 1 hts gX7_half_X7_isHalf rfl rfl rfl (by decide +kernel) ⟨Nat.le_of_ble_eq_true rfl, Nat.le_of_ble_eq_true rfl⟩) (kPreS hG hP hD [] rfl (by decide)) rfl rfl hl.1 rfl (lv_room (Nat.le_of_ble_eq_true rfl)) dX7_half_1 ⟨Nat.le_of_ble_eq_true rfl, Nat.le_of_ble_eq_true rfl⟩) hA hP hD hS [] [0, 1, 2] rfl rfl (by decide) (by decide) (fun r_1 u_r_1 H locs wr_1 hP hD hS => ?_)
  have hP : va_P D vwCl [(h0, .inr (7, [.ref aS, .ref aA, .ref aU, .ref aX, .ref aW, .int pl, .int np, .int li, .int sw, .int lst, .long ad])), (aS, .inr (3, [.ref bS])), (bS, .inl (cI, 512, .inl (fun _ => 0)))] H := hP
  have hD : va_D A [(h0, .inr (7, [.ref aS, .ref aA, .ref aU, .ref aX, .ref aW, .int pl, .int np, .int li, .int sw, .int lst, .long ad])), (aS, .inr (3, [.ref bS])), (bS, .inl (cI, 512, .inl (fun _ => 0)))] := hD
  try dsimp only at wr_1
  subst wr_1
  refine lv_if_eq (tgt := 18) hx hb dX7_half_4 (by decide) (fun c_4_1 => ?_) (fun c_4_1 => ?_)
  · have t_4_1 := c_4_1
    try simp only [kb_eq0, kb_ne0, lg_cmp_lt, lg_cmp_le, lg_cmp_gt, lg_cmp_ge, lg_cmp_eq] at t_4_1
    try simp only [Int32.lt_iff_toInt_lt, Int32.le_iff_toInt_le, ← Int32.toInt_inj, Int64.lt_iff_toInt_lt, Int64.le_iff_toInt_le, ← Int64.toInt_inj, Int32.toInt_toInt64, Int32.reduceToInt, Int64.reduceToInt] at t_4_1
    refine lv_iconst (v := (-1)) hx hb dX7_half_18 (by decide) ?_
    refine kIret (u := ()) hx hb hr rfl hlocks hS dX7_half_19 ?_ (hP.sub [0, 1, 2] rfl) (hD.sub [0, 1, 2] (by decide) rfl)
    first
      | exact (kif_t (by omega)).symm
      | exact (kif_f (by omega)).symm
  · have t_4_1 := c_4_1
    try simp only [kb_eq0, kb_ne0, lg_cmp_lt, lg_cmp_le, lg_cmp_gt, lg_cmp_ge, lg_cmp_eq] at t_4_1
    try simp only [Int32.lt_iff_toInt_lt, Int32.le_iff_toInt_le, ← Int32.toInt_inj, Int64.lt_iff_toInt_lt, Int64.le_iff_toInt_le, ← Int64.toInt_inj, Int32.toInt_toInt64, Int32.reduceToInt, Int64.reduceToInt] at t_4_1
    refine lv_aload_n hx hb dX7_half_7 rfl (lv_at hl 0 rfl) ?_
    refine va_get (D := D) (ci := 7) (v := .ref aS) (C := RX7) (T := TX7) (N := 11) hx hb hts iX7_half_X7 hown hK hP 0 rfl rfl 0 (by decide) (hts (.fieldLink RX7 12 "TapeCalculator" "store" "LTapeCalculator$Store;") (List.mem_of_getElem? (i := 1) rfl)) (fun _ h9 => h9) rfl dX7_half_8 ?_
    refine lv_iload_n hx hb dX7_half_11 rfl (lv_at hl 1 rfl) ?_
    refine kCallI (wr := [(h0, .inr (7, [.ref aS, .ref aA, .ref aU, .ref aX, .ref aW, .int pl, .int np, .int li, .int sw, .int lst, .long ad]))]) (va_runV (As := [.int n]) (rest := []) ⟨hx, hb, hml, hown, hts⟩ (c_halfAt l D cI cL cB cZ cT _ aS bS n) (cwV 1 hts gX7_half_X3_halfAt rfl rfl rfl (by decide +kernel) ⟨Nat.le_of_ble_eq_true rfl, Nat.le_of_ble_eq_true rfl⟩) (kPreV hG hP hD [1, 2] rfl (by decide) 0 3 rfl rfl rfl) rfl rfl hl.1 rfl (lv_room (Nat.le_of_ble_eq_true rfl)) dX7_half_12 ⟨Nat.le_of_ble_eq_true rfl, Nat.le_of_ble_eq_true rfl⟩) hA hP hD hS [1, 2] [0] rfl rfl (by decide) (by decide) (fun r_3 u_r_3 H locs wr_3 hP hD hS => ?_)
    have hP : va_P D vwCl [(h0, .inr (7, [.ref aS, .ref aA, .ref aU, .ref aX, .ref aW, .int pl, .int np, .int li, .int sw, .int lst, .long ad])), (aS, .inr (3, [.ref bS])), (bS, .inl (cI, 512, .inl (fun _ => 0)))] H := hP
    have hD : va_D A [(h0, .inr (7, [.ref aS, .ref aA, .ref aU, .ref aX, .ref aW, .int pl, .int np, .int li, .int sw, .int lst, .long ad])), (aS, .inr (3, [.ref bS])), (bS, .inl (cI, 512, .inl (fun _ => 0)))] := hD
    try dsimp only at wr_3
    subst wr_3
    refine lv_goto (tgt := 19) hx hb dX7_half_15 (by decide) ?_
    refine kIret (u := ()) hx hb hr rfl hlocks hS dX7_half_19 ?_ (hP.sub [0, 1, 2] rfl) (hD.sub [0, 1, 2] (by decide) rfl)
    first
      | exact (kif_t (by omega)).symm
      | exact (kif_f (by omega)).symm
set_option maxRecDepth 100000 in
theorem iX7_put_X7 : ∀ w ∈ wsX70, w ∈ wsX7_put := fun w h => (goodIn_r (big := wsX7_put) wsX70 [18, 19, 20, 21, 22, 23, 24, 25, 26, 27, 28] rfl (by decide +kernel) w h).1
set_option maxRecDepth 100000 in
set_option maxHeartbeats 4000000 in
theorem c_put (l : Launch) (D : va_G) (cI cL cB cZ cT : ClassId) (sz : Nat) (h0 aS aA aU aX aW : Nat) (pl np li sw lst : Int32) (ad : Int64) (bS : Nat) (n b : Int32) : kM (S := ((Nat → Int32))) l yX7_put wsX7_put ({ frames := 2, cells := 0, slots := 0, locals := 42 }) D (kT cI cL cB cZ cT) [.ref h0, .int n, .int b] [(h0, .inr (7, [.ref aS, .ref aA, .ref aU, .ref aX, .ref aW, .int pl, .int np, .int li, .int sw, .int lst, .long ad])), (aS, .inr (3, [.ref bS])), (bS, .inl (cI, 512, .inl (fun _ => 0)))] sz eI (fun r _ => r = (kif ((0 ≤ n.toInt ∧ n.toInt < 512) ∧ 0 ≤ b.toInt ∧ b.toInt ≤ 262143) 0 (-1))) (fun u => [(h0, .inr (7, [.ref aS, .ref aA, .ref aU, .ref aX, .ref aW, .int pl, .int np, .int li, .int sw, .int lst, .long ad])), (aS, .inr (3, [.ref bS])), (bS, .inl (cI, 512, .inl u))]) 0 0 := by
  refine kStart (cc := cX7_put) (maxL := 4) (ret := (some .int)) (own := RX7) (by decide) rfl rfl (Nat.le_of_ble_eq_true rfl) ?_
  intro p e s m args below meth c A ls hx hb hr hml hown hts hlocks hnm hsz hA hG hP hD hS hl
  have hK := hG.1
  have hl : lv_has ls 4 [(0, .ref h0), (1, .int n), (2, .int b)] := hl
  refine lv_iload_n hx hb dX7_put_0 rfl (lv_at hl 1 rfl) ?_
  refine kCallI (wr := [(h0, .inr (7, [.ref aS, .ref aA, .ref aU, .ref aX, .ref aW, .int pl, .int np, .int li, .int sw, .int lst, .long ad])), (aS, .inr (3, [.ref bS])), (bS, .inl (cI, 512, .inl (fun _ => 0)))]) (va_runS (As := [.int n]) (rest := []) ⟨hx, hb, hml, hown, hts⟩ (c_isHalf l D cI cL cB cZ cT _ n) (va_cwS 1 hts gX7_put_X7_isHalf rfl rfl rfl (by decide +kernel) ⟨Nat.le_of_ble_eq_true rfl, Nat.le_of_ble_eq_true rfl⟩) (kPreS hG hP hD [] rfl (by decide)) rfl rfl hl.1 rfl (lv_room (Nat.le_of_ble_eq_true rfl)) dX7_put_1 ⟨Nat.le_of_ble_eq_true rfl, Nat.le_of_ble_eq_true rfl⟩) hA hP hD hS [] [0, 1, 2] rfl rfl (by decide) (by decide) (fun r_1 u_r_1 H locs wr_1 hP hD hS => ?_)
  have hP : va_P D vwCl [(h0, .inr (7, [.ref aS, .ref aA, .ref aU, .ref aX, .ref aW, .int pl, .int np, .int li, .int sw, .int lst, .long ad])), (aS, .inr (3, [.ref bS])), (bS, .inl (cI, 512, .inl (fun _ => 0)))] H := hP
  have hD : va_D A [(h0, .inr (7, [.ref aS, .ref aA, .ref aU, .ref aX, .ref aW, .int pl, .int np, .int li, .int sw, .int lst, .long ad])), (aS, .inr (3, [.ref bS])), (bS, .inl (cI, 512, .inl (fun _ => 0)))] := hD
  try dsimp only at wr_1
  subst wr_1
  refine lv_if_eq (tgt := 17) hx hb dX7_put_4 (by decide) (fun c_4_1 => ?_) (fun c_4_1 => ?_)
  · have t_4_1 := c_4_1
    try simp only [kb_eq0, kb_ne0, lg_cmp_lt, lg_cmp_le, lg_cmp_gt, lg_cmp_ge, lg_cmp_eq] at t_4_1
    try simp only [Int32.lt_iff_toInt_lt, Int32.le_iff_toInt_le, ← Int32.toInt_inj, Int64.lt_iff_toInt_lt, Int64.le_iff_toInt_le, ← Int64.toInt_inj, Int32.toInt_toInt64, Int32.reduceToInt, Int64.reduceToInt] at t_4_1
    refine lv_iconst (v := (-1)) hx hb dX7_put_17 (by decide) ?_
    refine kIret (u := (fun _ => 0)) hx hb hr rfl hlocks hS dX7_put_18 ?_ (hP.sub [0, 1, 2] rfl) (hD.sub [0, 1, 2] (by decide) rfl)
    first
      | exact (kif_t (by omega)).symm
      | exact (kif_f (by omega)).symm
  · have t_4_1 := c_4_1
    try simp only [kb_eq0, kb_ne0, lg_cmp_lt, lg_cmp_le, lg_cmp_gt, lg_cmp_ge, lg_cmp_eq] at t_4_1
    try simp only [Int32.lt_iff_toInt_lt, Int32.le_iff_toInt_le, ← Int32.toInt_inj, Int64.lt_iff_toInt_lt, Int64.le_iff_toInt_le, ← Int64.toInt_inj, Int32.toInt_toInt64, Int32.reduceToInt, Int64.reduceToInt] at t_4_1
    refine lv_iload_n hx hb dX7_put_7 rfl (lv_at hl 2 rfl) ?_
    refine lv_if_lt (tgt := 17) hx hb dX7_put_8 (by decide) (fun c_8_2 => ?_) (fun c_8_2 => ?_)
    · have t_8_2 := c_8_2
      try simp only [kb_eq0, kb_ne0, lg_cmp_lt, lg_cmp_le, lg_cmp_gt, lg_cmp_ge, lg_cmp_eq] at t_8_2
      try simp only [Int32.lt_iff_toInt_lt, Int32.le_iff_toInt_le, ← Int32.toInt_inj, Int64.lt_iff_toInt_lt, Int64.le_iff_toInt_le, ← Int64.toInt_inj, Int32.toInt_toInt64, Int32.reduceToInt, Int64.reduceToInt] at t_8_2
      refine lv_iconst (v := (-1)) hx hb dX7_put_17 (by decide) ?_
      refine kIret (u := (fun _ => 0)) hx hb hr rfl hlocks hS dX7_put_18 ?_ (hP.sub [0, 1, 2] rfl) (hD.sub [0, 1, 2] (by decide) rfl)
      first
        | exact (kif_t (by omega)).symm
        | exact (kif_f (by omega)).symm
    · have t_8_2 := c_8_2
      try simp only [kb_eq0, kb_ne0, lg_cmp_lt, lg_cmp_le, lg_cmp_gt, lg_cmp_ge, lg_cmp_eq] at t_8_2
      try simp only [Int32.lt_iff_toInt_lt, Int32.le_iff_toInt_le, ← Int32.toInt_inj, Int64.lt_iff_toInt_lt, Int64.le_iff_toInt_le, ← Int64.toInt_inj, Int32.toInt_toInt64, Int32.reduceToInt, Int64.reduceToInt] at t_8_2
      refine lv_iload_n hx hb dX7_put_11 rfl (lv_at hl 2 rfl) ?_
      refine lv_ldc (v := 262143) hx hb hown (hts (.constant RX7 52 (262143)) (List.mem_of_getElem? (i := 1) rfl)) dX7_put_12 ?_
      refine lv_icmp_le (tgt := 19) hx hb dX7_put_14 (by decide) (fun c_14_3 => ?_) (fun c_14_3 => ?_)
      · have t_14_3 := c_14_3
        try simp only [kb_eq0, kb_ne0, lg_cmp_lt, lg_cmp_le, lg_cmp_gt, lg_cmp_ge, lg_cmp_eq] at t_14_3
        try simp only [Int32.lt_iff_toInt_lt, Int32.le_iff_toInt_le, ← Int32.toInt_inj, Int64.lt_iff_toInt_lt, Int64.le_iff_toInt_le, ← Int64.toInt_inj, Int32.toInt_toInt64, Int32.reduceToInt, Int64.reduceToInt] at t_14_3
        refine lv_aload_n hx hb dX7_put_19 rfl (lv_at hl 0 rfl) ?_
        refine va_get (D := D) (ci := 7) (v := .ref aS) (C := RX7) (T := TX7) (N := 11) hx hb hts iX7_put_X7 hown hK hP 0 rfl rfl 0 (by decide) (hts (.fieldLink RX7 12 "TapeCalculator" "store" "LTapeCalculator$Store;") (List.mem_of_getElem? (i := 2) rfl)) (fun _ h9 => h9) rfl dX7_put_20 ?_
        refine lv_iload_n hx hb dX7_put_23 rfl (lv_at hl 1 rfl) ?_
        refine kCallI (wr := [(h0, .inr (7, [.ref aS, .ref aA, .ref aU, .ref aX, .ref aW, .int pl, .int np, .int li, .int sw, .int lst, .long ad]))]) (va_runV (As := [.int n]) (rest := []) ⟨hx, hb, hml, hown, hts⟩ (c_halfAt l D cI cL cB cZ cT _ aS bS n) (cwV 1 hts gX7_put_X3_halfAt rfl rfl rfl (by decide +kernel) ⟨Nat.le_of_ble_eq_true rfl, Nat.le_of_ble_eq_true rfl⟩) (kPreV hG hP hD [1, 2] rfl (by decide) 0 3 rfl rfl rfl) rfl rfl hl.1 rfl (lv_room (Nat.le_of_ble_eq_true rfl)) dX7_put_24 ⟨Nat.le_of_ble_eq_true rfl, Nat.le_of_ble_eq_true rfl⟩) hA hP hD hS [1, 2] [0] rfl rfl (by decide) (by decide) (fun r_5 u_r_5 H locs wr_5 hP hD hS => ?_)
        have hP : va_P D vwCl [(h0, .inr (7, [.ref aS, .ref aA, .ref aU, .ref aX, .ref aW, .int pl, .int np, .int li, .int sw, .int lst, .long ad])), (aS, .inr (3, [.ref bS])), (bS, .inl (cI, 512, .inl (fun _ => 0)))] H := hP
        have hD : va_D A [(h0, .inr (7, [.ref aS, .ref aA, .ref aU, .ref aX, .ref aW, .int pl, .int np, .int li, .int sw, .int lst, .long ad])), (aS, .inr (3, [.ref bS])), (bS, .inl (cI, 512, .inl (fun _ => 0)))] := hD
        try dsimp only at wr_5
        subst wr_5
        refine lv_istore_n (lv' := [(3, .int 0), (0, .ref h0), (1, .int n), (2, .int b)]) hx hb dX7_put_27 rfl hl (by decide) rfl (fun ls hl => ?_)
        refine lv_aload_n hx hb dX7_put_28 rfl (lv_at hl 1 rfl) ?_
        refine va_get (D := D) (ci := 7) (v := .ref aS) (C := RX7) (T := TX7) (N := 11) hx hb hts iX7_put_X7 hown hK hP 0 rfl rfl 0 (by decide) (hts (.fieldLink RX7 12 "TapeCalculator" "store" "LTapeCalculator$Store;") (List.mem_of_getElem? (i := 2) rfl)) (fun _ h9 => h9) rfl dX7_put_29 ?_
        refine lv_iload_n hx hb dX7_put_32 rfl (lv_at hl 2 rfl) ?_
        refine lv_iload_n hx hb dX7_put_33 rfl (lv_at hl 3 rfl) ?_
        refine kCallVd (wr := [(h0, .inr (7, [.ref aS, .ref aA, .ref aU, .ref aX, .ref aW, .int pl, .int np, .int li, .int sw, .int lst, .long ad]))]) (va_runV (As := [.int n, .int b]) (rest := []) ⟨hx, hb, hml, hown, hts⟩ (c_keepHalf l D cI cL cB cZ cT _ aS bS n b) (cwV 2 hts gX7_put_X3_keepHalf rfl rfl rfl (by decide +kernel) ⟨Nat.le_of_ble_eq_true rfl, Nat.le_of_ble_eq_true rfl⟩) (kPreV hG hP hD [1, 2] rfl (by decide) 0 3 rfl rfl rfl) rfl rfl hl.1 rfl (lv_room (Nat.le_of_ble_eq_true rfl)) dX7_put_34 ⟨Nat.le_of_ble_eq_true rfl, Nat.le_of_ble_eq_true rfl⟩) hA hP hD hS [1, 2] [0] rfl rfl (by decide) (by decide) (fun _ u_r_6 H locs wr_6 hP hD hS => ?_)
        have hP : va_P D vwCl [(h0, .inr (7, [.ref aS, .ref aA, .ref aU, .ref aX, .ref aW, .int pl, .int np, .int li, .int sw, .int lst, .long ad])), (aS, .inr (3, [.ref bS])), (bS, .inl (cI, 512, .inl u_r_6))] H := hP
        have hD : va_D A [(h0, .inr (7, [.ref aS, .ref aA, .ref aU, .ref aX, .ref aW, .int pl, .int np, .int li, .int sw, .int lst, .long ad])), (aS, .inr (3, [.ref bS])), (bS, .inl (cI, 512, .inl u_r_6))] := hD
        try dsimp only at wr_6
        refine lv_iload_n hx hb dX7_put_37 rfl (lv_at hl 0 rfl) ?_
        refine kIret (u := u_r_6) hx hb hr rfl hlocks hS dX7_put_38 ?_ (hP.sub [0, 1, 2] rfl) (hD.sub [0, 1, 2] (by decide) rfl)
        first
          | exact (kif_t (by omega)).symm
          | exact (kif_f (by omega)).symm
      · have t_14_3 := c_14_3
        try simp only [kb_eq0, kb_ne0, lg_cmp_lt, lg_cmp_le, lg_cmp_gt, lg_cmp_ge, lg_cmp_eq] at t_14_3
        try simp only [Int32.lt_iff_toInt_lt, Int32.le_iff_toInt_le, ← Int32.toInt_inj, Int64.lt_iff_toInt_lt, Int64.le_iff_toInt_le, ← Int64.toInt_inj, Int32.toInt_toInt64, Int32.reduceToInt, Int64.reduceToInt] at t_14_3
        refine lv_iconst (v := (-1)) hx hb dX7_put_17 (by decide) ?_
        refine kIret (u := (fun _ => 0)) hx hb hr rfl hlocks hS dX7_put_18 ?_ (hP.sub [0, 1, 2] rfl) (hD.sub [0, 1, 2] (by decide) rfl)
        first
          | exact (kif_t (by omega)).symm
          | exact (kif_f (by omega)).symm
set_option maxRecDepth 100000 in
set_option maxHeartbeats 4000000 in
theorem c_wholeAt (l : Launch) (D : va_G) (cI cL cB cZ cT : ClassId) (sz : Nat) (aS bS : Nat) (n : Int32) : kM (S := Unit) l yX3_wholeAt wsX3_wholeAt ({ frames := 2, cells := 0, slots := 0, locals := 41 }) D (kT cI cL cB cZ cT) [.ref aS, .int n] [(aS, .inr (3, [.ref bS])), (bS, .inl (cI, 512, .inl (fun _ => 0)))] sz eL (fun r _ => r = 0) (fun _ => [(aS, .inr (3, [.ref bS])), (bS, .inl (cI, 512, .inl (fun _ => 0)))]) 0 0 := by
  refine kStart (cc := cX3_wholeAt) (maxL := 2) (ret := (some .long)) (own := RX3) (by decide) rfl rfl (Nat.le_of_ble_eq_true rfl) ?_
  intro p e s m args below meth c A ls hx hb hr hml hown hts hlocks hnm hsz hA hG hP hD hS hl
  have hK := hG.1
  have hl : lv_has ls 2 [(0, .ref aS), (1, .int n)] := hl
  refine lv_aload_n hx hb dX3_wholeAt_0 rfl (lv_at hl 0 rfl) ?_
  refine lv_iload_n hx hb dX3_wholeAt_1 rfl (lv_at hl 1 rfl) ?_
  refine kCallI (wr := []) (va_runV (As := [.int n]) (rest := []) ⟨hx, hb, hml, hown, hts⟩ (c_halfAt l D cI cL cB cZ cT _ aS bS n) (cwV 1 hts gX3_wholeAt_X3_halfAt rfl rfl rfl (by decide +kernel) ⟨Nat.le_of_ble_eq_true rfl, Nat.le_of_ble_eq_true rfl⟩) (kPreV hG hP hD [0, 1] rfl (by decide) 0 3 rfl rfl rfl) rfl rfl hl.1 rfl (lv_room (Nat.le_of_ble_eq_true rfl)) dX3_wholeAt_2 ⟨Nat.le_of_ble_eq_true rfl, Nat.le_of_ble_eq_true rfl⟩) hA hP hD hS [0, 1] [] rfl rfl (by decide) (by decide) (fun r_1 u_r_1 H locs wr_1 hP hD hS => ?_)
  have hP : va_P D vwCl [(aS, .inr (3, [.ref bS])), (bS, .inl (cI, 512, .inl (fun _ => 0)))] H := hP
  have hD : va_D A [(aS, .inr (3, [.ref bS])), (bS, .inl (cI, 512, .inl (fun _ => 0)))] := hD
  try dsimp only at wr_1
  subst wr_1
  refine lv_i2l hx hb dX3_wholeAt_5 rfl ?_
  refine lv_topl (fun x_2 ex_2 => ?_)
  obtain rfl : x_2 = 0 := ex_2.trans (by decide)
  refine lv_bipush (v := 18) hx hb dX3_wholeAt_6 (by decide) ?_
  refine lv_lshl hx hb dX3_wholeAt_8 rfl ?_
  refine lv_topl (fun x_3 ex_3 => ?_)
  obtain rfl : x_3 = 0 := ex_3.trans (by decide)
  refine lv_aload_n hx hb dX3_wholeAt_9 rfl (lv_at hl 0 rfl) ?_
  refine lv_iload_n hx hb dX3_wholeAt_10 rfl (lv_at hl 1 rfl) ?_
  refine lv_iconst (v := 1) hx hb dX3_wholeAt_11 (by decide) ?_
  refine lv_iadd hx hb dX3_wholeAt_12 ?_
  refine kCallI (wr := []) (va_runV (As := [.int (n + 1)]) (rest := [.long 0]) ⟨hx, hb, hml, hown, hts⟩ (c_halfAt l D cI cL cB cZ cT _ aS bS (n + 1)) (cwV 1 hts gX3_wholeAt_X3_halfAt rfl rfl rfl (by decide +kernel) ⟨Nat.le_of_ble_eq_true rfl, Nat.le_of_ble_eq_true rfl⟩) (kPreV hG hP hD [0, 1] rfl (by decide) 0 3 rfl rfl rfl) rfl rfl hl.1 rfl (lv_room (Nat.le_of_ble_eq_true rfl)) dX3_wholeAt_13 ⟨Nat.le_of_ble_eq_true rfl, Nat.le_of_ble_eq_true rfl⟩) hA hP hD hS [0, 1] [] rfl rfl (by decide) (by decide) (fun r_4 u_r_4 H locs wr_4 hP hD hS => ?_)
  have hP : va_P D vwCl [(aS, .inr (3, [.ref bS])), (bS, .inl (cI, 512, .inl (fun _ => 0)))] H := hP
  have hD : va_D A [(aS, .inr (3, [.ref bS])), (bS, .inl (cI, 512, .inl (fun _ => 0)))] := hD
  try dsimp only at wr_4
  subst wr_4
  refine lv_i2l hx hb dX3_wholeAt_16 rfl ?_
  refine lv_topl (fun x_5 ex_5 => ?_)
  obtain rfl : x_5 = 0 := ex_5.trans (by decide)
  refine lv_lor hx hb dX3_wholeAt_17 ?_
  refine lv_topl (fun x_6 ex_6 => ?_)
  obtain rfl : x_6 = 0 := ex_6.trans (by decide)
  refine kLret (u := ()) hx hb hr hlocks hS dX3_wholeAt_18 ?_ (hP.sub [0, 1] rfl) (hD.sub [0, 1] (by decide) rfl)
  exact rfl
set_option maxRecDepth 100000 in
theorem iX7_whole_X7 : ∀ w ∈ wsX70, w ∈ wsX7_whole := fun w h => (goodIn_r (big := wsX7_whole) wsX70 [17, 18, 19, 20, 21, 22, 23, 24, 25, 26, 27] rfl (by decide +kernel) w h).1
set_option maxRecDepth 100000 in
set_option maxHeartbeats 4000000 in
theorem c_whole (l : Launch) (D : va_G) (cI cL cB cZ cT : ClassId) (sz : Nat) (h0 aS aA aU aX aW : Nat) (pl np li sw lst : Int32) (ad : Int64) (bS : Nat) (n : Int32) : kM (S := Unit) l yX7_whole wsX7_whole ({ frames := 3, cells := 0, slots := 0, locals := 62 }) D (kT cI cL cB cZ cT) [.ref h0, .int n] [(h0, .inr (7, [.ref aS, .ref aA, .ref aU, .ref aX, .ref aW, .int pl, .int np, .int li, .int sw, .int lst, .long ad])), (aS, .inr (3, [.ref bS])), (bS, .inl (cI, 512, .inl (fun _ => 0)))] sz eL (fun r _ => r = (kif ((0 ≤ n.toInt ∧ n.toInt < 512) ∧ (n &&& 1).toInt = 0) 0 (-1))) (fun _ => [(h0, .inr (7, [.ref aS, .ref aA, .ref aU, .ref aX, .ref aW, .int pl, .int np, .int li, .int sw, .int lst, .long ad])), (aS, .inr (3, [.ref bS])), (bS, .inl (cI, 512, .inl (fun _ => 0)))]) 0 0 := by
  refine kStart (cc := cX7_whole) (maxL := 2) (ret := (some .long)) (own := RX7) (by decide) rfl rfl (Nat.le_of_ble_eq_true rfl) ?_
  intro p e s m args below meth c A ls hx hb hr hml hown hts hlocks hnm hsz hA hG hP hD hS hl
  have hK := hG.1
  have hl : lv_has ls 2 [(0, .ref h0), (1, .int n)] := hl
  refine lv_iload_n hx hb dX7_whole_0 rfl (lv_at hl 1 rfl) ?_
  refine kCallI (wr := [(h0, .inr (7, [.ref aS, .ref aA, .ref aU, .ref aX, .ref aW, .int pl, .int np, .int li, .int sw, .int lst, .long ad])), (aS, .inr (3, [.ref bS])), (bS, .inl (cI, 512, .inl (fun _ => 0)))]) (va_runS (As := [.int n]) (rest := []) ⟨hx, hb, hml, hown, hts⟩ (c_isHalf l D cI cL cB cZ cT _ n) (va_cwS 1 hts gX7_whole_X7_isHalf rfl rfl rfl (by decide +kernel) ⟨Nat.le_of_ble_eq_true rfl, Nat.le_of_ble_eq_true rfl⟩) (kPreS hG hP hD [] rfl (by decide)) rfl rfl hl.1 rfl (lv_room (Nat.le_of_ble_eq_true rfl)) dX7_whole_1 ⟨Nat.le_of_ble_eq_true rfl, Nat.le_of_ble_eq_true rfl⟩) hA hP hD hS [] [0, 1, 2] rfl rfl (by decide) (by decide) (fun r_1 u_r_1 H locs wr_1 hP hD hS => ?_)
  have hP : va_P D vwCl [(h0, .inr (7, [.ref aS, .ref aA, .ref aU, .ref aX, .ref aW, .int pl, .int np, .int li, .int sw, .int lst, .long ad])), (aS, .inr (3, [.ref bS])), (bS, .inl (cI, 512, .inl (fun _ => 0)))] H := hP
  have hD : va_D A [(h0, .inr (7, [.ref aS, .ref aA, .ref aU, .ref aX, .ref aW, .int pl, .int np, .int li, .int sw, .int lst, .long ad])), (aS, .inr (3, [.ref bS])), (bS, .inl (cI, 512, .inl (fun _ => 0)))] := hD
  try dsimp only at wr_1
  subst wr_1
  refine lv_if_eq (tgt := 24) hx hb dX7_whole_4 (by decide) (fun c_4_1 => ?_) (fun c_4_1 => ?_)
  · have t_4_1 := c_4_1
    try simp only [kb_eq0, kb_ne0, lg_cmp_lt, lg_cmp_le, lg_cmp_gt, lg_cmp_ge, lg_cmp_eq] at t_4_1
    try simp only [Int32.lt_iff_toInt_lt, Int32.le_iff_toInt_le, ← Int32.toInt_inj, Int64.lt_iff_toInt_lt, Int64.le_iff_toInt_le, ← Int64.toInt_inj, Int32.toInt_toInt64, Int32.reduceToInt, Int64.reduceToInt] at t_4_1
    refine lv_ldc2 (v := (-1)) hx hb hown (hts (.constantLong RX7 61 (-1)) (List.mem_of_getElem? (i := 2) rfl)) dX7_whole_24 ?_
    refine kLret (u := ()) hx hb hr hlocks hS dX7_whole_27 ?_ (hP.sub [0, 1, 2] rfl) (hD.sub [0, 1, 2] (by decide) rfl)
    first
      | exact (kif_t (by omega)).symm
      | exact (kif_f (by omega)).symm
  · have t_4_1 := c_4_1
    try simp only [kb_eq0, kb_ne0, lg_cmp_lt, lg_cmp_le, lg_cmp_gt, lg_cmp_ge, lg_cmp_eq] at t_4_1
    try simp only [Int32.lt_iff_toInt_lt, Int32.le_iff_toInt_le, ← Int32.toInt_inj, Int64.lt_iff_toInt_lt, Int64.le_iff_toInt_le, ← Int64.toInt_inj, Int32.toInt_toInt64, Int32.reduceToInt, Int64.reduceToInt] at t_4_1
    refine lv_iload_n hx hb dX7_whole_7 rfl (lv_at hl 1 rfl) ?_
    refine lv_iconst (v := 1) hx hb dX7_whole_8 (by decide) ?_
    refine lv_iand hx hb dX7_whole_9 ?_
    refine lv_if_ne (tgt := 24) hx hb dX7_whole_10 (by decide) (fun c_10_2 => ?_) (fun c_10_2 => ?_)
    · have t_10_2 := c_10_2
      try simp only [kb_eq0, kb_ne0, lg_cmp_lt, lg_cmp_le, lg_cmp_gt, lg_cmp_ge, lg_cmp_eq] at t_10_2
      try simp only [Int32.lt_iff_toInt_lt, Int32.le_iff_toInt_le, ← Int32.toInt_inj, Int64.lt_iff_toInt_lt, Int64.le_iff_toInt_le, ← Int64.toInt_inj, Int32.toInt_toInt64, Int32.reduceToInt, Int64.reduceToInt] at t_10_2
      refine lv_ldc2 (v := (-1)) hx hb hown (hts (.constantLong RX7 61 (-1)) (List.mem_of_getElem? (i := 2) rfl)) dX7_whole_24 ?_
      refine kLret (u := ()) hx hb hr hlocks hS dX7_whole_27 ?_ (hP.sub [0, 1, 2] rfl) (hD.sub [0, 1, 2] (by decide) rfl)
      first
        | exact (kif_t (by omega)).symm
        | exact (kif_f (by omega)).symm
    · have t_10_2 := c_10_2
      try simp only [kb_eq0, kb_ne0, lg_cmp_lt, lg_cmp_le, lg_cmp_gt, lg_cmp_ge, lg_cmp_eq] at t_10_2
      try simp only [Int32.lt_iff_toInt_lt, Int32.le_iff_toInt_le, ← Int32.toInt_inj, Int64.lt_iff_toInt_lt, Int64.le_iff_toInt_le, ← Int64.toInt_inj, Int32.toInt_toInt64, Int32.reduceToInt, Int64.reduceToInt] at t_10_2
      refine lv_aload_n hx hb dX7_whole_13 rfl (lv_at hl 0 rfl) ?_
      refine va_get (D := D) (ci := 7) (v := .ref aS) (C := RX7) (T := TX7) (N := 11) hx hb hts iX7_whole_X7 hown hK hP 0 rfl rfl 0 (by decide) (hts (.fieldLink RX7 12 "TapeCalculator" "store" "LTapeCalculator$Store;") (List.mem_of_getElem? (i := 1) rfl)) (fun _ h9 => h9) rfl dX7_whole_14 ?_
      refine lv_iload_n hx hb dX7_whole_17 rfl (lv_at hl 1 rfl) ?_
      refine kCallL (wr := [(h0, .inr (7, [.ref aS, .ref aA, .ref aU, .ref aX, .ref aW, .int pl, .int np, .int li, .int sw, .int lst, .long ad]))]) (va_runV (As := [.int n]) (rest := []) ⟨hx, hb, hml, hown, hts⟩ (c_wholeAt l D cI cL cB cZ cT _ aS bS n) (cwV 1 hts gX7_whole_X3_wholeAt rfl rfl rfl (by decide +kernel) ⟨Nat.le_of_ble_eq_true rfl, Nat.le_of_ble_eq_true rfl⟩) (kPreV hG hP hD [1, 2] rfl (by decide) 0 3 rfl rfl rfl) rfl rfl hl.1 rfl (lv_room (Nat.le_of_ble_eq_true rfl)) dX7_whole_18 ⟨Nat.le_of_ble_eq_true rfl, Nat.le_of_ble_eq_true rfl⟩) hA hP hD hS [1, 2] [0] rfl rfl (by decide) (by decide) (fun r_4 u_r_4 H locs wr_4 hP hD hS => ?_)
      have hP : va_P D vwCl [(h0, .inr (7, [.ref aS, .ref aA, .ref aU, .ref aX, .ref aW, .int pl, .int np, .int li, .int sw, .int lst, .long ad])), (aS, .inr (3, [.ref bS])), (bS, .inl (cI, 512, .inl (fun _ => 0)))] H := hP
      have hD : va_D A [(h0, .inr (7, [.ref aS, .ref aA, .ref aU, .ref aX, .ref aW, .int pl, .int np, .int li, .int sw, .int lst, .long ad])), (aS, .inr (3, [.ref bS])), (bS, .inl (cI, 512, .inl (fun _ => 0)))] := hD
      try dsimp only at wr_4
      subst wr_4
      refine lv_goto (tgt := 27) hx hb dX7_whole_21 (by decide) ?_
      refine kLret (u := ()) hx hb hr hlocks hS dX7_whole_27 ?_ (hP.sub [0, 1, 2] rfl) (hD.sub [0, 1, 2] (by decide) rfl)
      first
        | exact (kif_t (by omega)).symm
        | exact (kif_f (by omega)).symm
