set_option maxRecDepth 100000 in
theorem iX4_itemAt_X4 : ∀ w ∈ wsX40, w ∈ wsX4_itemAt := fun w h => (goodIn_r (big := wsX4_itemAt) wsX40 [4, 5, 6] rfl (by decide +kernel) w h).1
set_option maxRecDepth 100000 in
set_option maxHeartbeats 4000000 in
theorem g_itemAt (l : Launch) (D : va_G) (cI cL cB cZ cT : ClassId) (sz : Nat) (t0 i0 : Nat) (n0 p0 : Int32) (f0 : Nat → Int64) (i : Int32) : kM (S := Unit) l yX4_itemAt wsX4_itemAt ({ frames := 0, cells := 0, slots := 0, locals := 0 }) D (kT cI cL cB cZ cT) [.ref t0, .int i] [(t0, .inr (4, [.ref i0, .int n0, .int p0])), (i0, .inl (cL, 300, .inr (.inl f0)))] sz eL (fun _ _ => True) (fun _ => [(t0, .inr (4, [.ref i0, .int n0, .int p0])), (i0, .inl (cL, 300, .inr (.inl f0)))]) 0 0 := by
  refine kStart (cc := cX4_itemAt) (maxL := 2) (ret := (some .long)) (own := RX4) (by decide) rfl rfl (Nat.le_of_ble_eq_true rfl) ?_
  intro p e s m args below meth c A ls hx hb hr hml hown hts hlocks hnm hsz hA hG hP hD hS hl
  have hK := hG.1
  have hl : lv_has ls 2 [(0, .ref t0), (1, .int i)] := hl
  refine lv_iload_n hx hb dX4_itemAt_0 rfl (lv_at hl 1 rfl) ?_
  refine lv_if_lt (tgt := 30) hx hb dX4_itemAt_1 (by decide) (fun c_1_0 => ?_) (fun c_1_0 => ?_)
  · have t_1_0 := c_1_0
    try simp only [kb_eq0, kb_ne0, lg_cmp_lt, lg_cmp_le, lg_cmp_gt, lg_cmp_ge, lg_cmp_eq] at t_1_0
    try simp only [Int32.lt_iff_toInt_lt, Int32.le_iff_toInt_le, ← Int32.toInt_inj, Int64.lt_iff_toInt_lt, Int64.le_iff_toInt_le, ← Int64.toInt_inj, Int32.toInt_toInt64, Int32.reduceToInt, Int64.reduceToInt] at t_1_0
    refine lv_ldc2 (v := (-9)) hx hb hown (hts (.constantLong RX4 19 (-9)) (List.mem_of_getElem? (i := 3) rfl)) dX4_itemAt_30 ?_
    refine kLret (u := ()) hx hb hr hlocks hS dX4_itemAt_33 ?_ (hP.sub [0, 1] rfl) (hD.sub [0, 1] (by decide) rfl)
    exact trivial
  · have t_1_0 := c_1_0
    try simp only [kb_eq0, kb_ne0, lg_cmp_lt, lg_cmp_le, lg_cmp_gt, lg_cmp_ge, lg_cmp_eq] at t_1_0
    try simp only [Int32.lt_iff_toInt_lt, Int32.le_iff_toInt_le, ← Int32.toInt_inj, Int64.lt_iff_toInt_lt, Int64.le_iff_toInt_le, ← Int64.toInt_inj, Int32.toInt_toInt64, Int32.reduceToInt, Int64.reduceToInt] at t_1_0
    refine lv_iload_n hx hb dX4_itemAt_4 rfl (lv_at hl 1 rfl) ?_
    refine lv_aload_n hx hb dX4_itemAt_5 rfl (lv_at hl 0 rfl) ?_
    refine va_get (D := D) (ci := 4) (v := .int n0) (C := RX4) (T := TX4) (N := 3) hx hb hts iX4_itemAt_X4 hown hK hP 0 rfl rfl 1 (by decide) (hts (.fieldLink RX4 15 "TapeCalculator$Tape" "count" "I") (List.mem_of_getElem? (i := 1) rfl)) (fun _ h9 => h9) rfl dX4_itemAt_6 ?_
    refine lv_icmp_ge (tgt := 30) hx hb dX4_itemAt_9 (by decide) (fun c_9_1 => ?_) (fun c_9_1 => ?_)
    · have t_9_1 := c_9_1
      try simp only [kb_eq0, kb_ne0, lg_cmp_lt, lg_cmp_le, lg_cmp_gt, lg_cmp_ge, lg_cmp_eq] at t_9_1
      try simp only [Int32.lt_iff_toInt_lt, Int32.le_iff_toInt_le, ← Int32.toInt_inj, Int64.lt_iff_toInt_lt, Int64.le_iff_toInt_le, ← Int64.toInt_inj, Int32.toInt_toInt64, Int32.reduceToInt, Int64.reduceToInt] at t_9_1
      refine lv_ldc2 (v := (-9)) hx hb hown (hts (.constantLong RX4 19 (-9)) (List.mem_of_getElem? (i := 3) rfl)) dX4_itemAt_30 ?_
      refine kLret (u := ()) hx hb hr hlocks hS dX4_itemAt_33 ?_ (hP.sub [0, 1] rfl) (hD.sub [0, 1] (by decide) rfl)
      exact trivial
    · have t_9_1 := c_9_1
      try simp only [kb_eq0, kb_ne0, lg_cmp_lt, lg_cmp_le, lg_cmp_gt, lg_cmp_ge, lg_cmp_eq] at t_9_1
      try simp only [Int32.lt_iff_toInt_lt, Int32.le_iff_toInt_le, ← Int32.toInt_inj, Int64.lt_iff_toInt_lt, Int64.le_iff_toInt_le, ← Int64.toInt_inj, Int32.toInt_toInt64, Int32.reduceToInt, Int64.reduceToInt] at t_9_1
      refine lv_iload_n hx hb dX4_itemAt_12 rfl (lv_at hl 1 rfl) ?_
      refine lv_aload_n hx hb dX4_itemAt_13 rfl (lv_at hl 0 rfl) ?_
      refine va_get (D := D) (ci := 4) (v := .ref i0) (C := RX4) (T := TX4) (N := 3) hx hb hts iX4_itemAt_X4 hown hK hP 0 rfl rfl 0 (by decide) (hts (.fieldLink RX4 9 "TapeCalculator$Tape" "items" "[J") (List.mem_of_getElem? (i := 2) rfl)) (fun _ h9 => h9) rfl dX4_itemAt_14 ?_
      refine va_alen hx hb hK hP 1 1 rfl rfl (v := 300) rfl dX4_itemAt_17 ?_
      refine lv_icmp_ge (tgt := 30) hx hb dX4_itemAt_18 (by decide) (fun c_18_2 => ?_) (fun c_18_2 => ?_)
      · have t_18_2 := c_18_2
        try simp only [kb_eq0, kb_ne0, lg_cmp_lt, lg_cmp_le, lg_cmp_gt, lg_cmp_ge, lg_cmp_eq] at t_18_2
        try simp only [Int32.lt_iff_toInt_lt, Int32.le_iff_toInt_le, ← Int32.toInt_inj, Int64.lt_iff_toInt_lt, Int64.le_iff_toInt_le, ← Int64.toInt_inj, Int32.toInt_toInt64, Int32.reduceToInt, Int64.reduceToInt] at t_18_2
        refine lv_ldc2 (v := (-9)) hx hb hown (hts (.constantLong RX4 19 (-9)) (List.mem_of_getElem? (i := 3) rfl)) dX4_itemAt_30 ?_
        refine kLret (u := ()) hx hb hr hlocks hS dX4_itemAt_33 ?_ (hP.sub [0, 1] rfl) (hD.sub [0, 1] (by decide) rfl)
        exact trivial
      · have t_18_2 := c_18_2
        try simp only [kb_eq0, kb_ne0, lg_cmp_lt, lg_cmp_le, lg_cmp_gt, lg_cmp_ge, lg_cmp_eq] at t_18_2
        try simp only [Int32.lt_iff_toInt_lt, Int32.le_iff_toInt_le, ← Int32.toInt_inj, Int64.lt_iff_toInt_lt, Int64.le_iff_toInt_le, ← Int64.toInt_inj, Int32.toInt_toInt64, Int32.reduceToInt, Int64.reduceToInt] at t_18_2
        refine lv_aload_n hx hb dX4_itemAt_21 rfl (lv_at hl 0 rfl) ?_
        refine va_get (D := D) (ci := 4) (v := .ref i0) (C := RX4) (T := TX4) (N := 3) hx hb hts iX4_itemAt_X4 hown hK hP 0 rfl rfl 0 (by decide) (hts (.fieldLink RX4 9 "TapeCalculator$Tape" "items" "[J") (List.mem_of_getElem? (i := 2) rfl)) (fun _ h9 => h9) rfl dX4_itemAt_22 ?_
        refine lv_iload_n hx hb dX4_itemAt_25 rfl (lv_at hl 1 rfl) ?_
        refine va_lald hx hb hK hP 1 1 rfl rfl (vp_in_iff.mpr (by omega)) dX4_itemAt_26 ?_
        refine lv_goto (tgt := 33) hx hb dX4_itemAt_27 (by decide) ?_
        refine kLret (u := ()) hx hb hr hlocks hS dX4_itemAt_33 ?_ (hP.sub [0, 1] rfl) (hD.sub [0, 1] (by decide) rfl)
        exact trivial
set_option maxRecDepth 100000 in
theorem iX4_addBehindAll_X4 : ∀ w ∈ wsX40, w ∈ wsX4_addBehindAll := fun w h => (goodIn_r (big := wsX4_addBehindAll) wsX40 [3, 4, 5] rfl (by decide +kernel) w h).1
set_option maxRecDepth 100000 in
set_option maxHeartbeats 4000000 in
theorem g_addBehind (l : Launch) (D : va_G) (cI cL cB cZ cT : ClassId) (sz : Nat) (t0 i0 : Nat) (n0 p0 : Int32) (f0 : Nat → Int64) (v : Int64) : kM (S := (Int32 × (Nat → Int64))) l yX4_addBehindAll wsX4_addBehindAll ({ frames := 0, cells := 0, slots := 0, locals := 0 }) D (kT cI cL cB cZ cT) [.ref t0, .long v] [(t0, .inr (4, [.ref i0, .int n0, .int p0])), (i0, .inl (cL, 300, .inr (.inl f0)))] sz eI (fun r _ => r = 0 ∨ r = 1) (fun u => [(t0, .inr (4, [.ref i0, .int u.1, .int p0])), (i0, .inl (cL, 300, .inr (.inl u.2)))]) 0 0 := by
  refine kStart (cc := cX4_addBehindAll) (maxL := 3) (ret := (some .boolean)) (own := RX4) (by decide) rfl rfl (Nat.le_of_ble_eq_true rfl) ?_
  intro p e s m args below meth c A ls hx hb hr hml hown hts hlocks hnm hsz hA hG hP hD hS hl
  have hK := hG.1
  have hl : lv_has ls 3 [(0, .ref t0), (1, .long v)] := hl
  refine lv_aload_n hx hb dX4_addBehindAll_0 rfl (lv_at hl 0 rfl) ?_
  refine va_get (D := D) (ci := 4) (v := .int n0) (C := RX4) (T := TX4) (N := 3) hx hb hts iX4_addBehindAll_X4 hown hK hP 0 rfl rfl 1 (by decide) (hts (.fieldLink RX4 15 "TapeCalculator$Tape" "count" "I") (List.mem_of_getElem? (i := 1) rfl)) (fun _ h9 => h9) rfl dX4_addBehindAll_1 ?_
  refine lv_if_lt (tgt := 19) hx hb dX4_addBehindAll_4 (by decide) (fun c_4_0 => ?_) (fun c_4_0 => ?_)
  · have t_4_0 := c_4_0
    try simp only [kb_eq0, kb_ne0, lg_cmp_lt, lg_cmp_le, lg_cmp_gt, lg_cmp_ge, lg_cmp_eq] at t_4_0
    try simp only [Int32.lt_iff_toInt_lt, Int32.le_iff_toInt_le, ← Int32.toInt_inj, Int64.lt_iff_toInt_lt, Int64.le_iff_toInt_le, ← Int64.toInt_inj, Int32.toInt_toInt64, Int32.reduceToInt, Int64.reduceToInt] at t_4_0
    refine lv_iconst (v := 0) hx hb dX4_addBehindAll_19 (by decide) ?_
    refine kIret (u := (n0, f0)) hx hb hr rfl hlocks hS dX4_addBehindAll_20 ?_ (hP.sub [0, 1] rfl) (hD.sub [0, 1] (by decide) rfl)
    first
      | exact Or.inl rfl
      | exact Or.inr rfl
      | assumption
  · have t_4_0 := c_4_0
    try simp only [kb_eq0, kb_ne0, lg_cmp_lt, lg_cmp_le, lg_cmp_gt, lg_cmp_ge, lg_cmp_eq] at t_4_0
    try simp only [Int32.lt_iff_toInt_lt, Int32.le_iff_toInt_le, ← Int32.toInt_inj, Int64.lt_iff_toInt_lt, Int64.le_iff_toInt_le, ← Int64.toInt_inj, Int32.toInt_toInt64, Int32.reduceToInt, Int64.reduceToInt] at t_4_0
    refine lv_aload_n hx hb dX4_addBehindAll_7 rfl (lv_at hl 0 rfl) ?_
    refine va_get (D := D) (ci := 4) (v := .int n0) (C := RX4) (T := TX4) (N := 3) hx hb hts iX4_addBehindAll_X4 hown hK hP 0 rfl rfl 1 (by decide) (hts (.fieldLink RX4 15 "TapeCalculator$Tape" "count" "I") (List.mem_of_getElem? (i := 1) rfl)) (fun _ h9 => h9) rfl dX4_addBehindAll_8 ?_
    refine lv_aload_n hx hb dX4_addBehindAll_11 rfl (lv_at hl 0 rfl) ?_
    refine va_get (D := D) (ci := 4) (v := .ref i0) (C := RX4) (T := TX4) (N := 3) hx hb hts iX4_addBehindAll_X4 hown hK hP 0 rfl rfl 0 (by decide) (hts (.fieldLink RX4 9 "TapeCalculator$Tape" "items" "[J") (List.mem_of_getElem? (i := 2) rfl)) (fun _ h9 => h9) rfl dX4_addBehindAll_12 ?_
    refine va_alen hx hb hK hP 1 1 rfl rfl (v := 300) rfl dX4_addBehindAll_15 ?_
    refine lv_icmp_lt (tgt := 21) hx hb dX4_addBehindAll_16 (by decide) (fun c_16_1 => ?_) (fun c_16_1 => ?_)
    · have t_16_1 := c_16_1
      try simp only [kb_eq0, kb_ne0, lg_cmp_lt, lg_cmp_le, lg_cmp_gt, lg_cmp_ge, lg_cmp_eq] at t_16_1
      try simp only [Int32.lt_iff_toInt_lt, Int32.le_iff_toInt_le, ← Int32.toInt_inj, Int64.lt_iff_toInt_lt, Int64.le_iff_toInt_le, ← Int64.toInt_inj, Int32.toInt_toInt64, Int32.reduceToInt, Int64.reduceToInt] at t_16_1
      refine lv_aload_n hx hb dX4_addBehindAll_21 rfl (lv_at hl 0 rfl) ?_
      refine va_get (D := D) (ci := 4) (v := .ref i0) (C := RX4) (T := TX4) (N := 3) hx hb hts iX4_addBehindAll_X4 hown hK hP 0 rfl rfl 0 (by decide) (hts (.fieldLink RX4 9 "TapeCalculator$Tape" "items" "[J") (List.mem_of_getElem? (i := 2) rfl)) (fun _ h9 => h9) rfl dX4_addBehindAll_22 ?_
      refine lv_aload_n hx hb dX4_addBehindAll_25 rfl (lv_at hl 0 rfl) ?_
      refine va_get (D := D) (ci := 4) (v := .int n0) (C := RX4) (T := TX4) (N := 3) hx hb hts iX4_addBehindAll_X4 hown hK hP 0 rfl rfl 1 (by decide) (hts (.fieldLink RX4 15 "TapeCalculator$Tape" "count" "I") (List.mem_of_getElem? (i := 1) rfl)) (fun _ h9 => h9) rfl dX4_addBehindAll_26 ?_
      refine lv_lload_n hx hb dX4_addBehindAll_29 rfl (lv_at hl 1 rfl) ?_
      refine va_last hx hb hK hP hD hS 1 1 rfl rfl (vp_in_iff.mpr (by omega)) dX4_addBehindAll_30 (fun H locs hP hD hS => ?_)
      have hP : va_P D vwCl [(t0, .inr (4, [.ref i0, .int n0, .int p0])), (i0, .inl (cL, 300, .inr (.inl (vp_updL f0 n0.toNatClampNeg v))))] H := hP
      have hD : va_D A [(t0, .inr (4, [.ref i0, .int n0, .int p0])), (i0, .inl (cL, 300, .inr (.inl (vp_updL f0 n0.toNatClampNeg v))))] := hD
      refine lv_aload_n hx hb dX4_addBehindAll_31 rfl (lv_at hl 0 rfl) ?_
      refine lv_dup hx hb dX4_addBehindAll_32 rfl ?_
      refine va_get (D := D) (ci := 4) (v := .int n0) (C := RX4) (T := TX4) (N := 3) hx hb hts iX4_addBehindAll_X4 hown hK hP 0 rfl rfl 1 (by decide) (hts (.fieldLink RX4 15 "TapeCalculator$Tape" "count" "I") (List.mem_of_getElem? (i := 1) rfl)) (fun _ h9 => h9) rfl dX4_addBehindAll_33 ?_
      refine lv_iconst (v := 1) hx hb dX4_addBehindAll_36 (by decide) ?_
      refine lv_iadd hx hb dX4_addBehindAll_37 ?_
      refine lv_topi (fun x_3 ex_3 => ?_)
      refine va_put (D := D) (ci := 4) (v := .int x_3) (ty := .int) (C := RX4) (T := TX4) (N := 3) hx hb hts iX4_addBehindAll_X4 tyX4 tyX4_ok nmX4 hown hK hP hD hS 0 rfl rfl 1 (by decide) (hts (.fieldLink RX4 15 "TapeCalculator$Tape" "count" "I") (List.mem_of_getElem? (i := 1) rfl)) (fun _ h9 => h9) rfl (by decide +kernel) rfl rfl (Nat.le_of_ble_eq_true rfl) dX4_addBehindAll_38 (fun H locs hP hD hS => ?_)
      have hP : va_P D vwCl [(t0, .inr (4, [.ref i0, .int x_3, .int p0])), (i0, .inl (cL, 300, .inr (.inl (vp_updL f0 n0.toNatClampNeg v))))] H := hP
      have hD : va_D A [(t0, .inr (4, [.ref i0, .int x_3, .int p0])), (i0, .inl (cL, 300, .inr (.inl (vp_updL f0 n0.toNatClampNeg v))))] := hD
      refine lv_iconst (v := 1) hx hb dX4_addBehindAll_41 (by decide) ?_
      refine kIret (u := (x_3, (vp_updL f0 n0.toNatClampNeg v))) hx hb hr rfl hlocks hS dX4_addBehindAll_42 ?_ (hP.sub [0, 1] rfl) (hD.sub [0, 1] (by decide) rfl)
      first
        | exact Or.inl rfl
        | exact Or.inr rfl
        | assumption
    · have t_16_1 := c_16_1
      try simp only [kb_eq0, kb_ne0, lg_cmp_lt, lg_cmp_le, lg_cmp_gt, lg_cmp_ge, lg_cmp_eq] at t_16_1
      try simp only [Int32.lt_iff_toInt_lt, Int32.le_iff_toInt_le, ← Int32.toInt_inj, Int64.lt_iff_toInt_lt, Int64.le_iff_toInt_le, ← Int64.toInt_inj, Int32.toInt_toInt64, Int32.reduceToInt, Int64.reduceToInt] at t_16_1
      refine lv_iconst (v := 0) hx hb dX4_addBehindAll_19 (by decide) ?_
      refine kIret (u := (n0, f0)) hx hb hr rfl hlocks hS dX4_addBehindAll_20 ?_ (hP.sub [0, 1] rfl) (hD.sub [0, 1] (by decide) rfl)
      first
        | exact Or.inl rfl
        | exact Or.inr rfl
        | assumption
set_option maxRecDepth 100000 in
theorem iX4_putHere_X4 : ∀ w ∈ wsX40, w ∈ wsX4_putHere := fun w h => (goodIn_r (big := wsX4_putHere) wsX40 [4, 5, 6] rfl (by decide +kernel) w h).1
set_option maxRecDepth 100000 in
set_option maxHeartbeats 4000000 in
theorem g_putHere (l : Launch) (D : va_G) (cI cL cB cZ cT : ClassId) (sz : Nat) (t0 i0 : Nat) (n0 p0 : Int32) (f0 : Nat → Int64) (v : Int64) : kM (S := (Int32 × Int32 × (Nat → Int64))) l yX4_putHere wsX4_putHere ({ frames := 0, cells := 0, slots := 0, locals := 0 }) D (kT cI cL cB cZ cT) [.ref t0, .long v] [(t0, .inr (4, [.ref i0, .int n0, .int p0])), (i0, .inl (cL, 300, .inr (.inl f0)))] sz eI (fun r _ => r = 0 ∨ r = 1) (fun u => [(t0, .inr (4, [.ref i0, .int u.1, .int u.2.1])), (i0, .inl (cL, 300, .inr (.inl u.2.2)))]) 0 0 := by
  refine kStart (cc := cX4_putHere) (maxL := 4) (ret := (some .boolean)) (own := RX4) (by decide) rfl rfl (Nat.le_of_ble_eq_true rfl) ?_
  intro p e s m args below meth c A ls hx hb hr hml hown hts hlocks hnm hsz hA hG hP hD hS hl
  have hK := hG.1
  have hl : lv_has ls 4 [(0, .ref t0), (1, .long v)] := hl
  refine lv_aload_n hx hb dX4_putHere_0 rfl (lv_at hl 0 rfl) ?_
  refine va_get (D := D) (ci := 4) (v := .int p0) (C := RX4) (T := TX4) (N := 3) hx hb hts iX4_putHere_X4 hown hK hP 0 rfl rfl 2 (by decide) (hts (.fieldLink RX4 21 "TapeCalculator$Tape" "at" "I") (List.mem_of_getElem? (i := 1) rfl)) (fun _ h9 => h9) rfl dX4_putHere_1 ?_
  refine lv_if_lt (tgt := 30) hx hb dX4_putHere_4 (by decide) (fun c_4_0 => ?_) (fun c_4_0 => ?_)
  · have t_4_0 := c_4_0
    try simp only [kb_eq0, kb_ne0, lg_cmp_lt, lg_cmp_le, lg_cmp_gt, lg_cmp_ge, lg_cmp_eq] at t_4_0
    try simp only [Int32.lt_iff_toInt_lt, Int32.le_iff_toInt_le, ← Int32.toInt_inj, Int64.lt_iff_toInt_lt, Int64.le_iff_toInt_le, ← Int64.toInt_inj, Int32.toInt_toInt64, Int32.reduceToInt, Int64.reduceToInt] at t_4_0
    refine lv_iconst (v := 0) hx hb dX4_putHere_30 (by decide) ?_
    refine kIret (u := (n0, p0, f0)) hx hb hr rfl hlocks hS dX4_putHere_31 ?_ (hP.sub [0, 1] rfl) (hD.sub [0, 1] (by decide) rfl)
    first
      | exact Or.inl rfl
      | exact Or.inr rfl
      | assumption
  · have t_4_0 := c_4_0
    try simp only [kb_eq0, kb_ne0, lg_cmp_lt, lg_cmp_le, lg_cmp_gt, lg_cmp_ge, lg_cmp_eq] at t_4_0
    try simp only [Int32.lt_iff_toInt_lt, Int32.le_iff_toInt_le, ← Int32.toInt_inj, Int64.lt_iff_toInt_lt, Int64.le_iff_toInt_le, ← Int64.toInt_inj, Int32.toInt_toInt64, Int32.reduceToInt, Int64.reduceToInt] at t_4_0
    refine lv_aload_n hx hb dX4_putHere_7 rfl (lv_at hl 0 rfl) ?_
    refine va_get (D := D) (ci := 4) (v := .int p0) (C := RX4) (T := TX4) (N := 3) hx hb hts iX4_putHere_X4 hown hK hP 0 rfl rfl 2 (by decide) (hts (.fieldLink RX4 21 "TapeCalculator$Tape" "at" "I") (List.mem_of_getElem? (i := 1) rfl)) (fun _ h9 => h9) rfl dX4_putHere_8 ?_
    refine lv_aload_n hx hb dX4_putHere_11 rfl (lv_at hl 0 rfl) ?_
    refine va_get (D := D) (ci := 4) (v := .int n0) (C := RX4) (T := TX4) (N := 3) hx hb hts iX4_putHere_X4 hown hK hP 0 rfl rfl 1 (by decide) (hts (.fieldLink RX4 15 "TapeCalculator$Tape" "count" "I") (List.mem_of_getElem? (i := 2) rfl)) (fun _ h9 => h9) rfl dX4_putHere_12 ?_
    refine lv_icmp_gt (tgt := 30) hx hb dX4_putHere_15 (by decide) (fun c_15_1 => ?_) (fun c_15_1 => ?_)
    · have t_15_1 := c_15_1
      try simp only [kb_eq0, kb_ne0, lg_cmp_lt, lg_cmp_le, lg_cmp_gt, lg_cmp_ge, lg_cmp_eq] at t_15_1
      try simp only [Int32.lt_iff_toInt_lt, Int32.le_iff_toInt_le, ← Int32.toInt_inj, Int64.lt_iff_toInt_lt, Int64.le_iff_toInt_le, ← Int64.toInt_inj, Int32.toInt_toInt64, Int32.reduceToInt, Int64.reduceToInt] at t_15_1
      refine lv_iconst (v := 0) hx hb dX4_putHere_30 (by decide) ?_
      refine kIret (u := (n0, p0, f0)) hx hb hr rfl hlocks hS dX4_putHere_31 ?_ (hP.sub [0, 1] rfl) (hD.sub [0, 1] (by decide) rfl)
      first
        | exact Or.inl rfl
        | exact Or.inr rfl
        | assumption
    · have t_15_1 := c_15_1
      try simp only [kb_eq0, kb_ne0, lg_cmp_lt, lg_cmp_le, lg_cmp_gt, lg_cmp_ge, lg_cmp_eq] at t_15_1
      try simp only [Int32.lt_iff_toInt_lt, Int32.le_iff_toInt_le, ← Int32.toInt_inj, Int64.lt_iff_toInt_lt, Int64.le_iff_toInt_le, ← Int64.toInt_inj, Int32.toInt_toInt64, Int32.reduceToInt, Int64.reduceToInt] at t_15_1
      refine lv_aload_n hx hb dX4_putHere_18 rfl (lv_at hl 0 rfl) ?_
      refine va_get (D := D) (ci := 4) (v := .int n0) (C := RX4) (T := TX4) (N := 3) hx hb hts iX4_putHere_X4 hown hK hP 0 rfl rfl 1 (by decide) (hts (.fieldLink RX4 15 "TapeCalculator$Tape" "count" "I") (List.mem_of_getElem? (i := 2) rfl)) (fun _ h9 => h9) rfl dX4_putHere_19 ?_
      refine lv_aload_n hx hb dX4_putHere_22 rfl (lv_at hl 0 rfl) ?_
      refine va_get (D := D) (ci := 4) (v := .ref i0) (C := RX4) (T := TX4) (N := 3) hx hb hts iX4_putHere_X4 hown hK hP 0 rfl rfl 0 (by decide) (hts (.fieldLink RX4 9 "TapeCalculator$Tape" "items" "[J") (List.mem_of_getElem? (i := 3) rfl)) (fun _ h9 => h9) rfl dX4_putHere_23 ?_
      refine va_alen hx hb hK hP 1 1 rfl rfl (v := 300) rfl dX4_putHere_26 ?_
      refine lv_icmp_lt (tgt := 32) hx hb dX4_putHere_27 (by decide) (fun c_27_2 => ?_) (fun c_27_2 => ?_)
      · have t_27_2 := c_27_2
        try simp only [kb_eq0, kb_ne0, lg_cmp_lt, lg_cmp_le, lg_cmp_gt, lg_cmp_ge, lg_cmp_eq] at t_27_2
        try simp only [Int32.lt_iff_toInt_lt, Int32.le_iff_toInt_le, ← Int32.toInt_inj, Int64.lt_iff_toInt_lt, Int64.le_iff_toInt_le, ← Int64.toInt_inj, Int32.toInt_toInt64, Int32.reduceToInt, Int64.reduceToInt] at t_27_2
        refine lv_aload_n hx hb dX4_putHere_32 rfl (lv_at hl 0 rfl) ?_
        refine va_get (D := D) (ci := 4) (v := .int n0) (C := RX4) (T := TX4) (N := 3) hx hb hts iX4_putHere_X4 hown hK hP 0 rfl rfl 1 (by decide) (hts (.fieldLink RX4 15 "TapeCalculator$Tape" "count" "I") (List.mem_of_getElem? (i := 2) rfl)) (fun _ h9 => h9) rfl dX4_putHere_33 ?_
        refine lv_istore_n (lv' := [(3, .int n0), (0, .ref t0), (1, .long v)]) hx hb dX4_putHere_36 rfl hl (by decide) rfl (fun ls hl => ?_)
        have J37 : ∀ (k : Nat) (j : Int32) (fj : Nat → Int64), (j.toInt - p0.toInt).toNat < k → p0.toInt ≤ j.toInt ∧ j.toInt ≤ n0.toInt → ∀ (H : Heap) (locs : List Loc), va_P D vwCl [(t0, .inr (4, [.ref i0, .int n0, .int p0])), (i0, .inl (cL, 300, .inr (.inl fj)))] H → va_D A [(t0, .inr (4, [.ref i0, .int n0, .int p0])), (i0, .inl (cL, 300, .inr (.inl fj)))] → va_S A s.heap H locs → ∀ ls : Array Slot, lv_has ls 4 [(3, .int j), (0, .ref t0), (1, .long v)] → W p l e ({ frames := 0, cells := 0, slots := 0, locals := 0 }) s m args below meth c H locs 0 0 (MQ below (kQ (S := (Int32 × Int32 × (Nat → Int64))) eI (fun r _ => r = 0 ∨ r = 1) D (fun u => [(t0, .inr (4, [.ref i0, .int u.1, .int u.2.1])), (i0, .inl (cL, 300, .inr (.inl u.2.2)))]) A) args s 0 0 A) (F0 m 37 ls []) := by
          intro k
          induction k with
          | zero =>
            intro j fj hm
            exact absurd hm (Nat.not_lt_zero _)
          | succ k ih =>
            intro j fj hm hj H locs hP hD hS ls hl
            refine lv_iload_n hx hb dX4_putHere_37 rfl (lv_at hl 0 rfl) ?_
            refine lv_aload_n hx hb dX4_putHere_38 rfl (lv_at hl 1 rfl) ?_
            refine va_get (D := D) (ci := 4) (v := .int p0) (C := RX4) (T := TX4) (N := 3) hx hb hts iX4_putHere_X4 hown hK hP 0 rfl rfl 2 (by decide) (hts (.fieldLink RX4 21 "TapeCalculator$Tape" "at" "I") (List.mem_of_getElem? (i := 1) rfl)) (fun _ h9 => h9) rfl dX4_putHere_39 ?_
            refine lv_icmp_le (tgt := 65) hx hb dX4_putHere_42 (by decide) (fun c_42_3 => ?_) (fun c_42_3 => ?_)
            · have t_42_3 := c_42_3
              try simp only [kb_eq0, kb_ne0, lg_cmp_lt, lg_cmp_le, lg_cmp_gt, lg_cmp_ge, lg_cmp_eq] at t_42_3
              try simp only [Int32.lt_iff_toInt_lt, Int32.le_iff_toInt_le, ← Int32.toInt_inj, Int64.lt_iff_toInt_lt, Int64.le_iff_toInt_le, ← Int64.toInt_inj, Int32.toInt_toInt64, Int32.reduceToInt, Int64.reduceToInt] at t_42_3
              refine lv_aload_n hx hb dX4_putHere_65 rfl (lv_at hl 1 rfl) ?_
              refine va_get (D := D) (ci := 4) (v := .ref i0) (C := RX4) (T := TX4) (N := 3) hx hb hts iX4_putHere_X4 hown hK hP 0 rfl rfl 0 (by decide) (hts (.fieldLink RX4 9 "TapeCalculator$Tape" "items" "[J") (List.mem_of_getElem? (i := 3) rfl)) (fun _ h9 => h9) rfl dX4_putHere_66 ?_
              refine lv_aload_n hx hb dX4_putHere_69 rfl (lv_at hl 1 rfl) ?_
              refine va_get (D := D) (ci := 4) (v := .int p0) (C := RX4) (T := TX4) (N := 3) hx hb hts iX4_putHere_X4 hown hK hP 0 rfl rfl 2 (by decide) (hts (.fieldLink RX4 21 "TapeCalculator$Tape" "at" "I") (List.mem_of_getElem? (i := 1) rfl)) (fun _ h9 => h9) rfl dX4_putHere_70 ?_
              refine lv_lload_n hx hb dX4_putHere_73 rfl (lv_at hl 2 rfl) ?_
              refine va_last hx hb hK hP hD hS 1 1 rfl rfl (vp_in_iff.mpr (by omega)) dX4_putHere_74 (fun H locs hP hD hS => ?_)
              have hP : va_P D vwCl [(t0, .inr (4, [.ref i0, .int n0, .int p0])), (i0, .inl (cL, 300, .inr (.inl (vp_updL fj p0.toNatClampNeg v))))] H := hP
              have hD : va_D A [(t0, .inr (4, [.ref i0, .int n0, .int p0])), (i0, .inl (cL, 300, .inr (.inl (vp_updL fj p0.toNatClampNeg v))))] := hD
              refine lv_aload_n hx hb dX4_putHere_75 rfl (lv_at hl 1 rfl) ?_
              refine lv_dup hx hb dX4_putHere_76 rfl ?_
              refine va_get (D := D) (ci := 4) (v := .int n0) (C := RX4) (T := TX4) (N := 3) hx hb hts iX4_putHere_X4 hown hK hP 0 rfl rfl 1 (by decide) (hts (.fieldLink RX4 15 "TapeCalculator$Tape" "count" "I") (List.mem_of_getElem? (i := 2) rfl)) (fun _ h9 => h9) rfl dX4_putHere_77 ?_
              refine lv_iconst (v := 1) hx hb dX4_putHere_80 (by decide) ?_
              refine lv_iadd hx hb dX4_putHere_81 ?_
              refine lv_topi (fun x_5 ex_5 => ?_)
              refine va_put (D := D) (ci := 4) (v := .int x_5) (ty := .int) (C := RX4) (T := TX4) (N := 3) hx hb hts iX4_putHere_X4 tyX4 tyX4_ok nmX4 hown hK hP hD hS 0 rfl rfl 1 (by decide) (hts (.fieldLink RX4 15 "TapeCalculator$Tape" "count" "I") (List.mem_of_getElem? (i := 2) rfl)) (fun _ h9 => h9) rfl (by decide +kernel) rfl rfl (Nat.le_of_ble_eq_true rfl) dX4_putHere_82 (fun H locs hP hD hS => ?_)
              have hP : va_P D vwCl [(t0, .inr (4, [.ref i0, .int x_5, .int p0])), (i0, .inl (cL, 300, .inr (.inl (vp_updL fj p0.toNatClampNeg v))))] H := hP
              have hD : va_D A [(t0, .inr (4, [.ref i0, .int x_5, .int p0])), (i0, .inl (cL, 300, .inr (.inl (vp_updL fj p0.toNatClampNeg v))))] := hD
              refine lv_aload_n hx hb dX4_putHere_85 rfl (lv_at hl 1 rfl) ?_
              refine lv_dup hx hb dX4_putHere_86 rfl ?_
              refine va_get (D := D) (ci := 4) (v := .int p0) (C := RX4) (T := TX4) (N := 3) hx hb hts iX4_putHere_X4 hown hK hP 0 rfl rfl 2 (by decide) (hts (.fieldLink RX4 21 "TapeCalculator$Tape" "at" "I") (List.mem_of_getElem? (i := 1) rfl)) (fun _ h9 => h9) rfl dX4_putHere_87 ?_
              refine lv_iconst (v := 1) hx hb dX4_putHere_90 (by decide) ?_
              refine lv_iadd hx hb dX4_putHere_91 ?_
              refine lv_topi (fun x_6 ex_6 => ?_)
              refine va_put (D := D) (ci := 4) (v := .int x_6) (ty := .int) (C := RX4) (T := TX4) (N := 3) hx hb hts iX4_putHere_X4 tyX4 tyX4_ok nmX4 hown hK hP hD hS 0 rfl rfl 2 (by decide) (hts (.fieldLink RX4 21 "TapeCalculator$Tape" "at" "I") (List.mem_of_getElem? (i := 1) rfl)) (fun _ h9 => h9) rfl (by decide +kernel) rfl rfl (Nat.le_of_ble_eq_true rfl) dX4_putHere_92 (fun H locs hP hD hS => ?_)
              have hP : va_P D vwCl [(t0, .inr (4, [.ref i0, .int x_5, .int x_6])), (i0, .inl (cL, 300, .inr (.inl (vp_updL fj p0.toNatClampNeg v))))] H := hP
              have hD : va_D A [(t0, .inr (4, [.ref i0, .int x_5, .int x_6])), (i0, .inl (cL, 300, .inr (.inl (vp_updL fj p0.toNatClampNeg v))))] := hD
              refine lv_iconst (v := 1) hx hb dX4_putHere_95 (by decide) ?_
              refine kIret (u := (x_5, x_6, (vp_updL fj p0.toNatClampNeg v))) hx hb hr rfl hlocks hS dX4_putHere_96 ?_ (hP.sub [0, 1] rfl) (hD.sub [0, 1] (by decide) rfl)
              first
                | exact Or.inl rfl
                | exact Or.inr rfl
                | assumption
            · have t_42_3 := c_42_3
              try simp only [kb_eq0, kb_ne0, lg_cmp_lt, lg_cmp_le, lg_cmp_gt, lg_cmp_ge, lg_cmp_eq] at t_42_3
              try simp only [Int32.lt_iff_toInt_lt, Int32.le_iff_toInt_le, ← Int32.toInt_inj, Int64.lt_iff_toInt_lt, Int64.le_iff_toInt_le, ← Int64.toInt_inj, Int32.toInt_toInt64, Int32.reduceToInt, Int64.reduceToInt] at t_42_3
              have hd1 := k_dec (i := j) (n := p0) (by omega)
              refine lv_aload_n hx hb dX4_putHere_45 rfl (lv_at hl 1 rfl) ?_
              refine va_get (D := D) (ci := 4) (v := .ref i0) (C := RX4) (T := TX4) (N := 3) hx hb hts iX4_putHere_X4 hown hK hP 0 rfl rfl 0 (by decide) (hts (.fieldLink RX4 9 "TapeCalculator$Tape" "items" "[J") (List.mem_of_getElem? (i := 3) rfl)) (fun _ h9 => h9) rfl dX4_putHere_46 ?_
              refine lv_iload_n hx hb dX4_putHere_49 rfl (lv_at hl 0 rfl) ?_
              refine lv_aload_n hx hb dX4_putHere_50 rfl (lv_at hl 1 rfl) ?_
              refine va_get (D := D) (ci := 4) (v := .ref i0) (C := RX4) (T := TX4) (N := 3) hx hb hts iX4_putHere_X4 hown hK hP 0 rfl rfl 0 (by decide) (hts (.fieldLink RX4 9 "TapeCalculator$Tape" "items" "[J") (List.mem_of_getElem? (i := 3) rfl)) (fun _ h9 => h9) rfl dX4_putHere_51 ?_
              refine lv_iload_n hx hb dX4_putHere_54 rfl (lv_at hl 0 rfl) ?_
              refine lv_iconst (v := 1) hx hb dX4_putHere_55 (by decide) ?_
              refine lv_isub hx hb dX4_putHere_56 ?_
              refine va_lald hx hb hK hP 1 1 rfl rfl (vp_in_iff.mpr (by omega)) dX4_putHere_57 ?_
              refine va_last hx hb hK hP hD hS 1 1 rfl rfl (vp_in_iff.mpr (by omega)) dX4_putHere_58 (fun H locs hP hD hS => ?_)
              have hP : va_P D vwCl [(t0, .inr (4, [.ref i0, .int n0, .int p0])), (i0, .inl (cL, 300, .inr (.inl (vp_updL fj j.toNatClampNeg (fj (j - 1).toNatClampNeg)))))] H := hP
              have hD : va_D A [(t0, .inr (4, [.ref i0, .int n0, .int p0])), (i0, .inl (cL, 300, .inr (.inl (vp_updL fj j.toNatClampNeg (fj (j - 1).toNatClampNeg)))))] := hD
              obtain ⟨x_7, ex_7⟩ : ∃ y : Int32, y = j + (-1) := ⟨_, rfl⟩
              refine lv_iinc (v := x_7) (lv' := [(3, .int x_7), (0, .ref t0), (1, .long v)]) hx hb dX4_putHere_59 hl (k := 0) rfl (by rw [ex_7]; rfl) (by decide) rfl (fun ls hl => ?_)
              refine lv_goto (tgt := 37) hx hb dX4_putHere_62 (by decide) ?_
              have hd := k_decA (i := j) (n := p0) (by omega)
              rw [← ex_7] at hd
              exact ih x_7 (vp_updL fj j.toNatClampNeg (fj (j - 1).toNatClampNeg)) (by omega) (by omega) _ _ (hP.sub [0, 1] rfl) (hD.sub [0, 1] (by decide) rfl) hS ls (lv_sub hl [0, 1, 2] rfl)
        exact J37 _ n0 f0 (Nat.lt_succ_self _) (by omega) _ _ (hP.sub [0, 1] rfl) (hD.sub [0, 1] (by decide) rfl) hS ls (lv_sub hl [0, 1, 2] rfl)
      · have t_27_2 := c_27_2
        try simp only [kb_eq0, kb_ne0, lg_cmp_lt, lg_cmp_le, lg_cmp_gt, lg_cmp_ge, lg_cmp_eq] at t_27_2
        try simp only [Int32.lt_iff_toInt_lt, Int32.le_iff_toInt_le, ← Int32.toInt_inj, Int64.lt_iff_toInt_lt, Int64.le_iff_toInt_le, ← Int64.toInt_inj, Int32.toInt_toInt64, Int32.reduceToInt, Int64.reduceToInt] at t_27_2
        refine lv_iconst (v := 0) hx hb dX4_putHere_30 (by decide) ?_
        refine kIret (u := (n0, p0, f0)) hx hb hr rfl hlocks hS dX4_putHere_31 ?_ (hP.sub [0, 1] rfl) (hD.sub [0, 1] (by decide) rfl)
        first
          | exact Or.inl rfl
          | exact Or.inr rfl
          | assumption
set_option maxRecDepth 100000 in
theorem iX4_cutHere_X4 : ∀ w ∈ wsX40, w ∈ wsX4_cutHere := fun w h => (goodIn_r (big := wsX4_cutHere) wsX40 [3, 4, 5] rfl (by decide +kernel) w h).1
set_option maxRecDepth 100000 in
set_option maxHeartbeats 4000000 in
theorem g_cutHere (l : Launch) (D : va_G) (cI cL cB cZ cT : ClassId) (sz : Nat) (t0 i0 : Nat) (n0 p0 : Int32) (f0 : Nat → Int64) : kM (S := (Int32)) l yX4_cutHere wsX4_cutHere ({ frames := 0, cells := 0, slots := 0, locals := 0 }) D (kT cI cL cB cZ cT) [.ref t0] [(t0, .inr (4, [.ref i0, .int n0, .int p0])), (i0, .inl (cL, 300, .inr (.inl f0)))] sz eV (fun _ _ => True) (fun u => [(t0, .inr (4, [.ref i0, .int u, .int p0])), (i0, .inl (cL, 300, .inr (.inl f0)))]) 0 0 := by
  refine kStart (cc := cX4_cutHere) (maxL := 1) (ret := none) (own := RX4) (by decide) rfl rfl (Nat.le_of_ble_eq_true rfl) ?_
  intro p e s m args below meth c A ls hx hb hr hml hown hts hlocks hnm hsz hA hG hP hD hS hl
  have hK := hG.1
  have hl : lv_has ls 1 [(0, .ref t0)] := hl
  refine lv_aload_n hx hb dX4_cutHere_0 rfl (lv_at hl 0 rfl) ?_
  refine lv_aload_n hx hb dX4_cutHere_1 rfl (lv_at hl 0 rfl) ?_
  refine va_get (D := D) (ci := 4) (v := .int p0) (C := RX4) (T := TX4) (N := 3) hx hb hts iX4_cutHere_X4 hown hK hP 0 rfl rfl 2 (by decide) (hts (.fieldLink RX4 21 "TapeCalculator$Tape" "at" "I") (List.mem_of_getElem? (i := 1) rfl)) (fun _ h9 => h9) rfl dX4_cutHere_2 ?_
  refine va_put (D := D) (ci := 4) (v := .int p0) (ty := .int) (C := RX4) (T := TX4) (N := 3) hx hb hts iX4_cutHere_X4 tyX4 tyX4_ok nmX4 hown hK hP hD hS 0 rfl rfl 1 (by decide) (hts (.fieldLink RX4 15 "TapeCalculator$Tape" "count" "I") (List.mem_of_getElem? (i := 2) rfl)) (fun _ h9 => h9) rfl (by decide +kernel) rfl rfl (Nat.le_of_ble_eq_true rfl) dX4_cutHere_5 (fun H locs hP hD hS => ?_)
  have hP : va_P D vwCl [(t0, .inr (4, [.ref i0, .int p0, .int p0])), (i0, .inl (cL, 300, .inr (.inl f0)))] H := hP
  have hD : va_D A [(t0, .inr (4, [.ref i0, .int p0, .int p0])), (i0, .inl (cL, 300, .inr (.inl f0)))] := hD
  refine kVret (u := p0) hx hb hr hlocks hS dX4_cutHere_8 ?_ (hP.sub [0, 1] rfl) (hD.sub [0, 1] (by decide) rfl)
  exact trivial
set_option maxRecDepth 100000 in
theorem iX4_clear_X4 : ∀ w ∈ wsX40, w ∈ wsX4_clear := fun w h => (goodIn_r (big := wsX4_clear) wsX40 [3, 4, 5] rfl (by decide +kernel) w h).1
set_option maxRecDepth 100000 in
set_option maxHeartbeats 4000000 in
theorem g_clear (l : Launch) (D : va_G) (cI cL cB cZ cT : ClassId) (sz : Nat) (t0 i0 : Nat) (n0 p0 : Int32) (f0 : Nat → Int64) : kM (S := (Int32 × Int32)) l yX4_clear wsX4_clear ({ frames := 0, cells := 0, slots := 0, locals := 0 }) D (kT cI cL cB cZ cT) [.ref t0] [(t0, .inr (4, [.ref i0, .int n0, .int p0])), (i0, .inl (cL, 300, .inr (.inl f0)))] sz eV (fun _ _ => True) (fun u => [(t0, .inr (4, [.ref i0, .int u.1, .int u.2])), (i0, .inl (cL, 300, .inr (.inl f0)))]) 0 0 := by
  refine kStart (cc := cX4_clear) (maxL := 1) (ret := none) (own := RX4) (by decide) rfl rfl (Nat.le_of_ble_eq_true rfl) ?_
  intro p e s m args below meth c A ls hx hb hr hml hown hts hlocks hnm hsz hA hG hP hD hS hl
  have hK := hG.1
  have hl : lv_has ls 1 [(0, .ref t0)] := hl
  refine lv_aload_n hx hb dX4_clear_0 rfl (lv_at hl 0 rfl) ?_
  refine lv_iconst (v := 0) hx hb dX4_clear_1 (by decide) ?_
  refine va_put (D := D) (ci := 4) (v := .int 0) (ty := .int) (C := RX4) (T := TX4) (N := 3) hx hb hts iX4_clear_X4 tyX4 tyX4_ok nmX4 hown hK hP hD hS 0 rfl rfl 1 (by decide) (hts (.fieldLink RX4 15 "TapeCalculator$Tape" "count" "I") (List.mem_of_getElem? (i := 1) rfl)) (fun _ h9 => h9) rfl (by decide +kernel) rfl rfl (Nat.le_of_ble_eq_true rfl) dX4_clear_2 (fun H locs hP hD hS => ?_)
  have hP : va_P D vwCl [(t0, .inr (4, [.ref i0, .int 0, .int p0])), (i0, .inl (cL, 300, .inr (.inl f0)))] H := hP
  have hD : va_D A [(t0, .inr (4, [.ref i0, .int 0, .int p0])), (i0, .inl (cL, 300, .inr (.inl f0)))] := hD
  refine lv_aload_n hx hb dX4_clear_5 rfl (lv_at hl 0 rfl) ?_
  refine lv_iconst (v := 0) hx hb dX4_clear_6 (by decide) ?_
  refine va_put (D := D) (ci := 4) (v := .int 0) (ty := .int) (C := RX4) (T := TX4) (N := 3) hx hb hts iX4_clear_X4 tyX4 tyX4_ok nmX4 hown hK hP hD hS 0 rfl rfl 2 (by decide) (hts (.fieldLink RX4 21 "TapeCalculator$Tape" "at" "I") (List.mem_of_getElem? (i := 2) rfl)) (fun _ h9 => h9) rfl (by decide +kernel) rfl rfl (Nat.le_of_ble_eq_true rfl) dX4_clear_7 (fun H locs hP hD hS => ?_)
  have hP : va_P D vwCl [(t0, .inr (4, [.ref i0, .int 0, .int 0])), (i0, .inl (cL, 300, .inr (.inl f0)))] H := hP
  have hD : va_D A [(t0, .inr (4, [.ref i0, .int 0, .int 0])), (i0, .inl (cL, 300, .inr (.inl f0)))] := hD
  refine kVret (u := (0, 0)) hx hb hr hlocks hS dX4_clear_10 ?_ (hP.sub [0, 1] rfl) (hD.sub [0, 1] (by decide) rfl)
  exact trivial
set_option maxRecDepth 100000 in
theorem iX4_passForward_X4 : ∀ w ∈ wsX40, w ∈ wsX4_passForward := fun w h => (goodIn_r (big := wsX4_passForward) wsX40 [10, 11, 12] rfl (by decide +kernel) w h).1
set_option maxRecDepth 100000 in
set_option maxHeartbeats 4000000 in
theorem g_passForward (l : Launch) (D : va_G) (cI cL cB cZ cT : ClassId) (sz : Nat) (t0 i0 : Nat) (n0 p0 : Int32) (f0 : Nat → Int64) : kM (S := (Int32)) l yX4_passForward wsX4_passForward ({ frames := 1, cells := 0, slots := 0, locals := 21 }) D (kT cI cL cB cZ cT) [.ref t0] [(t0, .inr (4, [.ref i0, .int n0, .int p0])), (i0, .inl (cL, 300, .inr (.inl f0)))] sz eL (fun _ _ => True) (fun u => [(t0, .inr (4, [.ref i0, .int n0, .int u])), (i0, .inl (cL, 300, .inr (.inl f0)))]) 0 0 := by
  refine kStart (cc := cX4_passForward) (maxL := 3) (ret := (some .long)) (own := RX4) (by decide) rfl rfl (Nat.le_of_ble_eq_true rfl) ?_
  intro p e s m args below meth c A ls hx hb hr hml hown hts hlocks hnm hsz hA hG hP hD hS hl
  have hK := hG.1
  have hl : lv_has ls 3 [(0, .ref t0)] := hl
  refine lv_aload_n hx hb dX4_passForward_0 rfl (lv_at hl 0 rfl) ?_
  refine lv_aload_n hx hb dX4_passForward_1 rfl (lv_at hl 0 rfl) ?_
  refine va_get (D := D) (ci := 4) (v := .int p0) (C := RX4) (T := TX4) (N := 3) hx hb hts iX4_passForward_X4 hown hK hP 0 rfl rfl 2 (by decide) (hts (.fieldLink RX4 21 "TapeCalculator$Tape" "at" "I") (List.mem_of_getElem? (i := 1) rfl)) (fun _ h9 => h9) rfl dX4_passForward_2 ?_
  refine kCallL (wr := []) (va_runV (As := [.int p0]) (rest := []) ⟨hx, hb, hml, hown, hts⟩ (g_itemAt l D cI cL cB cZ cT _ t0 i0 n0 p0 f0 p0) (cwV 1 hts gX4_passForward_X4_itemAt rfl rfl rfl (by decide +kernel) ⟨Nat.le_of_ble_eq_true rfl, Nat.le_of_ble_eq_true rfl⟩) (kPreV hG hP hD [0, 1] rfl (by decide) 0 4 rfl rfl rfl) rfl rfl hl.1 rfl (lv_room (Nat.le_of_ble_eq_true rfl)) dX4_passForward_5 ⟨Nat.le_of_ble_eq_true rfl, Nat.le_of_ble_eq_true rfl⟩) hA hP hD hS [0, 1] [] rfl rfl (by decide) (by decide) (fun r_1 u_r_1 H locs wr_1 hP hD hS => ?_)
  have hP : va_P D vwCl [(t0, .inr (4, [.ref i0, .int n0, .int p0])), (i0, .inl (cL, 300, .inr (.inl f0)))] H := hP
  have hD : va_D A [(t0, .inr (4, [.ref i0, .int n0, .int p0])), (i0, .inl (cL, 300, .inr (.inl f0)))] := hD
  try dsimp only at wr_1
  refine lv_lstore_n (lv' := [(1, .long r_1), (0, .ref t0)]) hx hb dX4_passForward_8 rfl hl (by decide) rfl (fun ls hl => ?_)
  refine lv_lload_n hx hb dX4_passForward_9 rfl (lv_at hl 0 rfl) ?_
  refine lv_ldc2 (v := (-9)) hx hb hown (hts (.constantLong RX4 19 (-9)) (List.mem_of_getElem? (i := 2) rfl)) dX4_passForward_10 ?_
  refine W.lcmp hx hb dX4_passForward_13 ?_
  refine lv_if_eq (tgt := 27) hx hb dX4_passForward_14 (by decide) (fun c_14_1 => ?_) (fun c_14_1 => ?_)
  · have t_14_1 := c_14_1
    try simp only [kb_eq0, kb_ne0, lg_cmp_lt, lg_cmp_le, lg_cmp_gt, lg_cmp_ge, lg_cmp_eq] at t_14_1
    try simp only [Int32.lt_iff_toInt_lt, Int32.le_iff_toInt_le, ← Int32.toInt_inj, Int64.lt_iff_toInt_lt, Int64.le_iff_toInt_le, ← Int64.toInt_inj, Int32.toInt_toInt64, Int32.reduceToInt, Int64.reduceToInt] at t_14_1
    refine lv_lload_n hx hb dX4_passForward_27 rfl (lv_at hl 0 rfl) ?_
    refine kLret (u := p0) hx hb hr hlocks hS dX4_passForward_28 ?_ (hP.sub [0, 1] rfl) (hD.sub [0, 1] (by decide) rfl)
    exact trivial
  · have t_14_1 := c_14_1
    try simp only [kb_eq0, kb_ne0, lg_cmp_lt, lg_cmp_le, lg_cmp_gt, lg_cmp_ge, lg_cmp_eq] at t_14_1
    try simp only [Int32.lt_iff_toInt_lt, Int32.le_iff_toInt_le, ← Int32.toInt_inj, Int64.lt_iff_toInt_lt, Int64.le_iff_toInt_le, ← Int64.toInt_inj, Int32.toInt_toInt64, Int32.reduceToInt, Int64.reduceToInt] at t_14_1
    refine lv_aload_n hx hb dX4_passForward_17 rfl (lv_at hl 1 rfl) ?_
    refine lv_dup hx hb dX4_passForward_18 rfl ?_
    refine va_get (D := D) (ci := 4) (v := .int p0) (C := RX4) (T := TX4) (N := 3) hx hb hts iX4_passForward_X4 hown hK hP 0 rfl rfl 2 (by decide) (hts (.fieldLink RX4 21 "TapeCalculator$Tape" "at" "I") (List.mem_of_getElem? (i := 1) rfl)) (fun _ h9 => h9) rfl dX4_passForward_19 ?_
    refine lv_iconst (v := 1) hx hb dX4_passForward_22 (by decide) ?_
    refine lv_iadd hx hb dX4_passForward_23 ?_
    refine lv_topi (fun x_3 ex_3 => ?_)
    refine va_put (D := D) (ci := 4) (v := .int x_3) (ty := .int) (C := RX4) (T := TX4) (N := 3) hx hb hts iX4_passForward_X4 tyX4 tyX4_ok nmX4 hown hK hP hD hS 0 rfl rfl 2 (by decide) (hts (.fieldLink RX4 21 "TapeCalculator$Tape" "at" "I") (List.mem_of_getElem? (i := 1) rfl)) (fun _ h9 => h9) rfl (by decide +kernel) rfl rfl (Nat.le_of_ble_eq_true rfl) dX4_passForward_24 (fun H locs hP hD hS => ?_)
    have hP : va_P D vwCl [(t0, .inr (4, [.ref i0, .int n0, .int x_3])), (i0, .inl (cL, 300, .inr (.inl f0)))] H := hP
    have hD : va_D A [(t0, .inr (4, [.ref i0, .int n0, .int x_3])), (i0, .inl (cL, 300, .inr (.inl f0)))] := hD
    refine lv_lload_n hx hb dX4_passForward_27 rfl (lv_at hl 0 rfl) ?_
    refine kLret (u := x_3) hx hb hr hlocks hS dX4_passForward_28 ?_ (hP.sub [0, 1] rfl) (hD.sub [0, 1] (by decide) rfl)
    exact trivial
set_option maxRecDepth 100000 in
theorem iX4_passBackward_X4 : ∀ w ∈ wsX40, w ∈ wsX4_passBackward := fun w h => (goodIn_r (big := wsX4_passBackward) wsX40 [10, 11, 12] rfl (by decide +kernel) w h).1
set_option maxRecDepth 100000 in
set_option maxHeartbeats 4000000 in
theorem g_passBackward (l : Launch) (D : va_G) (cI cL cB cZ cT : ClassId) (sz : Nat) (t0 i0 : Nat) (n0 p0 : Int32) (f0 : Nat → Int64) : kM (S := (Int32)) l yX4_passBackward wsX4_passBackward ({ frames := 1, cells := 0, slots := 0, locals := 21 }) D (kT cI cL cB cZ cT) [.ref t0] [(t0, .inr (4, [.ref i0, .int n0, .int p0])), (i0, .inl (cL, 300, .inr (.inl f0)))] sz eL (fun _ _ => True) (fun u => [(t0, .inr (4, [.ref i0, .int n0, .int u])), (i0, .inl (cL, 300, .inr (.inl f0)))]) 0 0 := by
  refine kStart (cc := cX4_passBackward) (maxL := 3) (ret := (some .long)) (own := RX4) (by decide) rfl rfl (Nat.le_of_ble_eq_true rfl) ?_
  intro p e s m args below meth c A ls hx hb hr hml hown hts hlocks hnm hsz hA hG hP hD hS hl
  have hK := hG.1
  have hl : lv_has ls 3 [(0, .ref t0)] := hl
  refine lv_aload_n hx hb dX4_passBackward_0 rfl (lv_at hl 0 rfl) ?_
  refine lv_aload_n hx hb dX4_passBackward_1 rfl (lv_at hl 0 rfl) ?_
  refine va_get (D := D) (ci := 4) (v := .int p0) (C := RX4) (T := TX4) (N := 3) hx hb hts iX4_passBackward_X4 hown hK hP 0 rfl rfl 2 (by decide) (hts (.fieldLink RX4 21 "TapeCalculator$Tape" "at" "I") (List.mem_of_getElem? (i := 1) rfl)) (fun _ h9 => h9) rfl dX4_passBackward_2 ?_
  refine lv_iconst (v := 1) hx hb dX4_passBackward_5 (by decide) ?_
  refine lv_isub hx hb dX4_passBackward_6 ?_
  refine kCallL (wr := []) (va_runV (As := [.int (p0 - 1)]) (rest := []) ⟨hx, hb, hml, hown, hts⟩ (g_itemAt l D cI cL cB cZ cT _ t0 i0 n0 p0 f0 (p0 - 1)) (cwV 1 hts gX4_passBackward_X4_itemAt rfl rfl rfl (by decide +kernel) ⟨Nat.le_of_ble_eq_true rfl, Nat.le_of_ble_eq_true rfl⟩) (kPreV hG hP hD [0, 1] rfl (by decide) 0 4 rfl rfl rfl) rfl rfl hl.1 rfl (lv_room (Nat.le_of_ble_eq_true rfl)) dX4_passBackward_7 ⟨Nat.le_of_ble_eq_true rfl, Nat.le_of_ble_eq_true rfl⟩) hA hP hD hS [0, 1] [] rfl rfl (by decide) (by decide) (fun r_1 u_r_1 H locs wr_1 hP hD hS => ?_)
  have hP : va_P D vwCl [(t0, .inr (4, [.ref i0, .int n0, .int p0])), (i0, .inl (cL, 300, .inr (.inl f0)))] H := hP
  have hD : va_D A [(t0, .inr (4, [.ref i0, .int n0, .int p0])), (i0, .inl (cL, 300, .inr (.inl f0)))] := hD
  try dsimp only at wr_1
  refine lv_lstore_n (lv' := [(1, .long r_1), (0, .ref t0)]) hx hb dX4_passBackward_10 rfl hl (by decide) rfl (fun ls hl => ?_)
  refine lv_lload_n hx hb dX4_passBackward_11 rfl (lv_at hl 0 rfl) ?_
  refine lv_ldc2 (v := (-9)) hx hb hown (hts (.constantLong RX4 19 (-9)) (List.mem_of_getElem? (i := 2) rfl)) dX4_passBackward_12 ?_
  refine W.lcmp hx hb dX4_passBackward_15 ?_
  refine lv_if_eq (tgt := 29) hx hb dX4_passBackward_16 (by decide) (fun c_16_1 => ?_) (fun c_16_1 => ?_)
  · have t_16_1 := c_16_1
    try simp only [kb_eq0, kb_ne0, lg_cmp_lt, lg_cmp_le, lg_cmp_gt, lg_cmp_ge, lg_cmp_eq] at t_16_1
    try simp only [Int32.lt_iff_toInt_lt, Int32.le_iff_toInt_le, ← Int32.toInt_inj, Int64.lt_iff_toInt_lt, Int64.le_iff_toInt_le, ← Int64.toInt_inj, Int32.toInt_toInt64, Int32.reduceToInt, Int64.reduceToInt] at t_16_1
    refine lv_lload_n hx hb dX4_passBackward_29 rfl (lv_at hl 0 rfl) ?_
    refine kLret (u := p0) hx hb hr hlocks hS dX4_passBackward_30 ?_ (hP.sub [0, 1] rfl) (hD.sub [0, 1] (by decide) rfl)
    exact trivial
  · have t_16_1 := c_16_1
    try simp only [kb_eq0, kb_ne0, lg_cmp_lt, lg_cmp_le, lg_cmp_gt, lg_cmp_ge, lg_cmp_eq] at t_16_1
    try simp only [Int32.lt_iff_toInt_lt, Int32.le_iff_toInt_le, ← Int32.toInt_inj, Int64.lt_iff_toInt_lt, Int64.le_iff_toInt_le, ← Int64.toInt_inj, Int32.toInt_toInt64, Int32.reduceToInt, Int64.reduceToInt] at t_16_1
    refine lv_aload_n hx hb dX4_passBackward_19 rfl (lv_at hl 1 rfl) ?_
    refine lv_dup hx hb dX4_passBackward_20 rfl ?_
    refine va_get (D := D) (ci := 4) (v := .int p0) (C := RX4) (T := TX4) (N := 3) hx hb hts iX4_passBackward_X4 hown hK hP 0 rfl rfl 2 (by decide) (hts (.fieldLink RX4 21 "TapeCalculator$Tape" "at" "I") (List.mem_of_getElem? (i := 1) rfl)) (fun _ h9 => h9) rfl dX4_passBackward_21 ?_
    refine lv_iconst (v := 1) hx hb dX4_passBackward_24 (by decide) ?_
    refine lv_isub hx hb dX4_passBackward_25 ?_
    refine lv_topi (fun x_3 ex_3 => ?_)
    refine va_put (D := D) (ci := 4) (v := .int x_3) (ty := .int) (C := RX4) (T := TX4) (N := 3) hx hb hts iX4_passBackward_X4 tyX4 tyX4_ok nmX4 hown hK hP hD hS 0 rfl rfl 2 (by decide) (hts (.fieldLink RX4 21 "TapeCalculator$Tape" "at" "I") (List.mem_of_getElem? (i := 1) rfl)) (fun _ h9 => h9) rfl (by decide +kernel) rfl rfl (Nat.le_of_ble_eq_true rfl) dX4_passBackward_26 (fun H locs hP hD hS => ?_)
    have hP : va_P D vwCl [(t0, .inr (4, [.ref i0, .int n0, .int x_3])), (i0, .inl (cL, 300, .inr (.inl f0)))] H := hP
    have hD : va_D A [(t0, .inr (4, [.ref i0, .int n0, .int x_3])), (i0, .inl (cL, 300, .inr (.inl f0)))] := hD
    refine lv_lload_n hx hb dX4_passBackward_29 rfl (lv_at hl 0 rfl) ?_
    refine kLret (u := x_3) hx hb hr hlocks hS dX4_passBackward_30 ?_ (hP.sub [0, 1] rfl) (hD.sub [0, 1] (by decide) rfl)
    exact trivial
set_option maxRecDepth 100000 in
theorem iX4_digestOnto_X4 : ∀ w ∈ wsX40, w ∈ wsX4_digestOnto := fun w h => (goodIn_r (big := wsX4_digestOnto) wsX40 [11, 12, 13] rfl (by decide +kernel) w h).1
set_option maxRecDepth 100000 in
set_option maxHeartbeats 4000000 in
theorem g_digestOnto (l : Launch) (D : va_G) (cI cL cB cZ cT : ClassId) (sz : Nat) (t0 i0 : Nat) (n0 p0 : Int32) (f0 : Nat → Int64) (v : Int64) : kM (S := Unit) l yX4_digestOnto wsX4_digestOnto ({ frames := 1, cells := 0, slots := 0, locals := 21 }) D (kT cI cL cB cZ cT) [.ref t0, .long v] [(t0, .inr (4, [.ref i0, .int n0, .int p0])), (i0, .inl (cL, 300, .inr (.inl f0)))] sz eL (fun _ _ => True) (fun _ => [(t0, .inr (4, [.ref i0, .int n0, .int p0])), (i0, .inl (cL, 300, .inr (.inl f0)))]) 0 0 := by
  refine kStart (cc := cX4_digestOnto) (maxL := 6) (ret := (some .long)) (own := RX4) (by decide) rfl rfl (Nat.le_of_ble_eq_true rfl) ?_
  intro p e s m args below meth c A ls hx hb hr hml hown hts hlocks hnm hsz hA hG hP hD hS hl
  have hK := hG.1
  have hl : lv_has ls 6 [(0, .ref t0), (1, .long v)] := hl
  refine lv_ldc2 (v := 31) hx hb hown (hts (.constantLong RX4 28 (31)) (List.mem_of_getElem? (i := 1) rfl)) dX4_digestOnto_0 ?_
  refine lv_ldc2 (v := 31) hx hb hown (hts (.constantLong RX4 28 (31)) (List.mem_of_getElem? (i := 1) rfl)) dX4_digestOnto_3 ?_
  refine lv_lload_n hx hb dX4_digestOnto_6 rfl (lv_at hl 1 rfl) ?_
  refine lv_lmul hx hb dX4_digestOnto_7 ?_
  refine lv_aload_n hx hb dX4_digestOnto_8 rfl (lv_at hl 0 rfl) ?_
  refine va_get (D := D) (ci := 4) (v := .int n0) (C := RX4) (T := TX4) (N := 3) hx hb hts iX4_digestOnto_X4 hown hK hP 0 rfl rfl 1 (by decide) (hts (.fieldLink RX4 15 "TapeCalculator$Tape" "count" "I") (List.mem_of_getElem? (i := 2) rfl)) (fun _ h9 => h9) rfl dX4_digestOnto_9 ?_
  refine lv_i2l hx hb dX4_digestOnto_12 rfl ?_
  refine lv_ladd hx hb dX4_digestOnto_13 ?_
  refine lv_lmul hx hb dX4_digestOnto_14 ?_
  refine lv_aload_n hx hb dX4_digestOnto_15 rfl (lv_at hl 0 rfl) ?_
  refine va_get (D := D) (ci := 4) (v := .int p0) (C := RX4) (T := TX4) (N := 3) hx hb hts iX4_digestOnto_X4 hown hK hP 0 rfl rfl 2 (by decide) (hts (.fieldLink RX4 21 "TapeCalculator$Tape" "at" "I") (List.mem_of_getElem? (i := 3) rfl)) (fun _ h9 => h9) rfl dX4_digestOnto_16 ?_
  refine lv_i2l hx hb dX4_digestOnto_19 rfl ?_
  refine lv_ladd hx hb dX4_digestOnto_20 ?_
  refine lv_topl (fun x_1 ex_1 => ?_)
  refine lv_lstore_n (lv' := [(3, .long x_1), (0, .ref t0), (1, .long v)]) hx hb dX4_digestOnto_21 rfl hl (by decide) rfl (fun ls hl => ?_)
  refine lv_iconst (v := 0) hx hb dX4_digestOnto_22 (by decide) ?_
  refine lv_istore (lv' := [(5, .int 0), (3, .long x_1), (0, .ref t0), (1, .long v)]) hx hb dX4_digestOnto_23 hl (by decide) rfl (fun ls hl => ?_)
  have J25 : ∀ (k : Nat) (j : Int32) (h : Int64), (n0.toInt - j.toInt).toNat < k → ∀ (H : Heap) (locs : List Loc), va_P D vwCl [(t0, .inr (4, [.ref i0, .int n0, .int p0])), (i0, .inl (cL, 300, .inr (.inl f0)))] H → va_D A [(t0, .inr (4, [.ref i0, .int n0, .int p0])), (i0, .inl (cL, 300, .inr (.inl f0)))] → va_S A s.heap H locs → ∀ ls : Array Slot, lv_has ls 6 [(5, .int j), (3, .long h), (0, .ref t0), (1, .long v)] → W p l e ({ frames := 1, cells := 0, slots := 0, locals := 21 }) s m args below meth c H locs 0 0 (MQ below (kQ (S := Unit) eL (fun _ _ => True) D (fun _ => [(t0, .inr (4, [.ref i0, .int n0, .int p0])), (i0, .inl (cL, 300, .inr (.inl f0)))]) A) args s 0 0 A) (F0 m 25 ls []) := by
    intro k
    induction k with
    | zero =>
      intro j h hm
      exact absurd hm (Nat.not_lt_zero _)
    | succ k ih =>
      intro j h hm  H locs hP hD hS ls hl
      refine lv_iload hx hb dX4_digestOnto_25 (lv_at hl 0 rfl) ?_
      refine lv_aload_n hx hb dX4_digestOnto_27 rfl (lv_at hl 2 rfl) ?_
      refine va_get (D := D) (ci := 4) (v := .int n0) (C := RX4) (T := TX4) (N := 3) hx hb hts iX4_digestOnto_X4 hown hK hP 0 rfl rfl 1 (by decide) (hts (.fieldLink RX4 15 "TapeCalculator$Tape" "count" "I") (List.mem_of_getElem? (i := 2) rfl)) (fun _ h9 => h9) rfl dX4_digestOnto_28 ?_
      refine lv_icmp_ge (tgt := 53) hx hb dX4_digestOnto_31 (by decide) (fun c_31_1 => ?_) (fun c_31_1 => ?_)
      · have t_31_1 := c_31_1
        try simp only [kb_eq0, kb_ne0, lg_cmp_lt, lg_cmp_le, lg_cmp_gt, lg_cmp_ge, lg_cmp_eq] at t_31_1
        try simp only [Int32.lt_iff_toInt_lt, Int32.le_iff_toInt_le, ← Int32.toInt_inj, Int64.lt_iff_toInt_lt, Int64.le_iff_toInt_le, ← Int64.toInt_inj, Int32.toInt_toInt64, Int32.reduceToInt, Int64.reduceToInt] at t_31_1
        refine lv_lload_n hx hb dX4_digestOnto_53 rfl (lv_at hl 1 rfl) ?_
        refine kLret (u := ()) hx hb hr hlocks hS dX4_digestOnto_54 ?_ (hP.sub [0, 1] rfl) (hD.sub [0, 1] (by decide) rfl)
        exact trivial
      · have t_31_1 := c_31_1
        try simp only [kb_eq0, kb_ne0, lg_cmp_lt, lg_cmp_le, lg_cmp_gt, lg_cmp_ge, lg_cmp_eq] at t_31_1
        try simp only [Int32.lt_iff_toInt_lt, Int32.le_iff_toInt_le, ← Int32.toInt_inj, Int64.lt_iff_toInt_lt, Int64.le_iff_toInt_le, ← Int64.toInt_inj, Int32.toInt_toInt64, Int32.reduceToInt, Int64.reduceToInt] at t_31_1
        refine lv_ldc2 (v := 31) hx hb hown (hts (.constantLong RX4 28 (31)) (List.mem_of_getElem? (i := 1) rfl)) dX4_digestOnto_34 ?_
        refine lv_lload_n hx hb dX4_digestOnto_37 rfl (lv_at hl 1 rfl) ?_
        refine lv_lmul hx hb dX4_digestOnto_38 ?_
        refine lv_aload_n hx hb dX4_digestOnto_39 rfl (lv_at hl 2 rfl) ?_
        refine lv_iload hx hb dX4_digestOnto_40 (lv_at hl 0 rfl) ?_
        refine kCallL (wr := []) (va_runV (As := [.int j]) (rest := [.long (31 * h)]) ⟨hx, hb, hml, hown, hts⟩ (g_itemAt l D cI cL cB cZ cT _ t0 i0 n0 p0 f0 j) (cwV 1 hts gX4_digestOnto_X4_itemAt rfl rfl rfl (by decide +kernel) ⟨Nat.le_of_ble_eq_true rfl, Nat.le_of_ble_eq_true rfl⟩) (kPreV hG hP hD [0, 1] rfl (by decide) 0 4 rfl rfl rfl) rfl rfl hl.1 rfl (lv_room (Nat.le_of_ble_eq_true rfl)) dX4_digestOnto_42 ⟨Nat.le_of_ble_eq_true rfl, Nat.le_of_ble_eq_true rfl⟩) hA hP hD hS [0, 1] [] rfl rfl (by decide) (by decide) (fun r_3 u_r_3 H locs wr_3 hP hD hS => ?_)
        have hP : va_P D vwCl [(t0, .inr (4, [.ref i0, .int n0, .int p0])), (i0, .inl (cL, 300, .inr (.inl f0)))] H := hP
        have hD : va_D A [(t0, .inr (4, [.ref i0, .int n0, .int p0])), (i0, .inl (cL, 300, .inr (.inl f0)))] := hD
        try dsimp only at wr_3
        refine lv_ladd hx hb dX4_digestOnto_45 ?_
        refine lv_topl (fun x_4 ex_4 => ?_)
        refine lv_lstore_n (lv' := [(3, .long x_4), (5, .int j), (0, .ref t0), (1, .long v)]) hx hb dX4_digestOnto_46 rfl hl (by decide) rfl (fun ls hl => ?_)
        obtain ⟨x_5, ex_5⟩ : ∃ y : Int32, y = j + 1 := ⟨_, rfl⟩
        refine lv_iinc (v := x_5) (lv' := [(5, .int x_5), (3, .long x_4), (0, .ref t0), (1, .long v)]) hx hb dX4_digestOnto_47 hl (k := 1) rfl (by rw [ex_5]; rfl) (by decide) rfl (fun ls hl => ?_)
        refine lv_goto (tgt := 25) hx hb dX4_digestOnto_50 (by decide) ?_
        have hd := k_inc (i := j) (n := n0) (by omega)
        rw [← ex_5] at hd
        exact ih x_5 x_4 (by omega)  _ _ (hP.sub [0, 1] rfl) (hD.sub [0, 1] (by decide) rfl) hS ls (lv_sub hl [0, 1, 2, 3] rfl)
  exact J25 _ 0 x_1 (Nat.lt_succ_self _)  _ _ (hP.sub [0, 1] rfl) (hD.sub [0, 1] (by decide) rfl) hS ls (lv_sub hl [0, 1, 2, 3] rfl)
set_option maxRecDepth 100000 in
theorem iX1_wordAt_X1 : ∀ w ∈ wsX10, w ∈ wsX1_wordAt := fun w h => (goodIn_r (big := wsX1_wordAt) wsX10 [2, 3] rfl (by decide +kernel) w h).1
set_option maxRecDepth 100000 in
set_option maxHeartbeats 4000000 in
theorem g_wordAt (l : Launch) (D : va_G) (cI cL cB cZ cT : ClassId) (sz : Nat) (aD bD : Nat) (dp : Int32) (fd : Nat → Int64) (i : Int32) : kM (S := Unit) l yX1_wordAt wsX1_wordAt ({ frames := 0, cells := 0, slots := 0, locals := 0 }) D (kT cI cL cB cZ cT) [.ref aD, .int i] [(aD, .inr (1, [.ref bD, .int dp])), (bD, .inl (cL, 256, .inr (.inl fd)))] sz eL (fun _ _ => True) (fun _ => [(aD, .inr (1, [.ref bD, .int dp])), (bD, .inl (cL, 256, .inr (.inl fd)))]) 0 0 := by
  refine kStart (cc := cX1_wordAt) (maxL := 2) (ret := (some .long)) (own := RX1) (by decide) rfl rfl (Nat.le_of_ble_eq_true rfl) ?_
  intro p e s m args below meth c A ls hx hb hr hml hown hts hlocks hnm hsz hA hG hP hD hS hl
  have hK := hG.1
  have hl : lv_has ls 2 [(0, .ref aD), (1, .int i)] := hl
  refine lv_iload_n hx hb dX1_wordAt_0 rfl (lv_at hl 1 rfl) ?_
  refine lv_if_lt (tgt := 22) hx hb dX1_wordAt_1 (by decide) (fun c_1_0 => ?_) (fun c_1_0 => ?_)
  · have t_1_0 := c_1_0
    try simp only [kb_eq0, kb_ne0, lg_cmp_lt, lg_cmp_le, lg_cmp_gt, lg_cmp_ge, lg_cmp_eq] at t_1_0
    try simp only [Int32.lt_iff_toInt_lt, Int32.le_iff_toInt_le, ← Int32.toInt_inj, Int64.lt_iff_toInt_lt, Int64.le_iff_toInt_le, ← Int64.toInt_inj, Int32.toInt_toInt64, Int32.reduceToInt, Int64.reduceToInt] at t_1_0
    refine lv_lconst (v := 0) hx hb dX1_wordAt_22 (by decide) ?_
    refine kLret (u := ()) hx hb hr hlocks hS dX1_wordAt_23 ?_ (hP.sub [0, 1] rfl) (hD.sub [0, 1] (by decide) rfl)
    exact trivial
  · have t_1_0 := c_1_0
    try simp only [kb_eq0, kb_ne0, lg_cmp_lt, lg_cmp_le, lg_cmp_gt, lg_cmp_ge, lg_cmp_eq] at t_1_0
    try simp only [Int32.lt_iff_toInt_lt, Int32.le_iff_toInt_le, ← Int32.toInt_inj, Int64.lt_iff_toInt_lt, Int64.le_iff_toInt_le, ← Int64.toInt_inj, Int32.toInt_toInt64, Int32.reduceToInt, Int64.reduceToInt] at t_1_0
    refine lv_iload_n hx hb dX1_wordAt_4 rfl (lv_at hl 1 rfl) ?_
    refine lv_aload_n hx hb dX1_wordAt_5 rfl (lv_at hl 0 rfl) ?_
    refine va_get (D := D) (ci := 1) (v := .ref bD) (C := RX1) (T := TX1) (N := 2) hx hb hts iX1_wordAt_X1 hown hK hP 0 rfl rfl 0 (by decide) (hts (.fieldLink RX1 9 "TapeCalculator$Drum" "words" "[J") (List.mem_of_getElem? (i := 1) rfl)) (fun _ h9 => h9) rfl dX1_wordAt_6 ?_
    refine va_alen hx hb hK hP 1 1 rfl rfl (v := 256) rfl dX1_wordAt_9 ?_
    refine lv_icmp_ge (tgt := 22) hx hb dX1_wordAt_10 (by decide) (fun c_10_1 => ?_) (fun c_10_1 => ?_)
    · have t_10_1 := c_10_1
      try simp only [kb_eq0, kb_ne0, lg_cmp_lt, lg_cmp_le, lg_cmp_gt, lg_cmp_ge, lg_cmp_eq] at t_10_1
      try simp only [Int32.lt_iff_toInt_lt, Int32.le_iff_toInt_le, ← Int32.toInt_inj, Int64.lt_iff_toInt_lt, Int64.le_iff_toInt_le, ← Int64.toInt_inj, Int32.toInt_toInt64, Int32.reduceToInt, Int64.reduceToInt] at t_10_1
      refine lv_lconst (v := 0) hx hb dX1_wordAt_22 (by decide) ?_
      refine kLret (u := ()) hx hb hr hlocks hS dX1_wordAt_23 ?_ (hP.sub [0, 1] rfl) (hD.sub [0, 1] (by decide) rfl)
      exact trivial
    · have t_10_1 := c_10_1
      try simp only [kb_eq0, kb_ne0, lg_cmp_lt, lg_cmp_le, lg_cmp_gt, lg_cmp_ge, lg_cmp_eq] at t_10_1
      try simp only [Int32.lt_iff_toInt_lt, Int32.le_iff_toInt_le, ← Int32.toInt_inj, Int64.lt_iff_toInt_lt, Int64.le_iff_toInt_le, ← Int64.toInt_inj, Int32.toInt_toInt64, Int32.reduceToInt, Int64.reduceToInt] at t_10_1
      refine lv_aload_n hx hb dX1_wordAt_13 rfl (lv_at hl 0 rfl) ?_
      refine va_get (D := D) (ci := 1) (v := .ref bD) (C := RX1) (T := TX1) (N := 2) hx hb hts iX1_wordAt_X1 hown hK hP 0 rfl rfl 0 (by decide) (hts (.fieldLink RX1 9 "TapeCalculator$Drum" "words" "[J") (List.mem_of_getElem? (i := 1) rfl)) (fun _ h9 => h9) rfl dX1_wordAt_14 ?_
      refine lv_iload_n hx hb dX1_wordAt_17 rfl (lv_at hl 1 rfl) ?_
      refine va_lald hx hb hK hP 1 1 rfl rfl (vp_in_iff.mpr (by omega)) dX1_wordAt_18 ?_
      refine lv_goto (tgt := 23) hx hb dX1_wordAt_19 (by decide) ?_
      refine kLret (u := ()) hx hb hr hlocks hS dX1_wordAt_23 ?_ (hP.sub [0, 1] rfl) (hD.sub [0, 1] (by decide) rfl)
      exact trivial
set_option maxRecDepth 100000 in
theorem iX1_moveTo_X1 : ∀ w ∈ wsX10, w ∈ wsX1_moveTo := fun w h => (goodIn_r (big := wsX1_moveTo) wsX10 [2, 3] rfl (by decide +kernel) w h).1
set_option maxRecDepth 100000 in
set_option maxHeartbeats 4000000 in
theorem g_moveTo (l : Launch) (D : va_G) (cI cL cB cZ cT : ClassId) (sz : Nat) (aD bD : Nat) (dp : Int32) (fd : Nat → Int64) (i : Int32) : kM (S := (Int32)) l yX1_moveTo wsX1_moveTo ({ frames := 0, cells := 0, slots := 0, locals := 0 }) D (kT cI cL cB cZ cT) [.ref aD, .int i] [(aD, .inr (1, [.ref bD, .int dp])), (bD, .inl (cL, 256, .inr (.inl fd)))] sz eV (fun _ _ => True) (fun u => [(aD, .inr (1, [.ref bD, .int u])), (bD, .inl (cL, 256, .inr (.inl fd)))]) 0 0 := by
  refine kStart (cc := cX1_moveTo) (maxL := 2) (ret := none) (own := RX1) (by decide) rfl rfl (Nat.le_of_ble_eq_true rfl) ?_
  intro p e s m args below meth c A ls hx hb hr hml hown hts hlocks hnm hsz hA hG hP hD hS hl
  have hK := hG.1
  have hl : lv_has ls 2 [(0, .ref aD), (1, .int i)] := hl
  refine lv_aload_n hx hb dX1_moveTo_0 rfl (lv_at hl 0 rfl) ?_
  refine lv_iload_n hx hb dX1_moveTo_1 rfl (lv_at hl 1 rfl) ?_
  refine lv_sipush (v := 255) hx hb dX1_moveTo_2 (by decide) ?_
  refine lv_iand hx hb dX1_moveTo_5 ?_
  refine lv_topi (fun x_1 ex_1 => ?_)
  refine va_put (D := D) (ci := 1) (v := .int x_1) (ty := .int) (C := RX1) (T := TX1) (N := 2) hx hb hts iX1_moveTo_X1 tyX1 tyX1_ok nmX1 hown hK hP hD hS 0 rfl rfl 1 (by decide) (hts (.fieldLink RX1 15 "TapeCalculator$Drum" "place" "I") (List.mem_of_getElem? (i := 1) rfl)) (fun _ h9 => h9) rfl (by decide +kernel) rfl rfl (Nat.le_of_ble_eq_true rfl) dX1_moveTo_6 (fun H locs hP hD hS => ?_)
  have hP : va_P D vwCl [(aD, .inr (1, [.ref bD, .int x_1])), (bD, .inl (cL, 256, .inr (.inl fd)))] H := hP
  have hD : va_D A [(aD, .inr (1, [.ref bD, .int x_1])), (bD, .inl (cL, 256, .inr (.inl fd)))] := hD
  refine kVret (u := x_1) hx hb hr hlocks hS dX1_moveTo_9 ?_ (hP.sub [0, 1] rfl) (hD.sub [0, 1] (by decide) rfl)
  exact trivial
set_option maxRecDepth 100000 in
theorem iX1_readHere_X1 : ∀ w ∈ wsX10, w ∈ wsX1_readHere := fun w h => (goodIn_r (big := wsX1_readHere) wsX10 [12, 13] rfl (by decide +kernel) w h).1
set_option maxRecDepth 100000 in
set_option maxHeartbeats 4000000 in
theorem g_readHere (l : Launch) (D : va_G) (cI cL cB cZ cT : ClassId) (sz : Nat) (aD bD : Nat) (dp : Int32) (fd : Nat → Int64) : kM (S := (Int32)) l yX1_readHere wsX1_readHere ({ frames := 1, cells := 0, slots := 0, locals := 21 }) D (kT cI cL cB cZ cT) [.ref aD] [(aD, .inr (1, [.ref bD, .int dp])), (bD, .inl (cL, 256, .inr (.inl fd)))] sz eL (fun _ _ => True) (fun u => [(aD, .inr (1, [.ref bD, .int u])), (bD, .inl (cL, 256, .inr (.inl fd)))]) 0 0 := by
  refine kStart (cc := cX1_readHere) (maxL := 3) (ret := (some .long)) (own := RX1) (by decide) rfl rfl (Nat.le_of_ble_eq_true rfl) ?_
  intro p e s m args below meth c A ls hx hb hr hml hown hts hlocks hnm hsz hA hG hP hD hS hl
  have hK := hG.1
  have hl : lv_has ls 3 [(0, .ref aD)] := hl
  refine lv_aload_n hx hb dX1_readHere_0 rfl (lv_at hl 0 rfl) ?_
  refine lv_aload_n hx hb dX1_readHere_1 rfl (lv_at hl 0 rfl) ?_
  refine va_get (D := D) (ci := 1) (v := .int dp) (C := RX1) (T := TX1) (N := 2) hx hb hts iX1_readHere_X1 hown hK hP 0 rfl rfl 1 (by decide) (hts (.fieldLink RX1 15 "TapeCalculator$Drum" "place" "I") (List.mem_of_getElem? (i := 1) rfl)) (fun _ h9 => h9) rfl dX1_readHere_2 ?_
  refine kCallL (wr := []) (va_runV (As := [.int dp]) (rest := []) ⟨hx, hb, hml, hown, hts⟩ (g_wordAt l D cI cL cB cZ cT _ aD bD dp fd dp) (cwV 1 hts gX1_readHere_X1_wordAt rfl rfl rfl (by decide +kernel) ⟨Nat.le_of_ble_eq_true rfl, Nat.le_of_ble_eq_true rfl⟩) (kPreV hG hP hD [0, 1] rfl (by decide) 0 1 rfl rfl rfl) rfl rfl hl.1 rfl (lv_room (Nat.le_of_ble_eq_true rfl)) dX1_readHere_5 ⟨Nat.le_of_ble_eq_true rfl, Nat.le_of_ble_eq_true rfl⟩) hA hP hD hS [0, 1] [] rfl rfl (by decide) (by decide) (fun r_1 u_r_1 H locs wr_1 hP hD hS => ?_)
  have hP : va_P D vwCl [(aD, .inr (1, [.ref bD, .int dp])), (bD, .inl (cL, 256, .inr (.inl fd)))] H := hP
  have hD : va_D A [(aD, .inr (1, [.ref bD, .int dp])), (bD, .inl (cL, 256, .inr (.inl fd)))] := hD
  try dsimp only at wr_1
  refine lv_lstore_n (lv' := [(1, .long r_1), (0, .ref aD)]) hx hb dX1_readHere_8 rfl hl (by decide) rfl (fun ls hl => ?_)
  refine lv_aload_n hx hb dX1_readHere_9 rfl (lv_at hl 1 rfl) ?_
  refine lv_aload_n hx hb dX1_readHere_10 rfl (lv_at hl 1 rfl) ?_
  refine va_get (D := D) (ci := 1) (v := .int dp) (C := RX1) (T := TX1) (N := 2) hx hb hts iX1_readHere_X1 hown hK hP 0 rfl rfl 1 (by decide) (hts (.fieldLink RX1 15 "TapeCalculator$Drum" "place" "I") (List.mem_of_getElem? (i := 1) rfl)) (fun _ h9 => h9) rfl dX1_readHere_11 ?_
  refine lv_iconst (v := 1) hx hb dX1_readHere_14 (by decide) ?_
  refine lv_iadd hx hb dX1_readHere_15 ?_
  refine kCallVd (wr := []) (va_runV (As := [.int (dp + 1)]) (rest := []) ⟨hx, hb, hml, hown, hts⟩ (g_moveTo l D cI cL cB cZ cT _ aD bD dp fd (dp + 1)) (cwV 1 hts gX1_readHere_X1_moveTo rfl rfl rfl (by decide +kernel) ⟨Nat.le_of_ble_eq_true rfl, Nat.le_of_ble_eq_true rfl⟩) (kPreV hG hP hD [0, 1] rfl (by decide) 0 1 rfl rfl rfl) rfl rfl hl.1 rfl (lv_room (Nat.le_of_ble_eq_true rfl)) dX1_readHere_16 ⟨Nat.le_of_ble_eq_true rfl, Nat.le_of_ble_eq_true rfl⟩) hA hP hD hS [0, 1] [] rfl rfl (by decide) (by decide) (fun _ u_r_2 H locs wr_2 hP hD hS => ?_)
  have hP : va_P D vwCl [(aD, .inr (1, [.ref bD, .int u_r_2])), (bD, .inl (cL, 256, .inr (.inl fd)))] H := hP
  have hD : va_D A [(aD, .inr (1, [.ref bD, .int u_r_2])), (bD, .inl (cL, 256, .inr (.inl fd)))] := hD
  try dsimp only at wr_2
  refine lv_lload_n hx hb dX1_readHere_19 rfl (lv_at hl 0 rfl) ?_
  refine kLret (u := u_r_2) hx hb hr hlocks hS dX1_readHere_20 ?_ (hP.sub [0, 1] rfl) (hD.sub [0, 1] (by decide) rfl)
  exact trivial
set_option maxRecDepth 100000 in
theorem iX1_writeHere_X1 : ∀ w ∈ wsX10, w ∈ wsX1_writeHere := fun w h => (goodIn_r (big := wsX1_writeHere) wsX10 [8, 9] rfl (by decide +kernel) w h).1
set_option maxRecDepth 100000 in
set_option maxHeartbeats 4000000 in
theorem g_writeHere (l : Launch) (D : va_G) (cI cL cB cZ cT : ClassId) (sz : Nat) (aD bD : Nat) (dp : Int32) (fd : Nat → Int64) (v : Int64) : kM (S := (Int32 × (Nat → Int64))) l yX1_writeHere wsX1_writeHere ({ frames := 1, cells := 0, slots := 0, locals := 21 }) D (kT cI cL cB cZ cT) [.ref aD, .long v] [(aD, .inr (1, [.ref bD, .int dp])), (bD, .inl (cL, 256, .inr (.inl fd)))] sz eV (fun _ _ => True) (fun u => [(aD, .inr (1, [.ref bD, .int u.1])), (bD, .inl (cL, 256, .inr (.inl u.2)))]) 0 0 := by
  refine kStart (cc := cX1_writeHere) (maxL := 3) (ret := none) (own := RX1) (by decide) rfl rfl (Nat.le_of_ble_eq_true rfl) ?_
  intro p e s m args below meth c A ls hx hb hr hml hown hts hlocks hnm hsz hA hG hP hD hS hl
  have hK := hG.1
  have hl : lv_has ls 3 [(0, .ref aD), (1, .long v)] := hl
  refine lv_aload_n hx hb dX1_writeHere_0 rfl (lv_at hl 0 rfl) ?_
  refine va_get (D := D) (ci := 1) (v := .int dp) (C := RX1) (T := TX1) (N := 2) hx hb hts iX1_writeHere_X1 hown hK hP 0 rfl rfl 1 (by decide) (hts (.fieldLink RX1 15 "TapeCalculator$Drum" "place" "I") (List.mem_of_getElem? (i := 1) rfl)) (fun _ h9 => h9) rfl dX1_writeHere_1 ?_
  refine lv_if_lt (tgt := 29) hx hb dX1_writeHere_4 (by decide) (fun c_4_0 => ?_) (fun c_4_0 => ?_)
  · have t_4_0 := c_4_0
    try simp only [kb_eq0, kb_ne0, lg_cmp_lt, lg_cmp_le, lg_cmp_gt, lg_cmp_ge, lg_cmp_eq] at t_4_0
    try simp only [Int32.lt_iff_toInt_lt, Int32.le_iff_toInt_le, ← Int32.toInt_inj, Int64.lt_iff_toInt_lt, Int64.le_iff_toInt_le, ← Int64.toInt_inj, Int32.toInt_toInt64, Int32.reduceToInt, Int64.reduceToInt] at t_4_0
    refine lv_aload_n hx hb dX1_writeHere_29 rfl (lv_at hl 0 rfl) ?_
    refine lv_aload_n hx hb dX1_writeHere_30 rfl (lv_at hl 0 rfl) ?_
    refine va_get (D := D) (ci := 1) (v := .int dp) (C := RX1) (T := TX1) (N := 2) hx hb hts iX1_writeHere_X1 hown hK hP 0 rfl rfl 1 (by decide) (hts (.fieldLink RX1 15 "TapeCalculator$Drum" "place" "I") (List.mem_of_getElem? (i := 1) rfl)) (fun _ h9 => h9) rfl dX1_writeHere_31 ?_
    refine lv_iconst (v := 1) hx hb dX1_writeHere_34 (by decide) ?_
    refine lv_iadd hx hb dX1_writeHere_35 ?_
    refine kCallVd (wr := []) (va_runV (As := [.int (dp + 1)]) (rest := []) ⟨hx, hb, hml, hown, hts⟩ (g_moveTo l D cI cL cB cZ cT _ aD bD dp fd (dp + 1)) (cwV 1 hts gX1_writeHere_X1_moveTo rfl rfl rfl (by decide +kernel) ⟨Nat.le_of_ble_eq_true rfl, Nat.le_of_ble_eq_true rfl⟩) (kPreV hG hP hD [0, 1] rfl (by decide) 0 1 rfl rfl rfl) rfl rfl hl.1 rfl (lv_room (Nat.le_of_ble_eq_true rfl)) dX1_writeHere_36 ⟨Nat.le_of_ble_eq_true rfl, Nat.le_of_ble_eq_true rfl⟩) hA hP hD hS [0, 1] [] rfl rfl (by decide) (by decide) (fun _ u_r_2 H locs wr_2 hP hD hS => ?_)
    have hP : va_P D vwCl [(aD, .inr (1, [.ref bD, .int u_r_2])), (bD, .inl (cL, 256, .inr (.inl fd)))] H := hP
    have hD : va_D A [(aD, .inr (1, [.ref bD, .int u_r_2])), (bD, .inl (cL, 256, .inr (.inl fd)))] := hD
    try dsimp only at wr_2
    refine kVret (u := (u_r_2, fd)) hx hb hr hlocks hS dX1_writeHere_39 ?_ (hP.sub [0, 1] rfl) (hD.sub [0, 1] (by decide) rfl)
    exact trivial
  · have t_4_0 := c_4_0
    try simp only [kb_eq0, kb_ne0, lg_cmp_lt, lg_cmp_le, lg_cmp_gt, lg_cmp_ge, lg_cmp_eq] at t_4_0
    try simp only [Int32.lt_iff_toInt_lt, Int32.le_iff_toInt_le, ← Int32.toInt_inj, Int64.lt_iff_toInt_lt, Int64.le_iff_toInt_le, ← Int64.toInt_inj, Int32.toInt_toInt64, Int32.reduceToInt, Int64.reduceToInt] at t_4_0
    refine lv_aload_n hx hb dX1_writeHere_7 rfl (lv_at hl 0 rfl) ?_
    refine va_get (D := D) (ci := 1) (v := .int dp) (C := RX1) (T := TX1) (N := 2) hx hb hts iX1_writeHere_X1 hown hK hP 0 rfl rfl 1 (by decide) (hts (.fieldLink RX1 15 "TapeCalculator$Drum" "place" "I") (List.mem_of_getElem? (i := 1) rfl)) (fun _ h9 => h9) rfl dX1_writeHere_8 ?_
    refine lv_aload_n hx hb dX1_writeHere_11 rfl (lv_at hl 0 rfl) ?_
    refine va_get (D := D) (ci := 1) (v := .ref bD) (C := RX1) (T := TX1) (N := 2) hx hb hts iX1_writeHere_X1 hown hK hP 0 rfl rfl 0 (by decide) (hts (.fieldLink RX1 9 "TapeCalculator$Drum" "words" "[J") (List.mem_of_getElem? (i := 2) rfl)) (fun _ h9 => h9) rfl dX1_writeHere_12 ?_
    refine va_alen hx hb hK hP 1 1 rfl rfl (v := 256) rfl dX1_writeHere_15 ?_
    refine lv_icmp_ge (tgt := 29) hx hb dX1_writeHere_16 (by decide) (fun c_16_2 => ?_) (fun c_16_2 => ?_)
    · have t_16_2 := c_16_2
      try simp only [kb_eq0, kb_ne0, lg_cmp_lt, lg_cmp_le, lg_cmp_gt, lg_cmp_ge, lg_cmp_eq] at t_16_2
      try simp only [Int32.lt_iff_toInt_lt, Int32.le_iff_toInt_le, ← Int32.toInt_inj, Int64.lt_iff_toInt_lt, Int64.le_iff_toInt_le, ← Int64.toInt_inj, Int32.toInt_toInt64, Int32.reduceToInt, Int64.reduceToInt] at t_16_2
      refine lv_aload_n hx hb dX1_writeHere_29 rfl (lv_at hl 0 rfl) ?_
      refine lv_aload_n hx hb dX1_writeHere_30 rfl (lv_at hl 0 rfl) ?_
      refine va_get (D := D) (ci := 1) (v := .int dp) (C := RX1) (T := TX1) (N := 2) hx hb hts iX1_writeHere_X1 hown hK hP 0 rfl rfl 1 (by decide) (hts (.fieldLink RX1 15 "TapeCalculator$Drum" "place" "I") (List.mem_of_getElem? (i := 1) rfl)) (fun _ h9 => h9) rfl dX1_writeHere_31 ?_
      refine lv_iconst (v := 1) hx hb dX1_writeHere_34 (by decide) ?_
      refine lv_iadd hx hb dX1_writeHere_35 ?_
      refine kCallVd (wr := []) (va_runV (As := [.int (dp + 1)]) (rest := []) ⟨hx, hb, hml, hown, hts⟩ (g_moveTo l D cI cL cB cZ cT _ aD bD dp fd (dp + 1)) (cwV 1 hts gX1_writeHere_X1_moveTo rfl rfl rfl (by decide +kernel) ⟨Nat.le_of_ble_eq_true rfl, Nat.le_of_ble_eq_true rfl⟩) (kPreV hG hP hD [0, 1] rfl (by decide) 0 1 rfl rfl rfl) rfl rfl hl.1 rfl (lv_room (Nat.le_of_ble_eq_true rfl)) dX1_writeHere_36 ⟨Nat.le_of_ble_eq_true rfl, Nat.le_of_ble_eq_true rfl⟩) hA hP hD hS [0, 1] [] rfl rfl (by decide) (by decide) (fun _ u_r_4 H locs wr_4 hP hD hS => ?_)
      have hP : va_P D vwCl [(aD, .inr (1, [.ref bD, .int u_r_4])), (bD, .inl (cL, 256, .inr (.inl fd)))] H := hP
      have hD : va_D A [(aD, .inr (1, [.ref bD, .int u_r_4])), (bD, .inl (cL, 256, .inr (.inl fd)))] := hD
      try dsimp only at wr_4
      refine kVret (u := (u_r_4, fd)) hx hb hr hlocks hS dX1_writeHere_39 ?_ (hP.sub [0, 1] rfl) (hD.sub [0, 1] (by decide) rfl)
      exact trivial
    · have t_16_2 := c_16_2
      try simp only [kb_eq0, kb_ne0, lg_cmp_lt, lg_cmp_le, lg_cmp_gt, lg_cmp_ge, lg_cmp_eq] at t_16_2
      try simp only [Int32.lt_iff_toInt_lt, Int32.le_iff_toInt_le, ← Int32.toInt_inj, Int64.lt_iff_toInt_lt, Int64.le_iff_toInt_le, ← Int64.toInt_inj, Int32.toInt_toInt64, Int32.reduceToInt, Int64.reduceToInt] at t_16_2
      refine lv_aload_n hx hb dX1_writeHere_19 rfl (lv_at hl 0 rfl) ?_
      refine va_get (D := D) (ci := 1) (v := .ref bD) (C := RX1) (T := TX1) (N := 2) hx hb hts iX1_writeHere_X1 hown hK hP 0 rfl rfl 0 (by decide) (hts (.fieldLink RX1 9 "TapeCalculator$Drum" "words" "[J") (List.mem_of_getElem? (i := 2) rfl)) (fun _ h9 => h9) rfl dX1_writeHere_20 ?_
      refine lv_aload_n hx hb dX1_writeHere_23 rfl (lv_at hl 0 rfl) ?_
      refine va_get (D := D) (ci := 1) (v := .int dp) (C := RX1) (T := TX1) (N := 2) hx hb hts iX1_writeHere_X1 hown hK hP 0 rfl rfl 1 (by decide) (hts (.fieldLink RX1 15 "TapeCalculator$Drum" "place" "I") (List.mem_of_getElem? (i := 1) rfl)) (fun _ h9 => h9) rfl dX1_writeHere_24 ?_
      refine lv_lload_n hx hb dX1_writeHere_27 rfl (lv_at hl 1 rfl) ?_
      refine va_last hx hb hK hP hD hS 1 1 rfl rfl (vp_in_iff.mpr (by omega)) dX1_writeHere_28 (fun H locs hP hD hS => ?_)
      have hP : va_P D vwCl [(aD, .inr (1, [.ref bD, .int dp])), (bD, .inl (cL, 256, .inr (.inl (vp_updL fd dp.toNatClampNeg v))))] H := hP
      have hD : va_D A [(aD, .inr (1, [.ref bD, .int dp])), (bD, .inl (cL, 256, .inr (.inl (vp_updL fd dp.toNatClampNeg v))))] := hD
      refine lv_aload_n hx hb dX1_writeHere_29 rfl (lv_at hl 0 rfl) ?_
      refine lv_aload_n hx hb dX1_writeHere_30 rfl (lv_at hl 0 rfl) ?_
      refine va_get (D := D) (ci := 1) (v := .int dp) (C := RX1) (T := TX1) (N := 2) hx hb hts iX1_writeHere_X1 hown hK hP 0 rfl rfl 1 (by decide) (hts (.fieldLink RX1 15 "TapeCalculator$Drum" "place" "I") (List.mem_of_getElem? (i := 1) rfl)) (fun _ h9 => h9) rfl dX1_writeHere_31 ?_
      refine lv_iconst (v := 1) hx hb dX1_writeHere_34 (by decide) ?_
      refine lv_iadd hx hb dX1_writeHere_35 ?_
      refine kCallVd (wr := []) (va_runV (As := [.int (dp + 1)]) (rest := []) ⟨hx, hb, hml, hown, hts⟩ (g_moveTo l D cI cL cB cZ cT _ aD bD dp (vp_updL fd dp.toNatClampNeg v) (dp + 1)) (cwV 1 hts gX1_writeHere_X1_moveTo rfl rfl rfl (by decide +kernel) ⟨Nat.le_of_ble_eq_true rfl, Nat.le_of_ble_eq_true rfl⟩) (kPreV hG hP hD [0, 1] rfl (by decide) 0 1 rfl rfl rfl) rfl rfl hl.1 rfl (lv_room (Nat.le_of_ble_eq_true rfl)) dX1_writeHere_36 ⟨Nat.le_of_ble_eq_true rfl, Nat.le_of_ble_eq_true rfl⟩) hA hP hD hS [0, 1] [] rfl rfl (by decide) (by decide) (fun _ u_r_5 H locs wr_5 hP hD hS => ?_)
      have hP : va_P D vwCl [(aD, .inr (1, [.ref bD, .int u_r_5])), (bD, .inl (cL, 256, .inr (.inl (vp_updL fd dp.toNatClampNeg v))))] H := hP
      have hD : va_D A [(aD, .inr (1, [.ref bD, .int u_r_5])), (bD, .inl (cL, 256, .inr (.inl (vp_updL fd dp.toNatClampNeg v))))] := hD
      try dsimp only at wr_5
      refine kVret (u := (u_r_5, (vp_updL fd dp.toNatClampNeg v))) hx hb hr hlocks hS dX1_writeHere_39 ?_ (hP.sub [0, 1] rfl) (hD.sub [0, 1] (by decide) rfl)
      exact trivial
