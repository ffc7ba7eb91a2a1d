def kTp (g : Nat → Option Nat) (t : Int32) : Option Nat := if 0 ≤ t.toInt ∧ t.toInt < 4 then g t.toNatClampNeg else none
def k4 (a b c d : Nat) : Nat → Option Nat := va_up (va_up (va_up (va_up (fun _ => none) 0 (some a)) 1 (some b)) 2 (some c)) 3 (some d)
theorem kTp_any (a b c d : Nat) (t : Int32) : kTp (k4 a b c d) t = none ∨ kTp (k4 a b c d) t = some a ∨ kTp (k4 a b c d) t = some b ∨ kTp (k4 a b c d) t = some c ∨ kTp (k4 a b c d) t = some d := by
  rcases ksw_0_3 t with h | rfl | rfl | rfl | rfl
  · exact Or.inl (if_neg (by omega))
  · exact Or.inr (Or.inl rfl)
  · exact Or.inr (Or.inr (Or.inl rfl))
  · exact Or.inr (Or.inr (Or.inr (Or.inl rfl)))
  · exact Or.inr (Or.inr (Or.inr (Or.inr rfl)))
def kAny (a b c d : Nat) (r : Option Nat) : Prop := r = none ∨ r = some a ∨ r = some b ∨ r = some c ∨ r = some d
theorem k_nz {x : Int64} (h : 0 < x.toInt) : ¬ x = 0 := fun e => by rw [e] at h; exact absurd h (by decide)
theorem k_inc {i n : Int32} (h : i.toInt < n.toInt) : (i + 1).toInt = i.toInt + 1 := by
  have h1 := n.toInt_lt
  have h2 := i.le_toInt
  rw [Int32.toInt_add, show (1 : Int32).toInt = 1 from rfl]
  exact Int.bmod_eq_of_le (by omega) (by omega)
theorem k_dec {i n : Int32} (h : n.toInt < i.toInt) : (i - 1).toInt = i.toInt - 1 := by
  have h1 := n.le_toInt
  have h2 := i.toInt_lt
  rw [Int32.toInt_sub, show (1 : Int32).toInt = 1 from rfl]
  exact Int.bmod_eq_of_le (by omega) (by omega)
theorem k_decA {i n : Int32} (h : n.toInt < i.toInt) : (i + (-1)).toInt = i.toInt - 1 := by
  have h1 := n.le_toInt
  have h2 := i.toInt_lt
  rw [Int32.toInt_add, show (-1 : Int32).toInt = -1 from rfl]
  exact Int.bmod_eq_of_le (by omega) (by omega)
theorem ksw_5_18 (x : Int32) : (x.toInt < 5 ∨ 18 < x.toInt) ∨ x = 5 ∨ x = 6 ∨ x = 7 ∨ x = 8 ∨ x = 9 ∨ x = 10 ∨ x = 11 ∨ x = 12 ∨ x = 13 ∨ x = 14 ∨ x = 15 ∨ x = 16 ∨ x = 17 ∨ x = 18 := by
  simp only [← Int32.toInt_inj, Int32.reduceToInt]; omega
theorem ksw_24_27 (x : Int32) : (x.toInt < 24 ∨ 27 < x.toInt) ∨ x = 24 ∨ x = 25 ∨ x = 26 ∨ x = 27 := by
  simp only [← Int32.toInt_inj, Int32.reduceToInt]; omega
theorem ksw_0_31 (x : Int32) : (x.toInt < 0 ∨ 31 < x.toInt) ∨ x = 0 ∨ x = 1 ∨ x = 2 ∨ x = 3 ∨ x = 4 ∨ x = 5 ∨ x = 6 ∨ x = 7 ∨ x = 8 ∨ x = 9 ∨ x = 10 ∨ x = 11 ∨ x = 12 ∨ x = 13 ∨ x = 14 ∨ x = 15 ∨ x = 16 ∨ x = 17 ∨ x = 18 ∨ x = 19 ∨ x = 20 ∨ x = 21 ∨ x = 22 ∨ x = 23 ∨ x = 24 ∨ x = 25 ∨ x = 26 ∨ x = 27 ∨ x = 28 ∨ x = 29 ∨ x = 30 ∨ x = 31 := by
  simp only [← Int32.toInt_inj, Int32.reduceToInt]; omega
theorem ksw_24_28 (x : Int32) : (x.toInt < 24 ∨ 28 < x.toInt) ∨ x = 24 ∨ x = 25 ∨ x = 26 ∨ x = 27 ∨ x = 28 := by
  simp only [← Int32.toInt_inj, Int32.reduceToInt]; omega
set_option maxRecDepth 100000 in
set_option maxHeartbeats 4000000 in
theorem g_isHalf (l : Launch) (D : va_G) (cI cL cB cZ cT : ClassId) (sz : Nat) (n : Int32) : kM (S := Unit) l yX7_isHalf wsX7_isHalf ({ frames := 0, cells := 0, slots := 0, locals := 0 }) D (kT cI cL cB cZ cT) [.int n] [] sz eI (fun r _ => r = (kb (0 ≤ n.toInt ∧ n.toInt < 512))) (fun _ => []) 0 0 := by
  refine kStart (cc := cX7_isHalf) (maxL := 1) (ret := (some .boolean)) (own := RX7) (by decide) rfl rfl (Nat.le_of_ble_eq_true rfl) ?_
  intro p e s m args below meth c A ls hx hb hr hml hown hts hlocks hnm hsz hA hG hP hD hS hl
  have hK := hG.1
  have hl : lv_has ls 1 [(0, .int n)] := hl
  refine lv_iload_n hx hb dX7_isHalf_0 rfl (lv_at hl 0 rfl) ?_
  refine lv_if_lt (tgt := 15) hx hb dX7_isHalf_1 (by decide) (fun c_1_0 => ?_) (fun c_1_0 => ?_)
  · have t_1_0 := c_1_0
    try simp only [kb_eq0, kb_ne0, lg_cmp_lt, lg_cmp_le, lg_cmp_gt, lg_cmp_ge, lg_cmp_eq] at t_1_0
    try simp only [Int32.lt_iff_toInt_lt, Int32.le_iff_toInt_le, ← Int32.toInt_inj, Int64.lt_iff_toInt_lt, Int64.le_iff_toInt_le, ← Int64.toInt_inj, Int32.toInt_toInt64, Int32.reduceToInt, Int64.reduceToInt] at t_1_0
    refine lv_iconst (v := 0) hx hb dX7_isHalf_15 (by decide) ?_
    refine kIret (u := ()) hx hb hr rfl hlocks hS dX7_isHalf_16 ?_ (hP.sub [] rfl) (hD.sub [] (by decide) rfl)
    first
      | exact (kb_t (by omega)).symm
      | exact (kb_f (by omega)).symm
  · have t_1_0 := c_1_0
    try simp only [kb_eq0, kb_ne0, lg_cmp_lt, lg_cmp_le, lg_cmp_gt, lg_cmp_ge, lg_cmp_eq] at t_1_0
    try simp only [Int32.lt_iff_toInt_lt, Int32.le_iff_toInt_le, ← Int32.toInt_inj, Int64.lt_iff_toInt_lt, Int64.le_iff_toInt_le, ← Int64.toInt_inj, Int32.toInt_toInt64, Int32.reduceToInt, Int64.reduceToInt] at t_1_0
    refine lv_iload_n hx hb dX7_isHalf_4 rfl (lv_at hl 0 rfl) ?_
    refine lv_sipush (v := 512) hx hb dX7_isHalf_5 (by decide) ?_
    refine lv_icmp_ge (tgt := 15) hx hb dX7_isHalf_8 (by decide) (fun c_8_1 => ?_) (fun c_8_1 => ?_)
    · have t_8_1 := c_8_1
      try simp only [kb_eq0, kb_ne0, lg_cmp_lt, lg_cmp_le, lg_cmp_gt, lg_cmp_ge, lg_cmp_eq] at t_8_1
      try simp only [Int32.lt_iff_toInt_lt, Int32.le_iff_toInt_le, ← Int32.toInt_inj, Int64.lt_iff_toInt_lt, Int64.le_iff_toInt_le, ← Int64.toInt_inj, Int32.toInt_toInt64, Int32.reduceToInt, Int64.reduceToInt] at t_8_1
      refine lv_iconst (v := 0) hx hb dX7_isHalf_15 (by decide) ?_
      refine kIret (u := ()) hx hb hr rfl hlocks hS dX7_isHalf_16 ?_ (hP.sub [] rfl) (hD.sub [] (by decide) rfl)
      first
        | exact (kb_t (by omega)).symm
        | exact (kb_f (by omega)).symm
    · have t_8_1 := c_8_1
      try simp only [kb_eq0, kb_ne0, lg_cmp_lt, lg_cmp_le, lg_cmp_gt, lg_cmp_ge, lg_cmp_eq] at t_8_1
      try simp only [Int32.lt_iff_toInt_lt, Int32.le_iff_toInt_le, ← Int32.toInt_inj, Int64.lt_iff_toInt_lt, Int64.le_iff_toInt_le, ← Int64.toInt_inj, Int32.toInt_toInt64, Int32.reduceToInt, Int64.reduceToInt] at t_8_1
      refine lv_iconst (v := 1) hx hb dX7_isHalf_11 (by decide) ?_
      refine lv_goto (tgt := 16) hx hb dX7_isHalf_12 (by decide) ?_
      refine kIret (u := ()) hx hb hr rfl hlocks hS dX7_isHalf_16 ?_ (hP.sub [] rfl) (hD.sub [] (by decide) rfl)
      first
        | exact (kb_t (by omega)).symm
        | exact (kb_f (by omega)).symm
set_option maxRecDepth 100000 in
set_option maxHeartbeats 4000000 in
theorem g_isItem (l : Launch) (D : va_G) (cI cL cB cZ cT : ClassId) (sz : Nat) (v : Int64) : kM (S := Unit) l yX7_isItem wsX7_isItem ({ frames := 0, cells := 0, slots := 0, locals := 0 }) D (kT cI cL cB cZ cT) [.long v] [] sz eI (fun r _ => r = (kb ((0 ≤ v.toInt ∧ v.toInt ≤ 68719476735) ∨ v.toInt = -2 ∨ v.toInt = -3))) (fun _ => []) 0 0 := by
  refine kStart (cc := cX7_isItem) (maxL := 2) (ret := (some .boolean)) (own := RX7) (by decide) rfl rfl (Nat.le_of_ble_eq_true rfl) ?_
  intro p e s m args below meth c A ls hx hb hr hml hown hts hlocks hnm hsz hA hG hP hD hS hl
  have hK := hG.1
  have hl : lv_has ls 2 [(0, .long v)] := hl
  refine lv_lload_n hx hb dX7_isItem_0 rfl (lv_at hl 0 rfl) ?_
  refine lv_lconst (v := 0) hx hb dX7_isItem_1 (by decide) ?_
  refine W.lcmp hx hb dX7_isItem_2 ?_
  refine lv_if_lt (tgt := 14) hx hb dX7_isItem_3 (by decide) (fun c_3_0 => ?_) (fun c_3_0 => ?_)
  · have t_3_0 := c_3_0
    try simp only [kb_eq0, kb_ne0, lg_cmp_lt, lg_cmp_le, lg_cmp_gt, lg_cmp_ge, lg_cmp_eq] at t_3_0
    try simp only [Int32.lt_iff_toInt_lt, Int32.le_iff_toInt_le, ← Int32.toInt_inj, Int64.lt_iff_toInt_lt, Int64.le_iff_toInt_le, ← Int64.toInt_inj, Int32.toInt_toInt64, Int32.reduceToInt, Int64.reduceToInt] at t_3_0
    refine lv_lload_n hx hb dX7_isItem_14 rfl (lv_at hl 0 rfl) ?_
    refine lv_ldc2 (v := (-2)) hx hb hown (hts (.constantLong RX7 262 (-2)) (List.mem_of_getElem? (i := 2) rfl)) dX7_isItem_15 ?_
    refine W.lcmp hx hb dX7_isItem_18 ?_
    refine lv_if_eq (tgt := 30) hx hb dX7_isItem_19 (by decide) (fun c_19_1 => ?_) (fun c_19_1 => ?_)
    · have t_19_1 := c_19_1
      try simp only [kb_eq0, kb_ne0, lg_cmp_lt, lg_cmp_le, lg_cmp_gt, lg_cmp_ge, lg_cmp_eq] at t_19_1
      try simp only [Int32.lt_iff_toInt_lt, Int32.le_iff_toInt_le, ← Int32.toInt_inj, Int64.lt_iff_toInt_lt, Int64.le_iff_toInt_le, ← Int64.toInt_inj, Int32.toInt_toInt64, Int32.reduceToInt, Int64.reduceToInt] at t_19_1
      refine lv_iconst (v := 1) hx hb dX7_isItem_30 (by decide) ?_
      refine lv_goto (tgt := 35) hx hb dX7_isItem_31 (by decide) ?_
      refine kIret (u := ()) hx hb hr rfl hlocks hS dX7_isItem_35 ?_ (hP.sub [] rfl) (hD.sub [] (by decide) rfl)
      first
        | exact (kb_t (by omega)).symm
        | exact (kb_f (by omega)).symm
    · have t_19_1 := c_19_1
      try simp only [kb_eq0, kb_ne0, lg_cmp_lt, lg_cmp_le, lg_cmp_gt, lg_cmp_ge, lg_cmp_eq] at t_19_1
      try simp only [Int32.lt_iff_toInt_lt, Int32.le_iff_toInt_le, ← Int32.toInt_inj, Int64.lt_iff_toInt_lt, Int64.le_iff_toInt_le, ← Int64.toInt_inj, Int32.toInt_toInt64, Int32.reduceToInt, Int64.reduceToInt] at t_19_1
      refine lv_lload_n hx hb dX7_isItem_22 rfl (lv_at hl 0 rfl) ?_
      refine lv_ldc2 (v := (-3)) hx hb hown (hts (.constantLong RX7 266 (-3)) (List.mem_of_getElem? (i := 3) rfl)) dX7_isItem_23 ?_
      refine W.lcmp hx hb dX7_isItem_26 ?_
      refine lv_if_ne (tgt := 34) hx hb dX7_isItem_27 (by decide) (fun c_27_2 => ?_) (fun c_27_2 => ?_)
      · have t_27_2 := c_27_2
        try simp only [kb_eq0, kb_ne0, lg_cmp_lt, lg_cmp_le, lg_cmp_gt, lg_cmp_ge, lg_cmp_eq] at t_27_2
        try simp only [Int32.lt_iff_toInt_lt, Int32.le_iff_toInt_le, ← Int32.toInt_inj, Int64.lt_iff_toInt_lt, Int64.le_iff_toInt_le, ← Int64.toInt_inj, Int32.toInt_toInt64, Int32.reduceToInt, Int64.reduceToInt] at t_27_2
        refine lv_iconst (v := 0) hx hb dX7_isItem_34 (by decide) ?_
        refine kIret (u := ()) hx hb hr rfl hlocks hS dX7_isItem_35 ?_ (hP.sub [] rfl) (hD.sub [] (by decide) rfl)
        first
          | exact (kb_t (by omega)).symm
          | exact (kb_f (by omega)).symm
      · have t_27_2 := c_27_2
        try simp only [kb_eq0, kb_ne0, lg_cmp_lt, lg_cmp_le, lg_cmp_gt, lg_cmp_ge, lg_cmp_eq] at t_27_2
        try simp only [Int32.lt_iff_toInt_lt, Int32.le_iff_toInt_le, ← Int32.toInt_inj, Int64.lt_iff_toInt_lt, Int64.le_iff_toInt_le, ← Int64.toInt_inj, Int32.toInt_toInt64, Int32.reduceToInt, Int64.reduceToInt] at t_27_2
        refine lv_iconst (v := 1) hx hb dX7_isItem_30 (by decide) ?_
        refine lv_goto (tgt := 35) hx hb dX7_isItem_31 (by decide) ?_
        refine kIret (u := ()) hx hb hr rfl hlocks hS dX7_isItem_35 ?_ (hP.sub [] rfl) (hD.sub [] (by decide) rfl)
        first
          | exact (kb_t (by omega)).symm
          | exact (kb_f (by omega)).symm
  · have t_3_0 := c_3_0
    try simp only [kb_eq0, kb_ne0, lg_cmp_lt, lg_cmp_le, lg_cmp_gt, lg_cmp_ge, lg_cmp_eq] at t_3_0
    try simp only [Int32.lt_iff_toInt_lt, Int32.le_iff_toInt_le, ← Int32.toInt_inj, Int64.lt_iff_toInt_lt, Int64.le_iff_toInt_le, ← Int64.toInt_inj, Int32.toInt_toInt64, Int32.reduceToInt, Int64.reduceToInt] at t_3_0
    refine lv_lload_n hx hb dX7_isItem_6 rfl (lv_at hl 0 rfl) ?_
    refine lv_ldc2 (v := 68719476735) hx hb hown (hts (.constantLong RX7 264 (68719476735)) (List.mem_of_getElem? (i := 1) rfl)) dX7_isItem_7 ?_
    refine W.lcmp hx hb dX7_isItem_10 ?_
    refine lv_if_le (tgt := 30) hx hb dX7_isItem_11 (by decide) (fun c_11_3 => ?_) (fun c_11_3 => ?_)
    · have t_11_3 := c_11_3
      try simp only [kb_eq0, kb_ne0, lg_cmp_lt, lg_cmp_le, lg_cmp_gt, lg_cmp_ge, lg_cmp_eq] at t_11_3
      try simp only [Int32.lt_iff_toInt_lt, Int32.le_iff_toInt_le, ← Int32.toInt_inj, Int64.lt_iff_toInt_lt, Int64.le_iff_toInt_le, ← Int64.toInt_inj, Int32.toInt_toInt64, Int32.reduceToInt, Int64.reduceToInt] at t_11_3
      refine lv_iconst (v := 1) hx hb dX7_isItem_30 (by decide) ?_
      refine lv_goto (tgt := 35) hx hb dX7_isItem_31 (by decide) ?_
      refine kIret (u := ()) hx hb hr rfl hlocks hS dX7_isItem_35 ?_ (hP.sub [] rfl) (hD.sub [] (by decide) rfl)
      first
        | exact (kb_t (by omega)).symm
        | exact (kb_f (by omega)).symm
    · have t_11_3 := c_11_3
      try simp only [kb_eq0, kb_ne0, lg_cmp_lt, lg_cmp_le, lg_cmp_gt, lg_cmp_ge, lg_cmp_eq] at t_11_3
      try simp only [Int32.lt_iff_toInt_lt, Int32.le_iff_toInt_le, ← Int32.toInt_inj, Int64.lt_iff_toInt_lt, Int64.le_iff_toInt_le, ← Int64.toInt_inj, Int32.toInt_toInt64, Int32.reduceToInt, Int64.reduceToInt] at t_11_3
      refine lv_lload_n hx hb dX7_isItem_14 rfl (lv_at hl 0 rfl) ?_
      refine lv_ldc2 (v := (-2)) hx hb hown (hts (.constantLong RX7 262 (-2)) (List.mem_of_getElem? (i := 2) rfl)) dX7_isItem_15 ?_
      refine W.lcmp hx hb dX7_isItem_18 ?_
      refine lv_if_eq (tgt := 30) hx hb dX7_isItem_19 (by decide) (fun c_19_4 => ?_) (fun c_19_4 => ?_)
      · have t_19_4 := c_19_4
        try simp only [kb_eq0, kb_ne0, lg_cmp_lt, lg_cmp_le, lg_cmp_gt, lg_cmp_ge, lg_cmp_eq] at t_19_4
        try simp only [Int32.lt_iff_toInt_lt, Int32.le_iff_toInt_le, ← Int32.toInt_inj, Int64.lt_iff_toInt_lt, Int64.le_iff_toInt_le, ← Int64.toInt_inj, Int32.toInt_toInt64, Int32.reduceToInt, Int64.reduceToInt] at t_19_4
        refine lv_iconst (v := 1) hx hb dX7_isItem_30 (by decide) ?_
        refine lv_goto (tgt := 35) hx hb dX7_isItem_31 (by decide) ?_
        refine kIret (u := ()) hx hb hr rfl hlocks hS dX7_isItem_35 ?_ (hP.sub [] rfl) (hD.sub [] (by decide) rfl)
        first
          | exact (kb_t (by omega)).symm
          | exact (kb_f (by omega)).symm
      · have t_19_4 := c_19_4
        try simp only [kb_eq0, kb_ne0, lg_cmp_lt, lg_cmp_le, lg_cmp_gt, lg_cmp_ge, lg_cmp_eq] at t_19_4
        try simp only [Int32.lt_iff_toInt_lt, Int32.le_iff_toInt_le, ← Int32.toInt_inj, Int64.lt_iff_toInt_lt, Int64.le_iff_toInt_le, ← Int64.toInt_inj, Int32.toInt_toInt64, Int32.reduceToInt, Int64.reduceToInt] at t_19_4
        refine lv_lload_n hx hb dX7_isItem_22 rfl (lv_at hl 0 rfl) ?_
        refine lv_ldc2 (v := (-3)) hx hb hown (hts (.constantLong RX7 266 (-3)) (List.mem_of_getElem? (i := 3) rfl)) dX7_isItem_23 ?_
        refine W.lcmp hx hb dX7_isItem_26 ?_
        refine lv_if_ne (tgt := 34) hx hb dX7_isItem_27 (by decide) (fun c_27_5 => ?_) (fun c_27_5 => ?_)
        · have t_27_5 := c_27_5
          try simp only [kb_eq0, kb_ne0, lg_cmp_lt, lg_cmp_le, lg_cmp_gt, lg_cmp_ge, lg_cmp_eq] at t_27_5
          try simp only [Int32.lt_iff_toInt_lt, Int32.le_iff_toInt_le, ← Int32.toInt_inj, Int64.lt_iff_toInt_lt, Int64.le_iff_toInt_le, ← Int64.toInt_inj, Int32.toInt_toInt64, Int32.reduceToInt, Int64.reduceToInt] at t_27_5
          refine lv_iconst (v := 0) hx hb dX7_isItem_34 (by decide) ?_
          refine kIret (u := ()) hx hb hr rfl hlocks hS dX7_isItem_35 ?_ (hP.sub [] rfl) (hD.sub [] (by decide) rfl)
          first
            | exact (kb_t (by omega)).symm
            | exact (kb_f (by omega)).symm
        · have t_27_5 := c_27_5
          try simp only [kb_eq0, kb_ne0, lg_cmp_lt, lg_cmp_le, lg_cmp_gt, lg_cmp_ge, lg_cmp_eq] at t_27_5
          try simp only [Int32.lt_iff_toInt_lt, Int32.le_iff_toInt_le, ← Int32.toInt_inj, Int64.lt_iff_toInt_lt, Int64.le_iff_toInt_le, ← Int64.toInt_inj, Int32.toInt_toInt64, Int32.reduceToInt, Int64.reduceToInt] at t_27_5
          refine lv_iconst (v := 1) hx hb dX7_isItem_30 (by decide) ?_
          refine lv_goto (tgt := 35) hx hb dX7_isItem_31 (by decide) ?_
          refine kIret (u := ()) hx hb hr rfl hlocks hS dX7_isItem_35 ?_ (hP.sub [] rfl) (hD.sub [] (by decide) rfl)
          first
            | exact (kb_t (by omega)).symm
            | exact (kb_f (by omega)).symm
def kMost (w : Int32) : Int64 := if w = 0 ∨ w = 2 ∨ w = 4 then 1 else if w = 1 then 137438953471 else if w = 3 then 34359738367 else if w = 5 then 511 else -1
theorem kMost_out {w : Int32} (h : w.toInt < 0 ∨ 5 < w.toInt) : kMost w = -1 := by
  have f : ∀ k : Int32, 0 ≤ k.toInt ∧ k.toInt ≤ 5 → ¬ w = k := fun k hk e => by subst e; omega
  unfold kMost
  rw [if_neg (by rintro (e | e | e); exact f 0 (by decide) e; exact f 2 (by decide) e; exact f 4 (by decide) e), if_neg (f 1 (by decide)), if_neg (f 3 (by decide)), if_neg (f 5 (by decide))]
set_option maxRecDepth 100000 in
set_option maxHeartbeats 4000000 in
theorem g_most (l : Launch) (D : va_G) (cI cL cB cZ cT : ClassId) (sz : Nat) (w : Int32) : kM (S := Unit) l yX7_mostOfRegister wsX7_mostOfRegister ({ frames := 0, cells := 0, slots := 0, locals := 0 }) D (kT cI cL cB cZ cT) [.int w] [] sz eL (fun r _ => r = (kMost w)) (fun _ => []) 0 0 := by
  refine kStart (cc := cX7_mostOfRegister) (maxL := 1) (ret := (some .long)) (own := RX7) (by decide) rfl rfl (Nat.le_of_ble_eq_true rfl) ?_
  intro p e s m args below meth c A ls hx hb hr hml hown hts hlocks hnm hsz hA hG hP hD hS hl
  have hK := hG.1
  have hl : lv_has ls 1 [(0, .int w)] := hl
  refine lv_iload_n hx hb dX7_mostOfRegister_0 rfl (lv_at hl 0 rfl) ?_
  rcases ksw_0_5 w with hsw | rfl | rfl | rfl | rfl | rfl | rfl
  · refine lv_tableOut (tgt := 54) hx hb dX7_mostOfRegister_1 hsw (by decide) ?_
    refine lv_ldc2 (v := (-1)) hx hb hown (hts (.constantLong RX7 61 (-1)) (List.mem_of_getElem? (i := 4) rfl)) dX7_mostOfRegister_54 ?_
    refine kLret (u := ()) hx hb hr hlocks hS dX7_mostOfRegister_57 ?_ (hP.sub [] rfl) (hD.sub [] (by decide) rfl)
    first
      | decide
      | exact (kMost_out hsw).symm
  · refine lv_tableIn (tgt := 40) (off := 39) hx hb dX7_mostOfRegister_1 (by decide) (by decide) (by decide) (by decide) ?_
    refine lv_lconst (v := 1) hx hb dX7_mostOfRegister_40 (by decide) ?_
    refine kLret (u := ()) hx hb hr hlocks hS dX7_mostOfRegister_41 ?_ (hP.sub [] rfl) (hD.sub [] (by decide) rfl)
    first
      | decide
      | exact (kMost_out hsw).symm
  · refine lv_tableIn (tgt := 42) (off := 41) hx hb dX7_mostOfRegister_1 (by decide) (by decide) (by decide) (by decide) ?_
    refine lv_ldc2 (v := 137438953471) hx hb hown (hts (.constantLong RX7 268 (137438953471)) (List.mem_of_getElem? (i := 1) rfl)) dX7_mostOfRegister_42 ?_
    refine kLret (u := ()) hx hb hr hlocks hS dX7_mostOfRegister_45 ?_ (hP.sub [] rfl) (hD.sub [] (by decide) rfl)
    first
      | decide
      | exact (kMost_out hsw).symm
  · refine lv_tableIn (tgt := 40) (off := 39) hx hb dX7_mostOfRegister_1 (by decide) (by decide) (by decide) (by decide) ?_
    refine lv_lconst (v := 1) hx hb dX7_mostOfRegister_40 (by decide) ?_
    refine kLret (u := ()) hx hb hr hlocks hS dX7_mostOfRegister_41 ?_ (hP.sub [] rfl) (hD.sub [] (by decide) rfl)
    first
      | decide
      | exact (kMost_out hsw).symm
  · refine lv_tableIn (tgt := 46) (off := 45) hx hb dX7_mostOfRegister_1 (by decide) (by decide) (by decide) (by decide) ?_
    refine lv_ldc2 (v := 34359738367) hx hb hown (hts (.constantLong RX7 270 (34359738367)) (List.mem_of_getElem? (i := 2) rfl)) dX7_mostOfRegister_46 ?_
    refine kLret (u := ()) hx hb hr hlocks hS dX7_mostOfRegister_49 ?_ (hP.sub [] rfl) (hD.sub [] (by decide) rfl)
    first
      | decide
      | exact (kMost_out hsw).symm
  · refine lv_tableIn (tgt := 40) (off := 39) hx hb dX7_mostOfRegister_1 (by decide) (by decide) (by decide) (by decide) ?_
    refine lv_lconst (v := 1) hx hb dX7_mostOfRegister_40 (by decide) ?_
    refine kLret (u := ()) hx hb hr hlocks hS dX7_mostOfRegister_41 ?_ (hP.sub [] rfl) (hD.sub [] (by decide) rfl)
    first
      | decide
      | exact (kMost_out hsw).symm
  · refine lv_tableIn (tgt := 50) (off := 49) hx hb dX7_mostOfRegister_1 (by decide) (by decide) (by decide) (by decide) ?_
    refine lv_ldc2 (v := 511) hx hb hown (hts (.constantLong RX7 272 (511)) (List.mem_of_getElem? (i := 3) rfl)) dX7_mostOfRegister_50 ?_
    refine kLret (u := ()) hx hb hr hlocks hS dX7_mostOfRegister_53 ?_ (hP.sub [] rfl) (hD.sub [] (by decide) rfl)
    first
      | decide
      | exact (kMost_out hsw).symm
set_option maxRecDepth 100000 in
set_option maxHeartbeats 4000000 in
theorem g_bitOf (l : Launch) (D : va_G) (cI cL cB cZ cT : ClassId) (sz : Nat) (k : Int32) : kM (S := Unit) l yX7_bitOf wsX7_bitOf ({ frames := 0, cells := 0, slots := 0, locals := 0 }) D (kT cI cL cB cZ cT) [.int k] [] sz eI (fun r _ => r = ((1 : Int32) <<< ((k - 1) &&& 31))) (fun _ => []) 0 0 := by
  refine kStart (cc := cX7_bitOf) (maxL := 1) (ret := (some .int)) (own := RX7) (by decide) rfl rfl (Nat.le_of_ble_eq_true rfl) ?_
  intro p e s m args below meth c A ls hx hb hr hml hown hts hlocks hnm hsz hA hG hP hD hS hl
  have hK := hG.1
  have hl : lv_has ls 1 [(0, .int k)] := hl
  refine lv_iconst (v := 1) hx hb dX7_bitOf_0 (by decide) ?_
  refine lv_iload_n hx hb dX7_bitOf_1 rfl (lv_at hl 0 rfl) ?_
  refine lv_iconst (v := 1) hx hb dX7_bitOf_2 (by decide) ?_
  refine lv_isub hx hb dX7_bitOf_3 ?_
  refine lv_ishl hx hb dX7_bitOf_4 ?_
  refine kIret (u := ()) hx hb hr rfl hlocks hS dX7_bitOf_5 ?_ (hP.sub [] rfl) (hD.sub [] (by decide) rfl)
  exact rfl
set_option maxRecDepth 100000 in
set_option maxHeartbeats 4000000 in
theorem g_wordOf (l : Launch) (D : va_G) (cI cL cB cZ cT : ClassId) (sz : Nat) (a : Int32) (v : Int64) : kM (S := Unit) l yX7_wordOf wsX7_wordOf ({ frames := 0, cells := 0, slots := 0, locals := 0 }) D (kT cI cL cB cZ cT) [.int a, .long v] [] sz eL (fun _ _ => True) (fun _ => []) 0 0 := by
  refine kStart (cc := cX7_wordOf) (maxL := 3) (ret := (some .long)) (own := RX7) (by decide) rfl rfl (Nat.le_of_ble_eq_true rfl) ?_
  intro p e s m args below meth c A ls hx hb hr hml hown hts hlocks hnm hsz hA hG hP hD hS hl
  have hK := hG.1
  have hl : lv_has ls 3 [(0, .int a), (1, .long v)] := hl
  refine lv_iload_n hx hb dX7_wordOf_0 rfl (lv_at hl 0 rfl) ?_
  refine lv_i2l hx hb dX7_wordOf_1 rfl ?_
  refine lv_bipush (v := 35) hx hb dX7_wordOf_2 (by decide) ?_
  refine lv_lshl hx hb dX7_wordOf_4 rfl ?_
  refine lv_lload_n hx hb dX7_wordOf_5 rfl (lv_at hl 1 rfl) ?_
  refine lv_ldc2 (v := 34359738367) hx hb hown (hts (.constantLong RX7 270 (34359738367)) (List.mem_of_getElem? (i := 1) rfl)) dX7_wordOf_6 ?_
  refine lv_land hx hb dX7_wordOf_9 ?_
  refine lv_lor hx hb dX7_wordOf_10 ?_
  refine kLret (u := ()) hx hb hr hlocks hS dX7_wordOf_11 ?_ (hP.sub [] rfl) (hD.sub [] (by decide) rfl)
  exact trivial
set_option maxRecDepth 100000 in
set_option maxHeartbeats 4000000 in
theorem g_wants (l : Launch) (D : va_G) (cI cL cB cZ cT : ClassId) (sz : Nat) (a : Int32) : kM (S := Unit) l yX7_wantsHalfOfStore wsX7_wantsHalfOfStore ({ frames := 0, cells := 0, slots := 0, locals := 0 }) D (kT cI cL cB cZ cT) [.int a] [] sz eI (fun r _ => r = 0 ∨ r = 1) (fun _ => []) 0 0 := by
  refine kStart (cc := cX7_wantsHalfOfStore) (maxL := 1) (ret := (some .boolean)) (own := RX7) (by decide) rfl rfl (Nat.le_of_ble_eq_true rfl) ?_
  intro p e s m args below meth c A ls hx hb hr hml hown hts hlocks hnm hsz hA hG hP hD hS hl
  have hK := hG.1
  have hl : lv_has ls 1 [(0, .int a)] := hl
  refine lv_iload_n hx hb dX7_wantsHalfOfStore_0 rfl (lv_at hl 0 rfl) ?_
  refine lv_bipush (v := 18) hx hb dX7_wantsHalfOfStore_1 (by decide) ?_
  refine lv_icmp_gt (tgt := 12) hx hb dX7_wantsHalfOfStore_3 (by decide) (fun c_3_0 => ?_) (fun c_3_0 => ?_)
  · have t_3_0 := c_3_0
    try simp only [kb_eq0, kb_ne0, lg_cmp_lt, lg_cmp_le, lg_cmp_gt, lg_cmp_ge, lg_cmp_eq] at t_3_0
    try simp only [Int32.lt_iff_toInt_lt, Int32.le_iff_toInt_le, ← Int32.toInt_inj, Int64.lt_iff_toInt_lt, Int64.le_iff_toInt_le, ← Int64.toInt_inj, Int32.toInt_toInt64, Int32.reduceToInt, Int64.reduceToInt] at t_3_0
    refine lv_iload_n hx hb dX7_wantsHalfOfStore_12 rfl (lv_at hl 0 rfl) ?_
    refine lv_bipush (v := 31) hx hb dX7_wantsHalfOfStore_13 (by decide) ?_
    refine lv_icmp_ne (tgt := 22) hx hb dX7_wantsHalfOfStore_15 (by decide) (fun c_15_1 => ?_) (fun c_15_1 => ?_)
    · have t_15_1 := c_15_1
      try simp only [kb_eq0, kb_ne0, lg_cmp_lt, lg_cmp_le, lg_cmp_gt, lg_cmp_ge, lg_cmp_eq] at t_15_1
      try simp only [Int32.lt_iff_toInt_lt, Int32.le_iff_toInt_le, ← Int32.toInt_inj, Int64.lt_iff_toInt_lt, Int64.le_iff_toInt_le, ← Int64.toInt_inj, Int32.toInt_toInt64, Int32.reduceToInt, Int64.reduceToInt] at t_15_1
      refine lv_iconst (v := 0) hx hb dX7_wantsHalfOfStore_22 (by decide) ?_
      refine kIret (u := ()) hx hb hr rfl hlocks hS dX7_wantsHalfOfStore_23 ?_ (hP.sub [] rfl) (hD.sub [] (by decide) rfl)
      first
        | exact Or.inl rfl
        | exact Or.inr rfl
        | assumption
    · have t_15_1 := c_15_1
      try simp only [kb_eq0, kb_ne0, lg_cmp_lt, lg_cmp_le, lg_cmp_gt, lg_cmp_ge, lg_cmp_eq] at t_15_1
      try simp only [Int32.lt_iff_toInt_lt, Int32.le_iff_toInt_le, ← Int32.toInt_inj, Int64.lt_iff_toInt_lt, Int64.le_iff_toInt_le, ← Int64.toInt_inj, Int32.toInt_toInt64, Int32.reduceToInt, Int64.reduceToInt] at t_15_1
      refine lv_iconst (v := 1) hx hb dX7_wantsHalfOfStore_18 (by decide) ?_
      refine lv_goto (tgt := 23) hx hb dX7_wantsHalfOfStore_19 (by decide) ?_
      refine kIret (u := ()) hx hb hr rfl hlocks hS dX7_wantsHalfOfStore_23 ?_ (hP.sub [] rfl) (hD.sub [] (by decide) rfl)
      first
        | exact Or.inl rfl
        | exact Or.inr rfl
        | assumption
  · have t_3_0 := c_3_0
    try simp only [kb_eq0, kb_ne0, lg_cmp_lt, lg_cmp_le, lg_cmp_gt, lg_cmp_ge, lg_cmp_eq] at t_3_0
    try simp only [Int32.lt_iff_toInt_lt, Int32.le_iff_toInt_le, ← Int32.toInt_inj, Int64.lt_iff_toInt_lt, Int64.le_iff_toInt_le, ← Int64.toInt_inj, Int32.toInt_toInt64, Int32.reduceToInt, Int64.reduceToInt] at t_3_0
    refine lv_iload_n hx hb dX7_wantsHalfOfStore_6 rfl (lv_at hl 0 rfl) ?_
    refine lv_bipush (v := 8) hx hb dX7_wantsHalfOfStore_7 (by decide) ?_
    refine lv_icmp_ne (tgt := 18) hx hb dX7_wantsHalfOfStore_9 (by decide) (fun c_9_2 => ?_) (fun c_9_2 => ?_)
    · have t_9_2 := c_9_2
      try simp only [kb_eq0, kb_ne0, lg_cmp_lt, lg_cmp_le, lg_cmp_gt, lg_cmp_ge, lg_cmp_eq] at t_9_2
      try simp only [Int32.lt_iff_toInt_lt, Int32.le_iff_toInt_le, ← Int32.toInt_inj, Int64.lt_iff_toInt_lt, Int64.le_iff_toInt_le, ← Int64.toInt_inj, Int32.toInt_toInt64, Int32.reduceToInt, Int64.reduceToInt] at t_9_2
      refine lv_iconst (v := 1) hx hb dX7_wantsHalfOfStore_18 (by decide) ?_
      refine lv_goto (tgt := 23) hx hb dX7_wantsHalfOfStore_19 (by decide) ?_
      refine kIret (u := ()) hx hb hr rfl hlocks hS dX7_wantsHalfOfStore_23 ?_ (hP.sub [] rfl) (hD.sub [] (by decide) rfl)
      first
        | exact Or.inl rfl
        | exact Or.inr rfl
        | assumption
    · have t_9_2 := c_9_2
      try simp only [kb_eq0, kb_ne0, lg_cmp_lt, lg_cmp_le, lg_cmp_gt, lg_cmp_ge, lg_cmp_eq] at t_9_2
      try simp only [Int32.lt_iff_toInt_lt, Int32.le_iff_toInt_le, ← Int32.toInt_inj, Int64.lt_iff_toInt_lt, Int64.le_iff_toInt_le, ← Int64.toInt_inj, Int32.toInt_toInt64, Int32.reduceToInt, Int64.reduceToInt] at t_9_2
      refine lv_iload_n hx hb dX7_wantsHalfOfStore_12 rfl (lv_at hl 0 rfl) ?_
      refine lv_bipush (v := 31) hx hb dX7_wantsHalfOfStore_13 (by decide) ?_
      refine lv_icmp_ne (tgt := 22) hx hb dX7_wantsHalfOfStore_15 (by decide) (fun c_15_3 => ?_) (fun c_15_3 => ?_)
      · have t_15_3 := c_15_3
        try simp only [kb_eq0, kb_ne0, lg_cmp_lt, lg_cmp_le, lg_cmp_gt, lg_cmp_ge, lg_cmp_eq] at t_15_3
        try simp only [Int32.lt_iff_toInt_lt, Int32.le_iff_toInt_le, ← Int32.toInt_inj, Int64.lt_iff_toInt_lt, Int64.le_iff_toInt_le, ← Int64.toInt_inj, Int32.toInt_toInt64, Int32.reduceToInt, Int64.reduceToInt] at t_15_3
        refine lv_iconst (v := 0) hx hb dX7_wantsHalfOfStore_22 (by decide) ?_
        refine kIret (u := ()) hx hb hr rfl hlocks hS dX7_wantsHalfOfStore_23 ?_ (hP.sub [] rfl) (hD.sub [] (by decide) rfl)
        first
          | exact Or.inl rfl
          | exact Or.inr rfl
          | assumption
      · have t_15_3 := c_15_3
        try simp only [kb_eq0, kb_ne0, lg_cmp_lt, lg_cmp_le, lg_cmp_gt, lg_cmp_ge, lg_cmp_eq] at t_15_3
        try simp only [Int32.lt_iff_toInt_lt, Int32.le_iff_toInt_le, ← Int32.toInt_inj, Int64.lt_iff_toInt_lt, Int64.le_iff_toInt_le, ← Int64.toInt_inj, Int32.toInt_toInt64, Int32.reduceToInt, Int64.reduceToInt] at t_15_3
        refine lv_iconst (v := 1) hx hb dX7_wantsHalfOfStore_18 (by decide) ?_
        refine lv_goto (tgt := 23) hx hb dX7_wantsHalfOfStore_19 (by decide) ?_
        refine kIret (u := ()) hx hb hr rfl hlocks hS dX7_wantsHalfOfStore_23 ?_ (hP.sub [] rfl) (hD.sub [] (by decide) rfl)
        first
          | exact Or.inl rfl
          | exact Or.inr rfl
          | assumption
set_option maxRecDepth 100000 in
theorem iX3_halfAt_X3 : ∀ w ∈ wsX30, w ∈ wsX3_halfAt := fun w h => (goodIn_r (big := wsX3_halfAt) wsX30 [5] rfl (by decide +kernel) w h).1
set_option maxRecDepth 100000 in
set_option maxHeartbeats 4000000 in
theorem g_halfAt (l : Launch) (D : va_G) (cI cL cB cZ cT : ClassId) (sz : Nat) (aS bS : Nat) (f : Nat → Int32) (n : Int32) : kM (S := Unit) l yX3_halfAt wsX3_halfAt ({ frames := 1, cells := 0, slots := 0, locals := 20 }) D (kT cI cL cB cZ cT) [.ref aS, .int n] [(aS, .inr (3, [.ref bS])), (bS, .inl (cI, 512, .inl f))] sz eI (fun _ _ => True) (fun _ => [(aS, .inr (3, [.ref bS])), (bS, .inl (cI, 512, .inl f))]) 0 0 := by
  refine kStart (cc := cX3_halfAt) (maxL := 2) (ret := (some .int)) (own := RX3) (by decide) rfl rfl (Nat.le_of_ble_eq_true rfl) ?_
  intro p e s m args below meth c A ls hx hb hr hml hown hts hlocks hnm hsz hA hG hP hD hS hl
  have hK := hG.1
  have hl : lv_has ls 2 [(0, .ref aS), (1, .int n)] := hl
  refine lv_iload_n hx hb dX3_halfAt_0 rfl (lv_at hl 1 rfl) ?_
  refine kCallI (wr := [(aS, .inr (3, [.ref bS])), (bS, .inl (cI, 512, .inl f))]) (va_runSN (As := [.int n]) (rest := []) ⟨hx, hb, hml, hown, hts⟩ (g_isHalf l D cI cL cB cZ cT _ n) ⟨va_cnB 1 hts gX3_halfAt_X7_isHalf_n15 rfl rfl rfl hG.2.1 (hts (.initialized RX7) (List.mem_of_getElem? (i := 3) rfl)) (by decide +kernel) ⟨Nat.le_of_ble_eq_true rfl, Nat.le_of_ble_eq_true rfl⟩, hts (.static yX7_isHalf) (by decide +kernel), trivial⟩ (kPreS hG hP hD [] rfl (by decide)) rfl rfl hl.1 rfl (lv_room (Nat.le_of_ble_eq_true rfl)) dX3_halfAt_1 ⟨Nat.le_of_ble_eq_true rfl, Nat.le_of_ble_eq_true rfl⟩) hA hP hD hS [] [0, 1] rfl rfl (by decide) (by decide) (fun r_1 u_r_1 H locs wr_1 hP hD hS => ?_)
  have hP : va_P D vwCl [(aS, .inr (3, [.ref bS])), (bS, .inl (cI, 512, .inl f))] H := hP
  have hD : va_D A [(aS, .inr (3, [.ref bS])), (bS, .inl (cI, 512, .inl f))] := hD
  try dsimp only at wr_1
  subst wr_1
  refine lv_if_eq (tgt := 16) hx hb dX3_halfAt_4 (by decide) (fun c_4_1 => ?_) (fun c_4_1 => ?_)
  · have t_4_1 := c_4_1
    try simp only [kb_eq0, kb_ne0, lg_cmp_lt, lg_cmp_le, lg_cmp_gt, lg_cmp_ge, lg_cmp_eq] at t_4_1
    try simp only [Int32.lt_iff_toInt_lt, Int32.le_iff_toInt_le, ← Int32.toInt_inj, Int64.lt_iff_toInt_lt, Int64.le_iff_toInt_le, ← Int64.toInt_inj, Int32.toInt_toInt64, Int32.reduceToInt, Int64.reduceToInt] at t_4_1
    refine lv_iconst (v := 0) hx hb dX3_halfAt_16 (by decide) ?_
    refine kIret (u := ()) hx hb hr rfl hlocks hS dX3_halfAt_17 ?_ (hP.sub [0, 1] rfl) (hD.sub [0, 1] (by decide) rfl)
    exact trivial
  · have t_4_1 := c_4_1
    try simp only [kb_eq0, kb_ne0, lg_cmp_lt, lg_cmp_le, lg_cmp_gt, lg_cmp_ge, lg_cmp_eq] at t_4_1
    try simp only [Int32.lt_iff_toInt_lt, Int32.le_iff_toInt_le, ← Int32.toInt_inj, Int64.lt_iff_toInt_lt, Int64.le_iff_toInt_le, ← Int64.toInt_inj, Int32.toInt_toInt64, Int32.reduceToInt, Int64.reduceToInt] at t_4_1
    refine lv_aload_n hx hb dX3_halfAt_7 rfl (lv_at hl 0 rfl) ?_
    refine va_get (D := D) (ci := 3) (v := .ref bS) (C := RX3) (T := TX3) (N := 1) hx hb hts iX3_halfAt_X3 hown hK hP 0 rfl rfl 0 (by decide) (hts (.fieldLink RX3 9 "TapeCalculator$Store" "halves" "[I") (List.mem_of_getElem? (i := 1) rfl)) (fun _ h9 => h9) rfl dX3_halfAt_8 ?_
    refine lv_iload_n hx hb dX3_halfAt_11 rfl (lv_at hl 1 rfl) ?_
    refine va_iald hx hb hK hP 1 0 rfl rfl (vp_in_iff.mpr (by omega)) dX3_halfAt_12 ?_
    refine lv_goto (tgt := 17) hx hb dX3_halfAt_13 (by decide) ?_
    refine kIret (u := ()) hx hb hr rfl hlocks hS dX3_halfAt_17 ?_ (hP.sub [0, 1] rfl) (hD.sub [0, 1] (by decide) rfl)
    exact trivial
set_option maxRecDepth 100000 in
theorem iX3_keepHalf_X3 : ∀ w ∈ wsX30, w ∈ wsX3_keepHalf := fun w h => (goodIn_r (big := wsX3_keepHalf) wsX30 [6] rfl (by decide +kernel) w h).1
set_option maxRecDepth 100000 in
set_option maxHeartbeats 4000000 in
theorem g_keepHalf (l : Launch) (D : va_G) (cI cL cB cZ cT : ClassId) (sz : Nat) (aS bS : Nat) (f : Nat → Int32) (n b : Int32) : kM (S := ((Nat → Int32))) l yX3_keepHalf wsX3_keepHalf ({ frames := 1, cells := 0, slots := 0, locals := 20 }) D (kT cI cL cB cZ cT) [.ref aS, .int n, .int b] [(aS, .inr (3, [.ref bS])), (bS, .inl (cI, 512, .inl f))] sz eV (fun _ _ => True) (fun u => [(aS, .inr (3, [.ref bS])), (bS, .inl (cI, 512, .inl u))]) 0 0 := by
  refine kStart (cc := cX3_keepHalf) (maxL := 3) (ret := none) (own := RX3) (by decide) rfl rfl (Nat.le_of_ble_eq_true rfl) ?_
  intro p e s m args below meth c A ls hx hb hr hml hown hts hlocks hnm hsz hA hG hP hD hS hl
  have hK := hG.1
  have hl : lv_has ls 3 [(0, .ref aS), (1, .int n), (2, .int b)] := hl
  refine lv_iload_n hx hb dX3_keepHalf_0 rfl (lv_at hl 1 rfl) ?_
  refine kCallI (wr := [(aS, .inr (3, [.ref bS])), (bS, .inl (cI, 512, .inl f))]) (va_runSN (As := [.int n]) (rest := []) ⟨hx, hb, hml, hown, hts⟩ (g_isHalf l D cI cL cB cZ cT _ n) ⟨va_cnB 1 hts gX3_keepHalf_X7_isHalf_n15 rfl rfl rfl hG.2.1 (hts (.initialized RX7) (List.mem_of_getElem? (i := 4) rfl)) (by decide +kernel) ⟨Nat.le_of_ble_eq_true rfl, Nat.le_of_ble_eq_true rfl⟩, hts (.static yX7_isHalf) (by decide +kernel), trivial⟩ (kPreS hG hP hD [] rfl (by decide)) rfl rfl hl.1 rfl (lv_room (Nat.le_of_ble_eq_true rfl)) dX3_keepHalf_1 ⟨Nat.le_of_ble_eq_true rfl, Nat.le_of_ble_eq_true rfl⟩) hA hP hD hS [] [0, 1] rfl rfl (by decide) (by decide) (fun r_1 u_r_1 H locs wr_1 hP hD hS => ?_)
  have hP : va_P D vwCl [(aS, .inr (3, [.ref bS])), (bS, .inl (cI, 512, .inl f))] H := hP
  have hD : va_D A [(aS, .inr (3, [.ref bS])), (bS, .inl (cI, 512, .inl f))] := hD
  try dsimp only at wr_1
  subst wr_1
  refine lv_if_eq (tgt := 17) hx hb dX3_keepHalf_4 (by decide) (fun c_4_1 => ?_) (fun c_4_1 => ?_)
  · have t_4_1 := c_4_1
    try simp only [kb_eq0, kb_ne0, lg_cmp_lt, lg_cmp_le, lg_cmp_gt, lg_cmp_ge, lg_cmp_eq] at t_4_1
    try simp only [Int32.lt_iff_toInt_lt, Int32.le_iff_toInt_le, ← Int32.toInt_inj, Int64.lt_iff_toInt_lt, Int64.le_iff_toInt_le, ← Int64.toInt_inj, Int32.toInt_toInt64, Int32.reduceToInt, Int64.reduceToInt] at t_4_1
    refine kVret (u := f) hx hb hr hlocks hS dX3_keepHalf_17 ?_ (hP.sub [0, 1] rfl) (hD.sub [0, 1] (by decide) rfl)
    exact trivial
  · have t_4_1 := c_4_1
    try simp only [kb_eq0, kb_ne0, lg_cmp_lt, lg_cmp_le, lg_cmp_gt, lg_cmp_ge, lg_cmp_eq] at t_4_1
    try simp only [Int32.lt_iff_toInt_lt, Int32.le_iff_toInt_le, ← Int32.toInt_inj, Int64.lt_iff_toInt_lt, Int64.le_iff_toInt_le, ← Int64.toInt_inj, Int32.toInt_toInt64, Int32.reduceToInt, Int64.reduceToInt] at t_4_1
    refine lv_aload_n hx hb dX3_keepHalf_7 rfl (lv_at hl 0 rfl) ?_
    refine va_get (D := D) (ci := 3) (v := .ref bS) (C := RX3) (T := TX3) (N := 1) hx hb hts iX3_keepHalf_X3 hown hK hP 0 rfl rfl 0 (by decide) (hts (.fieldLink RX3 9 "TapeCalculator$Store" "halves" "[I") (List.mem_of_getElem? (i := 1) rfl)) (fun _ h9 => h9) rfl dX3_keepHalf_8 ?_
    refine lv_iload_n hx hb dX3_keepHalf_11 rfl (lv_at hl 1 rfl) ?_
    refine lv_iload_n hx hb dX3_keepHalf_12 rfl (lv_at hl 2 rfl) ?_
    refine lv_ldc (v := 262143) hx hb hown (hts (.constant RX3 19 (262143)) (List.mem_of_getElem? (i := 2) rfl)) dX3_keepHalf_13 ?_
    refine lv_iand hx hb dX3_keepHalf_15 ?_
    refine va_iast hx hb hK hP hD hS 1 0 rfl rfl (vp_in_iff.mpr (by omega)) dX3_keepHalf_16 (fun H locs hP hD hS => ?_)
    have hP : va_P D vwCl [(aS, .inr (3, [.ref bS])), (bS, .inl (cI, 512, .inl (upd f n.toNatClampNeg (b &&& 262143))))] H := hP
    have hD : va_D A [(aS, .inr (3, [.ref bS])), (bS, .inl (cI, 512, .inl (upd f n.toNatClampNeg (b &&& 262143))))] := hD
    refine kVret (u := (upd f n.toNatClampNeg (b &&& 262143))) hx hb hr hlocks hS dX3_keepHalf_17 ?_ (hP.sub [0, 1] rfl) (hD.sub [0, 1] (by decide) rfl)
    exact trivial
set_option maxRecDepth 100000 in
set_option maxHeartbeats 4000000 in
theorem g_wholeAt (l : Launch) (D : va_G) (cI cL cB cZ cT : ClassId) (sz : Nat) (aS bS : Nat) (f : Nat → Int32) (n : Int32) : kM (S := Unit) l yX3_wholeAt wsX3_wholeAt ({ frames := 2, cells := 0, slots := 0, locals := 41 }) D (kT cI cL cB cZ cT) [.ref aS, .int n] [(aS, .inr (3, [.ref bS])), (bS, .inl (cI, 512, .inl f))] sz eL (fun _ _ => True) (fun _ => [(aS, .inr (3, [.ref bS])), (bS, .inl (cI, 512, .inl f))]) 0 0 := by
  refine kStart (cc := cX3_wholeAt) (maxL := 2) (ret := (some .long)) (own := RX3) (by decide) rfl rfl (Nat.le_of_ble_eq_true rfl) ?_
  intro p e s m args below meth c A ls hx hb hr hml hown hts hlocks hnm hsz hA hG hP hD hS hl
  have hK := hG.1
  have hl : lv_has ls 2 [(0, .ref aS), (1, .int n)] := hl
  refine lv_aload_n hx hb dX3_wholeAt_0 rfl (lv_at hl 0 rfl) ?_
  refine lv_iload_n hx hb dX3_wholeAt_1 rfl (lv_at hl 1 rfl) ?_
  refine kCallI (wr := []) (va_runV (As := [.int n]) (rest := []) ⟨hx, hb, hml, hown, hts⟩ (g_halfAt l D cI cL cB cZ cT _ aS bS f n) (cwV 1 hts gX3_wholeAt_X3_halfAt rfl rfl rfl (by decide +kernel) ⟨Nat.le_of_ble_eq_true rfl, Nat.le_of_ble_eq_true rfl⟩) (kPreV hG hP hD [0, 1] rfl (by decide) 0 3 rfl rfl rfl) rfl rfl hl.1 rfl (lv_room (Nat.le_of_ble_eq_true rfl)) dX3_wholeAt_2 ⟨Nat.le_of_ble_eq_true rfl, Nat.le_of_ble_eq_true rfl⟩) hA hP hD hS [0, 1] [] rfl rfl (by decide) (by decide) (fun r_1 u_r_1 H locs wr_1 hP hD hS => ?_)
  have hP : va_P D vwCl [(aS, .inr (3, [.ref bS])), (bS, .inl (cI, 512, .inl f))] H := hP
  have hD : va_D A [(aS, .inr (3, [.ref bS])), (bS, .inl (cI, 512, .inl f))] := hD
  try dsimp only at wr_1
  refine lv_i2l hx hb dX3_wholeAt_5 rfl ?_
  refine lv_bipush (v := 18) hx hb dX3_wholeAt_6 (by decide) ?_
  refine lv_lshl hx hb dX3_wholeAt_8 rfl ?_
  refine lv_aload_n hx hb dX3_wholeAt_9 rfl (lv_at hl 0 rfl) ?_
  refine lv_iload_n hx hb dX3_wholeAt_10 rfl (lv_at hl 1 rfl) ?_
  refine lv_iconst (v := 1) hx hb dX3_wholeAt_11 (by decide) ?_
  refine lv_iadd hx hb dX3_wholeAt_12 ?_
  refine kCallI (wr := []) (va_runV (As := [.int (n + 1)]) (rest := [.long (r_1.toInt64 <<< ((18 : Int32).toInt64 &&& 63))]) ⟨hx, hb, hml, hown, hts⟩ (g_halfAt l D cI cL cB cZ cT _ aS bS f (n + 1)) (cwV 1 hts gX3_wholeAt_X3_halfAt rfl rfl rfl (by decide +kernel) ⟨Nat.le_of_ble_eq_true rfl, Nat.le_of_ble_eq_true rfl⟩) (kPreV hG hP hD [0, 1] rfl (by decide) 0 3 rfl rfl rfl) rfl rfl hl.1 rfl (lv_room (Nat.le_of_ble_eq_true rfl)) dX3_wholeAt_13 ⟨Nat.le_of_ble_eq_true rfl, Nat.le_of_ble_eq_true rfl⟩) hA hP hD hS [0, 1] [] rfl rfl (by decide) (by decide) (fun r_2 u_r_2 H locs wr_2 hP hD hS => ?_)
  have hP : va_P D vwCl [(aS, .inr (3, [.ref bS])), (bS, .inl (cI, 512, .inl f))] H := hP
  have hD : va_D A [(aS, .inr (3, [.ref bS])), (bS, .inl (cI, 512, .inl f))] := hD
  try dsimp only at wr_2
  refine lv_i2l hx hb dX3_wholeAt_16 rfl ?_
  refine lv_lor hx hb dX3_wholeAt_17 ?_
  refine kLret (u := ()) hx hb hr hlocks hS dX3_wholeAt_18 ?_ (hP.sub [0, 1] rfl) (hD.sub [0, 1] (by decide) rfl)
  exact trivial
set_option maxRecDepth 100000 in
set_option maxHeartbeats 4000000 in
theorem g_keepWhole (l : Launch) (D : va_G) (cI cL cB cZ cT : ClassId) (sz : Nat) (aS bS : Nat) (f : Nat → Int32) (n : Int32) (v : Int64) : kM (S := ((Nat → Int32))) l yX3_keepWhole wsX3_keepWhole ({ frames := 2, cells := 0, slots := 0, locals := 42 }) D (kT cI cL cB cZ cT) [.ref aS, .int n, .long v] [(aS, .inr (3, [.ref bS])), (bS, .inl (cI, 512, .inl f))] sz eV (fun _ _ => True) (fun u => [(aS, .inr (3, [.ref bS])), (bS, .inl (cI, 512, .inl u))]) 0 0 := by
  refine kStart (cc := cX3_keepWhole) (maxL := 4) (ret := none) (own := RX3) (by decide) rfl rfl (Nat.le_of_ble_eq_true rfl) ?_
  intro p e s m args below meth c A ls hx hb hr hml hown hts hlocks hnm hsz hA hG hP hD hS hl
  have hK := hG.1
  have hl : lv_has ls 4 [(0, .ref aS), (1, .int n), (2, .long v)] := hl
  refine lv_aload_n hx hb dX3_keepWhole_0 rfl (lv_at hl 0 rfl) ?_
  refine lv_iload_n hx hb dX3_keepWhole_1 rfl (lv_at hl 1 rfl) ?_
  refine lv_lload_n hx hb dX3_keepWhole_2 rfl (lv_at hl 2 rfl) ?_
  refine lv_bipush (v := 18) hx hb dX3_keepWhole_3 (by decide) ?_
  refine lv_lshr hx hb dX3_keepWhole_5 rfl ?_
  refine lv_l2i hx hb dX3_keepWhole_6 rfl ?_
  refine kCallVd (wr := []) (va_runV (As := [.int n, .int (v >>> ((18 : Int32).toInt64 &&& 63)).toInt32]) (rest := []) ⟨hx, hb, hml, hown, hts⟩ (g_keepHalf l D cI cL cB cZ cT _ aS bS f n (v >>> ((18 : Int32).toInt64 &&& 63)).toInt32) (cwV 2 hts gX3_keepWhole_X3_keepHalf rfl rfl rfl (by decide +kernel) ⟨Nat.le_of_ble_eq_true rfl, Nat.le_of_ble_eq_true rfl⟩) (kPreV hG hP hD [0, 1] rfl (by decide) 0 3 rfl rfl rfl) rfl rfl hl.1 rfl (lv_room (Nat.le_of_ble_eq_true rfl)) dX3_keepWhole_7 ⟨Nat.le_of_ble_eq_true rfl, Nat.le_of_ble_eq_true rfl⟩) hA hP hD hS [0, 1] [] rfl rfl (by decide) (by decide) (fun _ u_r_1 H locs wr_1 hP hD hS => ?_)
  have hP : va_P D vwCl [(aS, .inr (3, [.ref bS])), (bS, .inl (cI, 512, .inl u_r_1))] H := hP
  have hD : va_D A [(aS, .inr (3, [.ref bS])), (bS, .inl (cI, 512, .inl u_r_1))] := hD
  try dsimp only at wr_1
  refine lv_aload_n hx hb dX3_keepWhole_10 rfl (lv_at hl 0 rfl) ?_
  refine lv_iload_n hx hb dX3_keepWhole_11 rfl (lv_at hl 1 rfl) ?_
  refine lv_iconst (v := 1) hx hb dX3_keepWhole_12 (by decide) ?_
  refine lv_iadd hx hb dX3_keepWhole_13 ?_
  refine lv_lload_n hx hb dX3_keepWhole_14 rfl (lv_at hl 2 rfl) ?_
  refine lv_ldc2 (v := 262143) hx hb hown (hts (.constantLong RX3 28 (262143)) (List.mem_of_getElem? (i := 1) rfl)) dX3_keepWhole_15 ?_
  refine lv_land hx hb dX3_keepWhole_18 ?_
  refine lv_l2i hx hb dX3_keepWhole_19 rfl ?_
  refine kCallVd (wr := []) (va_runV (As := [.int (n + 1), .int (v &&& 262143).toInt32]) (rest := []) ⟨hx, hb, hml, hown, hts⟩ (g_keepHalf l D cI cL cB cZ cT _ aS bS u_r_1 (n + 1) (v &&& 262143).toInt32) (cwV 2 hts gX3_keepWhole_X3_keepHalf rfl rfl rfl (by decide +kernel) ⟨Nat.le_of_ble_eq_true rfl, Nat.le_of_ble_eq_true rfl⟩) (kPreV hG hP hD [0, 1] rfl (by decide) 0 3 rfl rfl rfl) rfl rfl hl.1 rfl (lv_room (Nat.le_of_ble_eq_true rfl)) dX3_keepWhole_20 ⟨Nat.le_of_ble_eq_true rfl, Nat.le_of_ble_eq_true rfl⟩) hA hP hD hS [0, 1] [] rfl rfl (by decide) (by decide) (fun _ u_r_2 H locs wr_2 hP hD hS => ?_)
  have hP : va_P D vwCl [(aS, .inr (3, [.ref bS])), (bS, .inl (cI, 512, .inl u_r_2))] H := hP
  have hD : va_D A [(aS, .inr (3, [.ref bS])), (bS, .inl (cI, 512, .inl u_r_2))] := hD
  try dsimp only at wr_2
  refine kVret (u := u_r_2) hx hb hr hlocks hS dX3_keepWhole_23 ?_ (hP.sub [0, 1] rfl) (hD.sub [0, 1] (by decide) rfl)
  exact trivial
set_option maxRecDepth 100000 in
set_option maxHeartbeats 4000000 in
theorem g_operand (l : Launch) (D : va_G) (cI cL cB cZ cT : ClassId) (sz : Nat) (aS bS : Nat) (f : Nat → Int32) (z n : Int32) : kM (S := Unit) l yX3_operand wsX3_operand ({ frames := 3, cells := 0, slots := 0, locals := 62 }) D (kT cI cL cB cZ cT) [.ref aS, .int z, .int n] [(aS, .inr (3, [.ref bS])), (bS, .inl (cI, 512, .inl f))] sz eL (fun _ _ => True) (fun _ => [(aS, .inr (3, [.ref bS])), (bS, .inl (cI, 512, .inl f))]) 0 0 := by
  refine kStart (cc := cX3_operand) (maxL := 3) (ret := (some .long)) (own := RX3) (by decide) rfl rfl (Nat.le_of_ble_eq_true rfl) ?_
  intro p e s m args below meth c A ls hx hb hr hml hown hts hlocks hnm hsz hA hG hP hD hS hl
  have hK := hG.1
  have hl : lv_has ls 3 [(0, .ref aS), (1, .int z), (2, .int n)] := hl
  refine lv_iload_n hx hb dX3_operand_0 rfl (lv_at hl 1 rfl) ?_
  refine lv_if_eq (tgt := 15) hx hb dX3_operand_1 (by decide) (fun c_1_0 => ?_) (fun c_1_0 => ?_)
  · have t_1_0 := c_1_0
    try simp only [kb_eq0, kb_ne0, lg_cmp_lt, lg_cmp_le, lg_cmp_gt, lg_cmp_ge, lg_cmp_eq] at t_1_0
    try simp only [Int32.lt_iff_toInt_lt, Int32.le_iff_toInt_le, ← Int32.toInt_inj, Int64.lt_iff_toInt_lt, Int64.le_iff_toInt_le, ← Int64.toInt_inj, Int32.toInt_toInt64, Int32.reduceToInt, Int64.reduceToInt] at t_1_0
    refine lv_aload_n hx hb dX3_operand_15 rfl (lv_at hl 0 rfl) ?_
    refine lv_iload_n hx hb dX3_operand_16 rfl (lv_at hl 2 rfl) ?_
    refine kCallI (wr := []) (va_runV (As := [.int n]) (rest := []) ⟨hx, hb, hml, hown, hts⟩ (g_halfAt l D cI cL cB cZ cT _ aS bS f n) (cwV 1 hts gX3_operand_X3_halfAt rfl rfl rfl (by decide +kernel) ⟨Nat.le_of_ble_eq_true rfl, Nat.le_of_ble_eq_true rfl⟩) (kPreV hG hP hD [0, 1] rfl (by decide) 0 3 rfl rfl rfl) rfl rfl hl.1 rfl (lv_room (Nat.le_of_ble_eq_true rfl)) dX3_operand_17 ⟨Nat.le_of_ble_eq_true rfl, Nat.le_of_ble_eq_true rfl⟩) hA hP hD hS [0, 1] [] rfl rfl (by decide) (by decide) (fun r_2 u_r_2 H locs wr_2 hP hD hS => ?_)
    have hP : va_P D vwCl [(aS, .inr (3, [.ref bS])), (bS, .inl (cI, 512, .inl f))] H := hP
    have hD : va_D A [(aS, .inr (3, [.ref bS])), (bS, .inl (cI, 512, .inl f))] := hD
    try dsimp only at wr_2
    refine lv_i2l hx hb dX3_operand_20 rfl ?_
    refine lv_bipush (v := 18) hx hb dX3_operand_21 (by decide) ?_
    refine lv_lshl hx hb dX3_operand_23 rfl ?_
    refine kLret (u := ()) hx hb hr hlocks hS dX3_operand_24 ?_ (hP.sub [0, 1] rfl) (hD.sub [0, 1] (by decide) rfl)
    exact trivial
  · have t_1_0 := c_1_0
    try simp only [kb_eq0, kb_ne0, lg_cmp_lt, lg_cmp_le, lg_cmp_gt, lg_cmp_ge, lg_cmp_eq] at t_1_0
    try simp only [Int32.lt_iff_toInt_lt, Int32.le_iff_toInt_le, ← Int32.toInt_inj, Int64.lt_iff_toInt_lt, Int64.le_iff_toInt_le, ← Int64.toInt_inj, Int32.toInt_toInt64, Int32.reduceToInt, Int64.reduceToInt] at t_1_0
    refine lv_aload_n hx hb dX3_operand_4 rfl (lv_at hl 0 rfl) ?_
    refine lv_iload_n hx hb dX3_operand_5 rfl (lv_at hl 2 rfl) ?_
    refine lv_bipush (v := (-2)) hx hb dX3_operand_6 (by decide) ?_
    refine lv_iand hx hb dX3_operand_8 ?_
    refine kCallL (wr := []) (va_runV (As := [.int (n &&& (-2))]) (rest := []) ⟨hx, hb, hml, hown, hts⟩ (g_wholeAt l D cI cL cB cZ cT _ aS bS f (n &&& (-2))) (cwV 1 hts gX3_operand_X3_wholeAt rfl rfl rfl (by decide +kernel) ⟨Nat.le_of_ble_eq_true rfl, Nat.le_of_ble_eq_true rfl⟩) (kPreV hG hP hD [0, 1] rfl (by decide) 0 3 rfl rfl rfl) rfl rfl hl.1 rfl (lv_room (Nat.le_of_ble_eq_true rfl)) dX3_operand_9 ⟨Nat.le_of_ble_eq_true rfl, Nat.le_of_ble_eq_true rfl⟩) hA hP hD hS [0, 1] [] rfl rfl (by decide) (by decide) (fun r_3 u_r_3 H locs wr_3 hP hD hS => ?_)
    have hP : va_P D vwCl [(aS, .inr (3, [.ref bS])), (bS, .inl (cI, 512, .inl f))] H := hP
    have hD : va_D A [(aS, .inr (3, [.ref bS])), (bS, .inl (cI, 512, .inl f))] := hD
    try dsimp only at wr_3
    refine lv_goto (tgt := 24) hx hb dX3_operand_12 (by decide) ?_
    refine kLret (u := ()) hx hb hr hlocks hS dX3_operand_24 ?_ (hP.sub [0, 1] rfl) (hD.sub [0, 1] (by decide) rfl)
    exact trivial
set_option maxRecDepth 100000 in
set_option maxHeartbeats 4000000 in
theorem g_keepOperand (l : Launch) (D : va_G) (cI cL cB cZ cT : ClassId) (sz : Nat) (aS bS : Nat) (f : Nat → Int32) (z n : Int32) (v : Int64) : kM (S := ((Nat → Int32))) l yX3_keepOperand wsX3_keepOperand ({ frames := 3, cells := 0, slots := 0, locals := 65 }) D (kT cI cL cB cZ cT) [.ref aS, .int z, .int n, .long v] [(aS, .inr (3, [.ref bS])), (bS, .inl (cI, 512, .inl f))] sz eV (fun _ _ => True) (fun u => [(aS, .inr (3, [.ref bS])), (bS, .inl (cI, 512, .inl u))]) 0 0 := by
  refine kStart (cc := cX3_keepOperand) (maxL := 5) (ret := none) (own := RX3) (by decide) rfl rfl (Nat.le_of_ble_eq_true rfl) ?_
  intro p e s m args below meth c A ls hx hb hr hml hown hts hlocks hnm hsz hA hG hP hD hS hl
  have hK := hG.1
  have hl : lv_has ls 5 [(0, .ref aS), (1, .int z), (2, .int n), (3, .long v)] := hl
  refine lv_iload_n hx hb dX3_keepOperand_0 rfl (lv_at hl 1 rfl) ?_
  refine lv_if_eq (tgt := 16) hx hb dX3_keepOperand_1 (by decide) (fun c_1_0 => ?_) (fun c_1_0 => ?_)
  · have t_1_0 := c_1_0
    try simp only [kb_eq0, kb_ne0, lg_cmp_lt, lg_cmp_le, lg_cmp_gt, lg_cmp_ge, lg_cmp_eq] at t_1_0
    try simp only [Int32.lt_iff_toInt_lt, Int32.le_iff_toInt_le, ← Int32.toInt_inj, Int64.lt_iff_toInt_lt, Int64.le_iff_toInt_le, ← Int64.toInt_inj, Int32.toInt_toInt64, Int32.reduceToInt, Int64.reduceToInt] at t_1_0
    refine lv_aload_n hx hb dX3_keepOperand_16 rfl (lv_at hl 0 rfl) ?_
    refine lv_iload_n hx hb dX3_keepOperand_17 rfl (lv_at hl 2 rfl) ?_
    refine lv_lload_n hx hb dX3_keepOperand_18 rfl (lv_at hl 3 rfl) ?_
    refine lv_bipush (v := 18) hx hb dX3_keepOperand_19 (by decide) ?_
    refine lv_lshr hx hb dX3_keepOperand_21 rfl ?_
    refine lv_l2i hx hb dX3_keepOperand_22 rfl ?_
    refine kCallVd (wr := []) (va_runV (As := [.int n, .int (v >>> ((18 : Int32).toInt64 &&& 63)).toInt32]) (rest := []) ⟨hx, hb, hml, hown, hts⟩ (g_keepHalf l D cI cL cB cZ cT _ aS bS f n (v >>> ((18 : Int32).toInt64 &&& 63)).toInt32) (cwV 2 hts gX3_keepOperand_X3_keepHalf rfl rfl rfl (by decide +kernel) ⟨Nat.le_of_ble_eq_true rfl, Nat.le_of_ble_eq_true rfl⟩) (kPreV hG hP hD [0, 1] rfl (by decide) 0 3 rfl rfl rfl) rfl rfl hl.1 rfl (lv_room (Nat.le_of_ble_eq_true rfl)) dX3_keepOperand_23 ⟨Nat.le_of_ble_eq_true rfl, Nat.le_of_ble_eq_true rfl⟩) hA hP hD hS [0, 1] [] rfl rfl (by decide) (by decide) (fun _ u_r_2 H locs wr_2 hP hD hS => ?_)
    have hP : va_P D vwCl [(aS, .inr (3, [.ref bS])), (bS, .inl (cI, 512, .inl u_r_2))] H := hP
    have hD : va_D A [(aS, .inr (3, [.ref bS])), (bS, .inl (cI, 512, .inl u_r_2))] := hD
    try dsimp only at wr_2
    refine kVret (u := u_r_2) hx hb hr hlocks hS dX3_keepOperand_26 ?_ (hP.sub [0, 1] rfl) (hD.sub [0, 1] (by decide) rfl)
    exact trivial
  · have t_1_0 := c_1_0
    try simp only [kb_eq0, kb_ne0, lg_cmp_lt, lg_cmp_le, lg_cmp_gt, lg_cmp_ge, lg_cmp_eq] at t_1_0
    try simp only [Int32.lt_iff_toInt_lt, Int32.le_iff_toInt_le, ← Int32.toInt_inj, Int64.lt_iff_toInt_lt, Int64.le_iff_toInt_le, ← Int64.toInt_inj, Int32.toInt_toInt64, Int32.reduceToInt, Int64.reduceToInt] at t_1_0
    refine lv_aload_n hx hb dX3_keepOperand_4 rfl (lv_at hl 0 rfl) ?_
    refine lv_iload_n hx hb dX3_keepOperand_5 rfl (lv_at hl 2 rfl) ?_
    refine lv_bipush (v := (-2)) hx hb dX3_keepOperand_6 (by decide) ?_
    refine lv_iand hx hb dX3_keepOperand_8 ?_
    refine lv_lload_n hx hb dX3_keepOperand_9 rfl (lv_at hl 3 rfl) ?_
    refine kCallVd (wr := []) (va_runV (As := [.int (n &&& (-2)), .long v]) (rest := []) ⟨hx, hb, hml, hown, hts⟩ (g_keepWhole l D cI cL cB cZ cT _ aS bS f (n &&& (-2)) v) (cwV 2 hts gX3_keepOperand_X3_keepWhole rfl rfl rfl (by decide +kernel) ⟨Nat.le_of_ble_eq_true rfl, Nat.le_of_ble_eq_true rfl⟩) (kPreV hG hP hD [0, 1] rfl (by decide) 0 3 rfl rfl rfl) rfl rfl hl.1 rfl (lv_room (Nat.le_of_ble_eq_true rfl)) dX3_keepOperand_10 ⟨Nat.le_of_ble_eq_true rfl, Nat.le_of_ble_eq_true rfl⟩) hA hP hD hS [0, 1] [] rfl rfl (by decide) (by decide) (fun _ u_r_3 H locs wr_3 hP hD hS => ?_)
    have hP : va_P D vwCl [(aS, .inr (3, [.ref bS])), (bS, .inl (cI, 512, .inl u_r_3))] H := hP
    have hD : va_D A [(aS, .inr (3, [.ref bS])), (bS, .inl (cI, 512, .inl u_r_3))] := hD
    try dsimp only at wr_3
    refine lv_goto (tgt := 26) hx hb dX3_keepOperand_13 (by decide) ?_
    refine kVret (u := u_r_3) hx hb hr hlocks hS dX3_keepOperand_26 ?_ (hP.sub [0, 1] rfl) (hD.sub [0, 1] (by decide) rfl)
    exact trivial
set_option maxRecDepth 100000 in
theorem iX7_half_X7 : ∀ w ∈ wsX70, w ∈ wsX7_half := fun w h => (goodIn_r (big := wsX7_half) wsX70 [12, 13, 14, 15, 16, 17, 18, 19, 20, 21, 22] rfl (by decide +kernel) w h).1
set_option maxRecDepth 100000 in
set_option maxHeartbeats 4000000 in
theorem g_half (l : Launch) (D : va_G) (cI cL cB cZ cT : ClassId) (sz : Nat) (h0 aS aA aU aX aW : Nat) (pl np li sw lst : Int32) (ad : Int64) (bS : Nat) (f : Nat → Int32) (n : Int32) : kM (S := Unit) l yX7_half wsX7_half ({ frames := 2, cells := 0, slots := 0, locals := 41 }) D (kT cI cL cB cZ cT) [.ref h0, .int n] [(h0, .inr (7, [.ref aS, .ref aA, .ref aU, .ref aX, .ref aW, .int pl, .int np, .int li, .int sw, .int lst, .long ad])), (aS, .inr (3, [.ref bS])), (bS, .inl (cI, 512, .inl f))] sz eI (fun _ _ => True) (fun _ => [(h0, .inr (7, [.ref aS, .ref aA, .ref aU, .ref aX, .ref aW, .int pl, .int np, .int li, .int sw, .int lst, .long ad])), (aS, .inr (3, [.ref bS])), (bS, .inl (cI, 512, .inl f))]) 0 0 := by
  refine kStart (cc := cX7_half) (maxL := 2) (ret := (some .int)) (own := RX7) (by decide) rfl rfl (Nat.le_of_ble_eq_true rfl) ?_
  intro p e s m args below meth c A ls hx hb hr hml hown hts hlocks hnm hsz hA hG hP hD hS hl
  have hK := hG.1
  have hl : lv_has ls 2 [(0, .ref h0), (1, .int n)] := hl
  refine lv_iload_n hx hb dX7_half_0 rfl (lv_at hl 1 rfl) ?_
  refine kCallI (wr := [(h0, .inr (7, [.ref aS, .ref aA, .ref aU, .ref aX, .ref aW, .int pl, .int np, .int li, .int sw, .int lst, .long ad])), (aS, .inr (3, [.ref bS])), (bS, .inl (cI, 512, .inl f))]) (va_runS (As := [.int n]) (rest := []) ⟨hx, hb, hml, hown, hts⟩ (g_isHalf l D cI cL cB cZ cT _ n) (va_cwS 1 hts gX7_half_X7_isHalf rfl rfl rfl (by decide +kernel) ⟨Nat.le_of_ble_eq_true rfl, Nat.le_of_ble_eq_true rfl⟩) (kPreS hG hP hD [] rfl (by decide)) rfl rfl hl.1 rfl (lv_room (Nat.le_of_ble_eq_true rfl)) dX7_half_1 ⟨Nat.le_of_ble_eq_true rfl, Nat.le_of_ble_eq_true rfl⟩) hA hP hD hS [] [0, 1, 2] rfl rfl (by decide) (by decide) (fun r_1 u_r_1 H locs wr_1 hP hD hS => ?_)
  have hP : va_P D vwCl [(h0, .inr (7, [.ref aS, .ref aA, .ref aU, .ref aX, .ref aW, .int pl, .int np, .int li, .int sw, .int lst, .long ad])), (aS, .inr (3, [.ref bS])), (bS, .inl (cI, 512, .inl f))] H := hP
  have hD : va_D A [(h0, .inr (7, [.ref aS, .ref aA, .ref aU, .ref aX, .ref aW, .int pl, .int np, .int li, .int sw, .int lst, .long ad])), (aS, .inr (3, [.ref bS])), (bS, .inl (cI, 512, .inl f))] := hD
  try dsimp only at wr_1
  subst wr_1
  refine lv_if_eq (tgt := 18) hx hb dX7_half_4 (by decide) (fun c_4_1 => ?_) (fun c_4_1 => ?_)
  · have t_4_1 := c_4_1
    try simp only [kb_eq0, kb_ne0, lg_cmp_lt, lg_cmp_le, lg_cmp_gt, lg_cmp_ge, lg_cmp_eq] at t_4_1
    try simp only [Int32.lt_iff_toInt_lt, Int32.le_iff_toInt_le, ← Int32.toInt_inj, Int64.lt_iff_toInt_lt, Int64.le_iff_toInt_le, ← Int64.toInt_inj, Int32.toInt_toInt64, Int32.reduceToInt, Int64.reduceToInt] at t_4_1
    refine lv_iconst (v := (-1)) hx hb dX7_half_18 (by decide) ?_
    refine kIret (u := ()) hx hb hr rfl hlocks hS dX7_half_19 ?_ (hP.sub [0, 1, 2] rfl) (hD.sub [0, 1, 2] (by decide) rfl)
    exact trivial
  · have t_4_1 := c_4_1
    try simp only [kb_eq0, kb_ne0, lg_cmp_lt, lg_cmp_le, lg_cmp_gt, lg_cmp_ge, lg_cmp_eq] at t_4_1
    try simp only [Int32.lt_iff_toInt_lt, Int32.le_iff_toInt_le, ← Int32.toInt_inj, Int64.lt_iff_toInt_lt, Int64.le_iff_toInt_le, ← Int64.toInt_inj, Int32.toInt_toInt64, Int32.reduceToInt, Int64.reduceToInt] at t_4_1
    refine lv_aload_n hx hb dX7_half_7 rfl (lv_at hl 0 rfl) ?_
    refine va_get (D := D) (ci := 7) (v := .ref aS) (C := RX7) (T := TX7) (N := 11) hx hb hts iX7_half_X7 hown hK hP 0 rfl rfl 0 (by decide) (hts (.fieldLink RX7 12 "TapeCalculator" "store" "LTapeCalculator$Store;") (List.mem_of_getElem? (i := 1) rfl)) (fun _ h9 => h9) rfl dX7_half_8 ?_
    refine lv_iload_n hx hb dX7_half_11 rfl (lv_at hl 1 rfl) ?_
    refine kCallI (wr := [(h0, .inr (7, [.ref aS, .ref aA, .ref aU, .ref aX, .ref aW, .int pl, .int np, .int li, .int sw, .int lst, .long ad]))]) (va_runV (As := [.int n]) (rest := []) ⟨hx, hb, hml, hown, hts⟩ (g_halfAt l D cI cL cB cZ cT _ aS bS f n) (cwV 1 hts gX7_half_X3_halfAt rfl rfl rfl (by decide +kernel) ⟨Nat.le_of_ble_eq_true rfl, Nat.le_of_ble_eq_true rfl⟩) (kPreV hG hP hD [1, 2] rfl (by decide) 0 3 rfl rfl rfl) rfl rfl hl.1 rfl (lv_room (Nat.le_of_ble_eq_true rfl)) dX7_half_12 ⟨Nat.le_of_ble_eq_true rfl, Nat.le_of_ble_eq_true rfl⟩) hA hP hD hS [1, 2] [0] rfl rfl (by decide) (by decide) (fun r_3 u_r_3 H locs wr_3 hP hD hS => ?_)
    have hP : va_P D vwCl [(h0, .inr (7, [.ref aS, .ref aA, .ref aU, .ref aX, .ref aW, .int pl, .int np, .int li, .int sw, .int lst, .long ad])), (aS, .inr (3, [.ref bS])), (bS, .inl (cI, 512, .inl f))] H := hP
    have hD : va_D A [(h0, .inr (7, [.ref aS, .ref aA, .ref aU, .ref aX, .ref aW, .int pl, .int np, .int li, .int sw, .int lst, .long ad])), (aS, .inr (3, [.ref bS])), (bS, .inl (cI, 512, .inl f))] := hD
    try dsimp only at wr_3
    refine lv_goto (tgt := 19) hx hb dX7_half_15 (by decide) ?_
    refine kIret (u := ()) hx hb hr rfl hlocks hS dX7_half_19 ?_ (hP.sub [0, 1, 2] rfl) (hD.sub [0, 1, 2] (by decide) rfl)
    exact trivial
set_option maxRecDepth 100000 in
theorem iX7_put_X7 : ∀ w ∈ wsX70, w ∈ wsX7_put := fun w h => (goodIn_r (big := wsX7_put) wsX70 [18, 19, 20, 21, 22, 23, 24, 25, 26, 27, 28] rfl (by decide +kernel) w h).1
set_option maxRecDepth 100000 in
set_option maxHeartbeats 4000000 in
theorem g_put (l : Launch) (D : va_G) (cI cL cB cZ cT : ClassId) (sz : Nat) (h0 aS aA aU aX aW : Nat) (pl np li sw lst : Int32) (ad : Int64) (bS : Nat) (f : Nat → Int32) (n b : Int32) : kM (S := ((Nat → Int32))) l yX7_put wsX7_put ({ frames := 2, cells := 0, slots := 0, locals := 42 }) D (kT cI cL cB cZ cT) [.ref h0, .int n, .int b] [(h0, .inr (7, [.ref aS, .ref aA, .ref aU, .ref aX, .ref aW, .int pl, .int np, .int li, .int sw, .int lst, .long ad])), (aS, .inr (3, [.ref bS])), (bS, .inl (cI, 512, .inl f))] sz eI (fun _ _ => True) (fun u => [(h0, .inr (7, [.ref aS, .ref aA, .ref aU, .ref aX, .ref aW, .int pl, .int np, .int li, .int sw, .int lst, .long ad])), (aS, .inr (3, [.ref bS])), (bS, .inl (cI, 512, .inl u))]) 0 0 := by
  refine kStart (cc := cX7_put) (maxL := 4) (ret := (some .int)) (own := RX7) (by decide) rfl rfl (Nat.le_of_ble_eq_true rfl) ?_
  intro p e s m args below meth c A ls hx hb hr hml hown hts hlocks hnm hsz hA hG hP hD hS hl
  have hK := hG.1
  have hl : lv_has ls 4 [(0, .ref h0), (1, .int n), (2, .int b)] := hl
  refine lv_iload_n hx hb dX7_put_0 rfl (lv_at hl 1 rfl) ?_
  refine kCallI (wr := [(h0, .inr (7, [.ref aS, .ref aA, .ref aU, .ref aX, .ref aW, .int pl, .int np, .int li, .int sw, .int lst, .long ad])), (aS, .inr (3, [.ref bS])), (bS, .inl (cI, 512, .inl f))]) (va_runS (As := [.int n]) (rest := []) ⟨hx, hb, hml, hown, hts⟩ (g_isHalf l D cI cL cB cZ cT _ n) (va_cwS 1 hts gX7_put_X7_isHalf rfl rfl rfl (by decide +kernel) ⟨Nat.le_of_ble_eq_true rfl, Nat.le_of_ble_eq_true rfl⟩) (kPreS hG hP hD [] rfl (by decide)) rfl rfl hl.1 rfl (lv_room (Nat.le_of_ble_eq_true rfl)) dX7_put_1 ⟨Nat.le_of_ble_eq_true rfl, Nat.le_of_ble_eq_true rfl⟩) hA hP hD hS [] [0, 1, 2] rfl rfl (by decide) (by decide) (fun r_1 u_r_1 H locs wr_1 hP hD hS => ?_)
  have hP : va_P D vwCl [(h0, .inr (7, [.ref aS, .ref aA, .ref aU, .ref aX, .ref aW, .int pl, .int np, .int li, .int sw, .int lst, .long ad])), (aS, .inr (3, [.ref bS])), (bS, .inl (cI, 512, .inl f))] H := hP
  have hD : va_D A [(h0, .inr (7, [.ref aS, .ref aA, .ref aU, .ref aX, .ref aW, .int pl, .int np, .int li, .int sw, .int lst, .long ad])), (aS, .inr (3, [.ref bS])), (bS, .inl (cI, 512, .inl f))] := hD
  try dsimp only at wr_1
  subst wr_1
  refine lv_if_eq (tgt := 17) hx hb dX7_put_4 (by decide) (fun c_4_1 => ?_) (fun c_4_1 => ?_)
  · have t_4_1 := c_4_1
    try simp only [kb_eq0, kb_ne0, lg_cmp_lt, lg_cmp_le, lg_cmp_gt, lg_cmp_ge, lg_cmp_eq] at t_4_1
    try simp only [Int32.lt_iff_toInt_lt, Int32.le_iff_toInt_le, ← Int32.toInt_inj, Int64.lt_iff_toInt_lt, Int64.le_iff_toInt_le, ← Int64.toInt_inj, Int32.toInt_toInt64, Int32.reduceToInt, Int64.reduceToInt] at t_4_1
    refine lv_iconst (v := (-1)) hx hb dX7_put_17 (by decide) ?_
    refine kIret (u := f) hx hb hr rfl hlocks hS dX7_put_18 ?_ (hP.sub [0, 1, 2] rfl) (hD.sub [0, 1, 2] (by decide) rfl)
    exact trivial
  · have t_4_1 := c_4_1
    try simp only [kb_eq0, kb_ne0, lg_cmp_lt, lg_cmp_le, lg_cmp_gt, lg_cmp_ge, lg_cmp_eq] at t_4_1
    try simp only [Int32.lt_iff_toInt_lt, Int32.le_iff_toInt_le, ← Int32.toInt_inj, Int64.lt_iff_toInt_lt, Int64.le_iff_toInt_le, ← Int64.toInt_inj, Int32.toInt_toInt64, Int32.reduceToInt, Int64.reduceToInt] at t_4_1
    refine lv_iload_n hx hb dX7_put_7 rfl (lv_at hl 2 rfl) ?_
    refine lv_if_lt (tgt := 17) hx hb dX7_put_8 (by decide) (fun c_8_2 => ?_) (fun c_8_2 => ?_)
    · have t_8_2 := c_8_2
      try simp only [kb_eq0, kb_ne0, lg_cmp_lt, lg_cmp_le, lg_cmp_gt, lg_cmp_ge, lg_cmp_eq] at t_8_2
      try simp only [Int32.lt_iff_toInt_lt, Int32.le_iff_toInt_le, ← Int32.toInt_inj, Int64.lt_iff_toInt_lt, Int64.le_iff_toInt_le, ← Int64.toInt_inj, Int32.toInt_toInt64, Int32.reduceToInt, Int64.reduceToInt] at t_8_2
      refine lv_iconst (v := (-1)) hx hb dX7_put_17 (by decide) ?_
      refine kIret (u := f) hx hb hr rfl hlocks hS dX7_put_18 ?_ (hP.sub [0, 1, 2] rfl) (hD.sub [0, 1, 2] (by decide) rfl)
      exact trivial
    · have t_8_2 := c_8_2
      try simp only [kb_eq0, kb_ne0, lg_cmp_lt, lg_cmp_le, lg_cmp_gt, lg_cmp_ge, lg_cmp_eq] at t_8_2
      try simp only [Int32.lt_iff_toInt_lt, Int32.le_iff_toInt_le, ← Int32.toInt_inj, Int64.lt_iff_toInt_lt, Int64.le_iff_toInt_le, ← Int64.toInt_inj, Int32.toInt_toInt64, Int32.reduceToInt, Int64.reduceToInt] at t_8_2
      refine lv_iload_n hx hb dX7_put_11 rfl (lv_at hl 2 rfl) ?_
      refine lv_ldc (v := 262143) hx hb hown (hts (.constant RX7 52 (262143)) (List.mem_of_getElem? (i := 1) rfl)) dX7_put_12 ?_
      refine lv_icmp_le (tgt := 19) hx hb dX7_put_14 (by decide) (fun c_14_3 => ?_) (fun c_14_3 => ?_)
      · have t_14_3 := c_14_3
        try simp only [kb_eq0, kb_ne0, lg_cmp_lt, lg_cmp_le, lg_cmp_gt, lg_cmp_ge, lg_cmp_eq] at t_14_3
        try simp only [Int32.lt_iff_toInt_lt, Int32.le_iff_toInt_le, ← Int32.toInt_inj, Int64.lt_iff_toInt_lt, Int64.le_iff_toInt_le, ← Int64.toInt_inj, Int32.toInt_toInt64, Int32.reduceToInt, Int64.reduceToInt] at t_14_3
        refine lv_aload_n hx hb dX7_put_19 rfl (lv_at hl 0 rfl) ?_
        refine va_get (D := D) (ci := 7) (v := .ref aS) (C := RX7) (T := TX7) (N := 11) hx hb hts iX7_put_X7 hown hK hP 0 rfl rfl 0 (by decide) (hts (.fieldLink RX7 12 "TapeCalculator" "store" "LTapeCalculator$Store;") (List.mem_of_getElem? (i := 2) rfl)) (fun _ h9 => h9) rfl dX7_put_20 ?_
        refine lv_iload_n hx hb dX7_put_23 rfl (lv_at hl 1 rfl) ?_
        refine kCallI (wr := [(h0, .inr (7, [.ref aS, .ref aA, .ref aU, .ref aX, .ref aW, .int pl, .int np, .int li, .int sw, .int lst, .long ad]))]) (va_runV (As := [.int n]) (rest := []) ⟨hx, hb, hml, hown, hts⟩ (g_halfAt l D cI cL cB cZ cT _ aS bS f n) (cwV 1 hts gX7_put_X3_halfAt rfl rfl rfl (by decide +kernel) ⟨Nat.le_of_ble_eq_true rfl, Nat.le_of_ble_eq_true rfl⟩) (kPreV hG hP hD [1, 2] rfl (by decide) 0 3 rfl rfl rfl) rfl rfl hl.1 rfl (lv_room (Nat.le_of_ble_eq_true rfl)) dX7_put_24 ⟨Nat.le_of_ble_eq_true rfl, Nat.le_of_ble_eq_true rfl⟩) hA hP hD hS [1, 2] [0] rfl rfl (by decide) (by decide) (fun r_5 u_r_5 H locs wr_5 hP hD hS => ?_)
        have hP : va_P D vwCl [(h0, .inr (7, [.ref aS, .ref aA, .ref aU, .ref aX, .ref aW, .int pl, .int np, .int li, .int sw, .int lst, .long ad])), (aS, .inr (3, [.ref bS])), (bS, .inl (cI, 512, .inl f))] H := hP
        have hD : va_D A [(h0, .inr (7, [.ref aS, .ref aA, .ref aU, .ref aX, .ref aW, .int pl, .int np, .int li, .int sw, .int lst, .long ad])), (aS, .inr (3, [.ref bS])), (bS, .inl (cI, 512, .inl f))] := hD
        try dsimp only at wr_5
        refine lv_istore_n (lv' := [(3, .int r_5), (0, .ref h0), (1, .int n), (2, .int b)]) hx hb dX7_put_27 rfl hl (by decide) rfl (fun ls hl => ?_)
        refine lv_aload_n hx hb dX7_put_28 rfl (lv_at hl 1 rfl) ?_
        refine va_get (D := D) (ci := 7) (v := .ref aS) (C := RX7) (T := TX7) (N := 11) hx hb hts iX7_put_X7 hown hK hP 0 rfl rfl 0 (by decide) (hts (.fieldLink RX7 12 "TapeCalculator" "store" "LTapeCalculator$Store;") (List.mem_of_getElem? (i := 2) rfl)) (fun _ h9 => h9) rfl dX7_put_29 ?_
        refine lv_iload_n hx hb dX7_put_32 rfl (lv_at hl 2 rfl) ?_
        refine lv_iload_n hx hb dX7_put_33 rfl (lv_at hl 3 rfl) ?_
        refine kCallVd (wr := [(h0, .inr (7, [.ref aS, .ref aA, .ref aU, .ref aX, .ref aW, .int pl, .int np, .int li, .int sw, .int lst, .long ad]))]) (va_runV (As := [.int n, .int b]) (rest := []) ⟨hx, hb, hml, hown, hts⟩ (g_keepHalf l D cI cL cB cZ cT _ aS bS f n b) (cwV 2 hts gX7_put_X3_keepHalf rfl rfl rfl (by decide +kernel) ⟨Nat.le_of_ble_eq_true rfl, Nat.le_of_ble_eq_true rfl⟩) (kPreV hG hP hD [1, 2] rfl (by decide) 0 3 rfl rfl rfl) rfl rfl hl.1 rfl (lv_room (Nat.le_of_ble_eq_true rfl)) dX7_put_34 ⟨Nat.le_of_ble_eq_true rfl, Nat.le_of_ble_eq_true rfl⟩) hA hP hD hS [1, 2] [0] rfl rfl (by decide) (by decide) (fun _ u_r_6 H locs wr_6 hP hD hS => ?_)
        have hP : va_P D vwCl [(h0, .inr (7, [.ref aS, .ref aA, .ref aU, .ref aX, .ref aW, .int pl, .int np, .int li, .int sw, .int lst, .long ad])), (aS, .inr (3, [.ref bS])), (bS, .inl (cI, 512, .inl u_r_6))] H := hP
        have hD : va_D A [(h0, .inr (7, [.ref aS, .ref aA, .ref aU, .ref aX, .ref aW, .int pl, .int np, .int li, .int sw, .int lst, .long ad])), (aS, .inr (3, [.ref bS])), (bS, .inl (cI, 512, .inl u_r_6))] := hD
        try dsimp only at wr_6
        refine lv_iload_n hx hb dX7_put_37 rfl (lv_at hl 0 rfl) ?_
        refine kIret (u := u_r_6) hx hb hr rfl hlocks hS dX7_put_38 ?_ (hP.sub [0, 1, 2] rfl) (hD.sub [0, 1, 2] (by decide) rfl)
        exact trivial
      · have t_14_3 := c_14_3
        try simp only [kb_eq0, kb_ne0, lg_cmp_lt, lg_cmp_le, lg_cmp_gt, lg_cmp_ge, lg_cmp_eq] at t_14_3
        try simp only [Int32.lt_iff_toInt_lt, Int32.le_iff_toInt_le, ← Int32.toInt_inj, Int64.lt_iff_toInt_lt, Int64.le_iff_toInt_le, ← Int64.toInt_inj, Int32.toInt_toInt64, Int32.reduceToInt, Int64.reduceToInt] at t_14_3
        refine lv_iconst (v := (-1)) hx hb dX7_put_17 (by decide) ?_
        refine kIret (u := f) hx hb hr rfl hlocks hS dX7_put_18 ?_ (hP.sub [0, 1, 2] rfl) (hD.sub [0, 1, 2] (by decide) rfl)
        exact trivial
set_option maxRecDepth 100000 in
theorem iX7_whole_X7 : ∀ w ∈ wsX70, w ∈ wsX7_whole := fun w h => (goodIn_r (big := wsX7_whole) wsX70 [17, 18, 19, 20, 21, 22, 23, 24, 25, 26, 27] rfl (by decide +kernel) w h).1
set_option maxRecDepth 100000 in
set_option maxHeartbeats 4000000 in
theorem g_whole (l : Launch) (D : va_G) (cI cL cB cZ cT : ClassId) (sz : Nat) (h0 aS aA aU aX aW : Nat) (pl np li sw lst : Int32) (ad : Int64) (bS : Nat) (f : Nat → Int32) (n : Int32) : kM (S := Unit) l yX7_whole wsX7_whole ({ frames := 3, cells := 0, slots := 0, locals := 62 }) D (kT cI cL cB cZ cT) [.ref h0, .int n] [(h0, .inr (7, [.ref aS, .ref aA, .ref aU, .ref aX, .ref aW, .int pl, .int np, .int li, .int sw, .int lst, .long ad])), (aS, .inr (3, [.ref bS])), (bS, .inl (cI, 512, .inl f))] sz eL (fun _ _ => True) (fun _ => [(h0, .inr (7, [.ref aS, .ref aA, .ref aU, .ref aX, .ref aW, .int pl, .int np, .int li, .int sw, .int lst, .long ad])), (aS, .inr (3, [.ref bS])), (bS, .inl (cI, 512, .inl f))]) 0 0 := by
  refine kStart (cc := cX7_whole) (maxL := 2) (ret := (some .long)) (own := RX7) (by decide) rfl rfl (Nat.le_of_ble_eq_true rfl) ?_
  intro p e s m args below meth c A ls hx hb hr hml hown hts hlocks hnm hsz hA hG hP hD hS hl
  have hK := hG.1
  have hl : lv_has ls 2 [(0, .ref h0), (1, .int n)] := hl
  refine lv_iload_n hx hb dX7_whole_0 rfl (lv_at hl 1 rfl) ?_
  refine kCallI (wr := [(h0, .inr (7, [.ref aS, .ref aA, .ref aU, .ref aX, .ref aW, .int pl, .int np, .int li, .int sw, .int lst, .long ad])), (aS, .inr (3, [.ref bS])), (bS, .inl (cI, 512, .inl f))]) (va_runS (As := [.int n]) (rest := []) ⟨hx, hb, hml, hown, hts⟩ (g_isHalf l D cI cL cB cZ cT _ n) (va_cwS 1 hts gX7_whole_X7_isHalf rfl rfl rfl (by decide +kernel) ⟨Nat.le_of_ble_eq_true rfl, Nat.le_of_ble_eq_true rfl⟩) (kPreS hG hP hD [] rfl (by decide)) rfl rfl hl.1 rfl (lv_room (Nat.le_of_ble_eq_true rfl)) dX7_whole_1 ⟨Nat.le_of_ble_eq_true rfl, Nat.le_of_ble_eq_true rfl⟩) hA hP hD hS [] [0, 1, 2] rfl rfl (by decide) (by decide) (fun r_1 u_r_1 H locs wr_1 hP hD hS => ?_)
  have hP : va_P D vwCl [(h0, .inr (7, [.ref aS, .ref aA, .ref aU, .ref aX, .ref aW, .int pl, .int np, .int li, .int sw, .int lst, .long ad])), (aS, .inr (3, [.ref bS])), (bS, .inl (cI, 512, .inl f))] H := hP
  have hD : va_D A [(h0, .inr (7, [.ref aS, .ref aA, .ref aU, .ref aX, .ref aW, .int pl, .int np, .int li, .int sw, .int lst, .long ad])), (aS, .inr (3, [.ref bS])), (bS, .inl (cI, 512, .inl f))] := hD
  try dsimp only at wr_1
  subst wr_1
  refine lv_if_eq (tgt := 24) hx hb dX7_whole_4 (by decide) (fun c_4_1 => ?_) (fun c_4_1 => ?_)
  · have t_4_1 := c_4_1
    try simp only [kb_eq0, kb_ne0, lg_cmp_lt, lg_cmp_le, lg_cmp_gt, lg_cmp_ge, lg_cmp_eq] at t_4_1
    try simp only [Int32.lt_iff_toInt_lt, Int32.le_iff_toInt_le, ← Int32.toInt_inj, Int64.lt_iff_toInt_lt, Int64.le_iff_toInt_le, ← Int64.toInt_inj, Int32.toInt_toInt64, Int32.reduceToInt, Int64.reduceToInt] at t_4_1
    refine lv_ldc2 (v := (-1)) hx hb hown (hts (.constantLong RX7 61 (-1)) (List.mem_of_getElem? (i := 2) rfl)) dX7_whole_24 ?_
    refine kLret (u := ()) hx hb hr hlocks hS dX7_whole_27 ?_ (hP.sub [0, 1, 2] rfl) (hD.sub [0, 1, 2] (by decide) rfl)
    exact trivial
  · have t_4_1 := c_4_1
    try simp only [kb_eq0, kb_ne0, lg_cmp_lt, lg_cmp_le, lg_cmp_gt, lg_cmp_ge, lg_cmp_eq] at t_4_1
    try simp only [Int32.lt_iff_toInt_lt, Int32.le_iff_toInt_le, ← Int32.toInt_inj, Int64.lt_iff_toInt_lt, Int64.le_iff_toInt_le, ← Int64.toInt_inj, Int32.toInt_toInt64, Int32.reduceToInt, Int64.reduceToInt] at t_4_1
    refine lv_iload_n hx hb dX7_whole_7 rfl (lv_at hl 1 rfl) ?_
    refine lv_iconst (v := 1) hx hb dX7_whole_8 (by decide) ?_
    refine lv_iand hx hb dX7_whole_9 ?_
    refine lv_if_ne (tgt := 24) hx hb dX7_whole_10 (by decide) (fun c_10_2 => ?_) (fun c_10_2 => ?_)
    · have t_10_2 := c_10_2
      try simp only [kb_eq0, kb_ne0, lg_cmp_lt, lg_cmp_le, lg_cmp_gt, lg_cmp_ge, lg_cmp_eq] at t_10_2
      try simp only [Int32.lt_iff_toInt_lt, Int32.le_iff_toInt_le, ← Int32.toInt_inj, Int64.lt_iff_toInt_lt, Int64.le_iff_toInt_le, ← Int64.toInt_inj, Int32.toInt_toInt64, Int32.reduceToInt, Int64.reduceToInt] at t_10_2
      refine lv_ldc2 (v := (-1)) hx hb hown (hts (.constantLong RX7 61 (-1)) (List.mem_of_getElem? (i := 2) rfl)) dX7_whole_24 ?_
      refine kLret (u := ()) hx hb hr hlocks hS dX7_whole_27 ?_ (hP.sub [0, 1, 2] rfl) (hD.sub [0, 1, 2] (by decide) rfl)
      exact trivial
    · have t_10_2 := c_10_2
      try simp only [kb_eq0, kb_ne0, lg_cmp_lt, lg_cmp_le, lg_cmp_gt, lg_cmp_ge, lg_cmp_eq] at t_10_2
      try simp only [Int32.lt_iff_toInt_lt, Int32.le_iff_toInt_le, ← Int32.toInt_inj, Int64.lt_iff_toInt_lt, Int64.le_iff_toInt_le, ← Int64.toInt_inj, Int32.toInt_toInt64, Int32.reduceToInt, Int64.reduceToInt] at t_10_2
      refine lv_aload_n hx hb dX7_whole_13 rfl (lv_at hl 0 rfl) ?_
      refine va_get (D := D) (ci := 7) (v := .ref aS) (C := RX7) (T := TX7) (N := 11) hx hb hts iX7_whole_X7 hown hK hP 0 rfl rfl 0 (by decide) (hts (.fieldLink RX7 12 "TapeCalculator" "store" "LTapeCalculator$Store;") (List.mem_of_getElem? (i := 1) rfl)) (fun _ h9 => h9) rfl dX7_whole_14 ?_
      refine lv_iload_n hx hb dX7_whole_17 rfl (lv_at hl 1 rfl) ?_
      refine kCallL (wr := [(h0, .inr (7, [.ref aS, .ref aA, .ref aU, .ref aX, .ref aW, .int pl, .int np, .int li, .int sw, .int lst, .long ad]))]) (va_runV (As := [.int n]) (rest := []) ⟨hx, hb, hml, hown, hts⟩ (g_wholeAt l D cI cL cB cZ cT _ aS bS f n) (cwV 1 hts gX7_whole_X3_wholeAt rfl rfl rfl (by decide +kernel) ⟨Nat.le_of_ble_eq_true rfl, Nat.le_of_ble_eq_true rfl⟩) (kPreV hG hP hD [1, 2] rfl (by decide) 0 3 rfl rfl rfl) rfl rfl hl.1 rfl (lv_room (Nat.le_of_ble_eq_true rfl)) dX7_whole_18 ⟨Nat.le_of_ble_eq_true rfl, Nat.le_of_ble_eq_true rfl⟩) hA hP hD hS [1, 2] [0] rfl rfl (by decide) (by decide) (fun r_4 u_r_4 H locs wr_4 hP hD hS => ?_)
      have hP : va_P D vwCl [(h0, .inr (7, [.ref aS, .ref aA, .ref aU, .ref aX, .ref aW, .int pl, .int np, .int li, .int sw, .int lst, .long ad])), (aS, .inr (3, [.ref bS])), (bS, .inl (cI, 512, .inl f))] H := hP
      have hD : va_D A [(h0, .inr (7, [.ref aS, .ref aA, .ref aU, .ref aX, .ref aW, .int pl, .int np, .int li, .int sw, .int lst, .long ad])), (aS, .inr (3, [.ref bS])), (bS, .inl (cI, 512, .inl f))] := hD
      try dsimp only at wr_4
      refine lv_goto (tgt := 27) hx hb dX7_whole_21 (by decide) ?_
      refine kLret (u := ()) hx hb hr hlocks hS dX7_whole_27 ?_ (hP.sub [0, 1, 2] rfl) (hD.sub [0, 1, 2] (by decide) rfl)
      exact trivial
