def jT_ (s j : Int32) : Prop := 0 ≤ s.toInt ∧ s.toInt ≤ j.toInt ∧ j.toInt ≤ 300
def jB_ (x : Int32) : Prop := x.toInt = 0 ∨ x.toInt = 1
def jP_ (x : Int32) : Prop := 0 ≤ x.toInt ∧ x.toInt ≤ 511
def jD_ (x : Int32) : Prop := 0 ≤ x.toInt ∧ x.toInt ≤ 255
def jC_ (x : Int32) : Prop := 0 ≤ x.toInt ∧ x.toInt ≤ 14
def jW_ (w c : Int32) : Prop := w.toInt = 0 ∨ (w.toInt = 1 ∧ 9 ≤ c.toInt ∧ c.toInt ≤ 12)
def k4i (a b c d : Int32) : Nat → Int32 := fun k => match k with | 0 => a | 1 => b | 2 => c | 3 => d | _ => 0
theorem k4i_0 {a b c d x : Int32} : upd (k4i a b c d) (0 : Int32).toNatClampNeg x = k4i x b c d := by
  funext k
  show (if k = 0 then x else k4i a b c d k) = _
  match k with
  | 0 => rfl
  | 1 => rfl
  | 2 => rfl
  | 3 => rfl
  | k + 4 => rfl
theorem k4i_1 {a b c d x : Int32} : upd (k4i a b c d) (1 : Int32).toNatClampNeg x = k4i a x c d := by
  funext k
  show (if k = 1 then x else k4i a b c d k) = _
  match k with
  | 0 => rfl
  | 1 => rfl
  | 2 => rfl
  | 3 => rfl
  | k + 4 => rfl
theorem k4i_2 {a b c d x : Int32} : upd (k4i a b c d) (2 : Int32).toNatClampNeg x = k4i a b x d := by
  funext k
  show (if k = 2 then x else k4i a b c d k) = _
  match k with
  | 0 => rfl
  | 1 => rfl
  | 2 => rfl
  | 3 => rfl
  | k + 4 => rfl
theorem k4i_3 {a b c d x : Int32} : upd (k4i a b c d) (3 : Int32).toNatClampNeg x = k4i a b c x := by
  funext k
  show (if k = 3 then x else k4i a b c d k) = _
  match k with
  | 0 => rfl
  | 1 => rfl
  | 2 => rfl
  | 3 => rfl
  | k + 4 => rfl
theorem k4i_z : (fun _ => 0 : Nat → Int32) = k4i 0 0 0 0 := by
  funext k
  match k with
  | 0 => rfl
  | 1 => rfl
  | 2 => rfl
  | 3 => rfl
  | k + 4 => rfl
theorem k_b {x : Int32} (h : x.toInt = 0 ∨ x.toInt = 1) : x = 0 ∨ x = 1 := h.elim (fun e => Or.inl (Int32.toInt_inj.mp e)) (fun e => Or.inr (Int32.toInt_inj.mp e))
theorem k_sub {a b : Int32} (ha : -1000000 ≤ a.toInt ∧ a.toInt ≤ 1000000) (hb : -1000000 ≤ b.toInt ∧ b.toInt ≤ 1000000) : (a - b).toInt = a.toInt - b.toInt := by
  rw [Int32.toInt_sub]
  exact Int.bmod_eq_of_le (by omega) (by omega)
theorem k_addg {a b : Int32} (ha : -1000000 ≤ a.toInt ∧ a.toInt ≤ 1000000) (hb : -1000000 ≤ b.toInt ∧ b.toInt ≤ 1000000) : (a + b).toInt = a.toInt + b.toInt := by
  rw [Int32.toInt_add]
  exact Int.bmod_eq_of_le (by omega) (by omega)
theorem k_and {x m : Int32} (k : Nat) (hm : m.toBitVec.toNat = 2 ^ k - 1) (hk : k ≤ 30) : 0 ≤ (x &&& m).toInt ∧ (x &&& m).toInt < (2 ^ k : Nat) := vp_in_iff.mp (pk_andIn x k hm hk)
theorem k_l2i {v : Int64} (h : -1000000 ≤ v.toInt ∧ v.toInt ≤ 1000000) : v.toInt32.toInt = v.toInt := by
  rw [Int64.toInt_toInt32]
  exact Int.bmod_eq_of_le (by omega) (by omega)
theorem ksw_256_259 (x : Int32) : (x.toInt < 256 ∨ 259 < x.toInt) ∨ x = 256 ∨ x = 257 ∨ x = 258 ∨ x = 259 := by
  simp only [← Int32.toInt_inj, Int32.reduceToInt]; omega
theorem ksw_0_14 (x : Int32) : (x.toInt < 0 ∨ 14 < x.toInt) ∨ x = 0 ∨ x = 1 ∨ x = 2 ∨ x = 3 ∨ x = 4 ∨ x = 5 ∨ x = 6 ∨ x = 7 ∨ x = 8 ∨ x = 9 ∨ x = 10 ∨ x = 11 ∨ x = 12 ∨ x = 13 ∨ x = 14 := by
  simp only [← Int32.toInt_inj, Int32.reduceToInt]; omega
theorem ksw_5_19 (x : Int32) : (x.toInt < 5 ∨ 19 < x.toInt) ∨ x = 5 ∨ x = 6 ∨ x = 7 ∨ x = 8 ∨ x = 9 ∨ x = 10 ∨ x = 11 ∨ x = 12 ∨ x = 13 ∨ x = 14 ∨ x = 15 ∨ x = 16 ∨ x = 17 ∨ x = 18 ∨ x = 19 := by
  simp only [← Int32.toInt_inj, Int32.reduceToInt]; omega
theorem ksw_9_12 (x : Int32) : (x.toInt < 9 ∨ 12 < x.toInt) ∨ x = 9 ∨ x = 10 ∨ x = 11 ∨ x = 12 := by
  simp only [← Int32.toInt_inj, Int32.reduceToInt]; omega
set_option maxRecDepth 100000 in
set_option maxHeartbeats 4000000 in
theorem q_in (l : Launch) (D : va_G) (cI cL cB cZ cT : ClassId) (sz : Nat) (v lo hi : Int64) : kM (S := Unit) l yX8_in wsX8_in ({ frames := 0, cells := 0, slots := 0, locals := 0 }) D (kT cI cL cB cZ cT) [.long v, .long lo, .long hi] [] sz eI (fun r _ => r = (kb (lo.toInt ≤ v.toInt ∧ v.toInt ≤ hi.toInt))) (fun _ => []) 0 0 := by
  refine kStart (cc := cX8_in) (maxL := 6) (ret := (some .boolean)) (own := RX8) (by decide) rfl rfl (Nat.le_of_ble_eq_true rfl) ?_
  intro p e s m args below meth c A ls hx hb hr hml hown hts hlocks hnm hsz hA hG hP hD hS hl
  have hK := hG.1
  have hl : lv_has ls 6 [(0, .long v), (2, .long lo), (4, .long hi)] := hl
  refine lv_lload_n hx hb dX8_in_0 rfl (lv_at hl 0 rfl) ?_
  refine lv_lload_n hx hb dX8_in_1 rfl (lv_at hl 1 rfl) ?_
  refine W.lcmp hx hb dX8_in_2 ?_
  refine lv_if_lt (tgt := 17) hx hb dX8_in_3 (by decide) (fun c_3_0 => ?_) (fun c_3_0 => ?_)
  · have t_3_0 := c_3_0
    try simp only [kb_eq0, kb_ne0, lg_cmp_lt, lg_cmp_le, lg_cmp_gt, lg_cmp_ge, lg_cmp_eq] at t_3_0
    try simp only [Int32.lt_iff_toInt_lt, Int32.le_iff_toInt_le, ← Int32.toInt_inj, Int64.lt_iff_toInt_lt, Int64.le_iff_toInt_le, ← Int64.toInt_inj, Int32.toInt_toInt64, Int32.reduceToInt, Int64.reduceToInt] at t_3_0
    refine lv_iconst (v := 0) hx hb dX8_in_17 (by decide) ?_
    refine kIret (u := ()) hx hb hr rfl hlocks hS dX8_in_18 ?_ (hP.sub [] rfl) (hD.sub [] (by decide) rfl)
    first
      | exact (kb_t (by omega)).symm
      | exact (kb_f (by omega)).symm
  · have t_3_0 := c_3_0
    try simp only [kb_eq0, kb_ne0, lg_cmp_lt, lg_cmp_le, lg_cmp_gt, lg_cmp_ge, lg_cmp_eq] at t_3_0
    try simp only [Int32.lt_iff_toInt_lt, Int32.le_iff_toInt_le, ← Int32.toInt_inj, Int64.lt_iff_toInt_lt, Int64.le_iff_toInt_le, ← Int64.toInt_inj, Int32.toInt_toInt64, Int32.reduceToInt, Int64.reduceToInt] at t_3_0
    refine lv_lload_n hx hb dX8_in_6 rfl (lv_at hl 0 rfl) ?_
    refine lv_lload hx hb dX8_in_7 (lv_at hl 2 rfl) ?_
    refine W.lcmp hx hb dX8_in_9 ?_
    refine lv_if_gt (tgt := 17) hx hb dX8_in_10 (by decide) (fun c_10_1 => ?_) (fun c_10_1 => ?_)
    · have t_10_1 := c_10_1
      try simp only [kb_eq0, kb_ne0, lg_cmp_lt, lg_cmp_le, lg_cmp_gt, lg_cmp_ge, lg_cmp_eq] at t_10_1
      try simp only [Int32.lt_iff_toInt_lt, Int32.le_iff_toInt_le, ← Int32.toInt_inj, Int64.lt_iff_toInt_lt, Int64.le_iff_toInt_le, ← Int64.toInt_inj, Int32.toInt_toInt64, Int32.reduceToInt, Int64.reduceToInt] at t_10_1
      refine lv_iconst (v := 0) hx hb dX8_in_17 (by decide) ?_
      refine kIret (u := ()) hx hb hr rfl hlocks hS dX8_in_18 ?_ (hP.sub [] rfl) (hD.sub [] (by decide) rfl)
      first
        | exact (kb_t (by omega)).symm
        | exact (kb_f (by omega)).symm
    · have t_10_1 := c_10_1
      try simp only [kb_eq0, kb_ne0, lg_cmp_lt, lg_cmp_le, lg_cmp_gt, lg_cmp_ge, lg_cmp_eq] at t_10_1
      try simp only [Int32.lt_iff_toInt_lt, Int32.le_iff_toInt_le, ← Int32.toInt_inj, Int64.lt_iff_toInt_lt, Int64.le_iff_toInt_le, ← Int64.toInt_inj, Int32.toInt_toInt64, Int32.reduceToInt, Int64.reduceToInt] at t_10_1
      refine lv_iconst (v := 1) hx hb dX8_in_13 (by decide) ?_
      refine lv_goto (tgt := 18) hx hb dX8_in_14 (by decide) ?_
      refine kIret (u := ()) hx hb hr rfl hlocks hS dX8_in_18 ?_ (hP.sub [] rfl) (hD.sub [] (by decide) rfl)
      first
        | exact (kb_t (by omega)).symm
        | exact (kb_f (by omega)).symm
set_option maxRecDepth 100000 in
theorem iX8_half_X8 : ∀ w ∈ wsX80, w ∈ wsX8_half := fun w h => (goodIn_r (big := wsX8_half) wsX80 [7, 8, 9, 10, 11, 12, 13, 14, 15, 16, 17, 18, 19, 20, 21, 22, 23, 24, 25, 26, 27, 28, 29, 30, 31, 32, 33, 34, 35, 36, 37] rfl (by decide +kernel) w h).1
set_option maxRecDepth 100000 in
set_option maxHeartbeats 4000000 in
theorem q_half (l : Launch) (D : va_G) (cI cL cB cZ cT : ClassId) (sz : Nat) (m0 mH mI mJ mS mD mX mA mB mW mL : Nat) (aM : Int32) (aC : Int64) (mM : Int32) (mQ : Int64) (oV pL lI sW dP sT : Int32) (aT : Int64) (cH iW iH aE mN : Int32) (sZ : Int64) (tS tA tW lS : Int32) (fH : Nat → Int32) (n : Int32) : kM (S := Unit) l yX8_half wsX8_half ({ frames := 1, cells := 0, slots := 0, locals := 25 }) D (kT cI cL cB cZ cT) [.ref m0, .int n] [(m0, .inr (8, [.ref mH, .int aM, .long aC, .int mM, .long mQ, .int oV, .int pL, .int lI, .int sW, .int dP, .int sT, .long aT, .int cH, .int iW, .ref mI, .ref mJ, .ref mS, .ref mD, .int iH, .int aE, .int mN, .long sZ, .ref mX, .int tS, .int tA, .int tW, .ref mA, .ref mB, .ref mW, .ref mL, .int lS])), (mH, .inl (cI, 512, .inl fH))] sz eI (fun _ _ => True) (fun _ => [(m0, .inr (8, [.ref mH, .int aM, .long aC, .int mM, .long mQ, .int oV, .int pL, .int lI, .int sW, .int dP, .int sT, .long aT, .int cH, .int iW, .ref mI, .ref mJ, .ref mS, .ref mD, .int iH, .int aE, .int mN, .long sZ, .ref mX, .int tS, .int tA, .int tW, .ref mA, .ref mB, .ref mW, .ref mL, .int lS])), (mH, .inl (cI, 512, .inl fH))]) 0 0 := by
  refine kStart (cc := cX8_half) (maxL := 2) (ret := (some .int)) (own := RX8) (by decide) rfl rfl (Nat.le_of_ble_eq_true rfl) ?_
  intro p e s m args below meth c A ls hx hb hr hml hown hts hlocks hnm hsz hA hG hP hD hS hl
  have hK := hG.1
  have hl : lv_has ls 2 [(0, .ref m0), (1, .int n)] := hl
  refine lv_iload_n hx hb dX8_half_0 rfl (lv_at hl 1 rfl) ?_
  refine lv_i2l hx hb dX8_half_1 rfl ?_
  refine lv_lconst (v := 0) hx hb dX8_half_2 (by decide) ?_
  refine lv_ldc2 (v := 511) hx hb hown (hts (.constantLong RX8 47 (511)) (List.mem_of_getElem? (i := 1) rfl)) dX8_half_3 ?_
  refine kCallI (wr := [(m0, .inr (8, [.ref mH, .int aM, .long aC, .int mM, .long mQ, .int oV, .int pL, .int lI, .int sW, .int dP, .int sT, .long aT, .int cH, .int iW, .ref mI, .ref mJ, .ref mS, .ref mD, .int iH, .int aE, .int mN, .long sZ, .ref mX, .int tS, .int tA, .int tW, .ref mA, .ref mB, .ref mW, .ref mL, .int lS])), (mH, .inl (cI, 512, .inl fH))]) (va_runS (As := [.long n.toInt64, .long 0, .long 511]) (rest := []) ⟨hx, hb, hml, hown, hts⟩ (q_in l D cI cL cB cZ cT _ (n.toInt64) 0 511) (va_cwS 3 hts gX8_half_X8_in rfl rfl rfl (by decide +kernel) ⟨Nat.le_of_ble_eq_true rfl, Nat.le_of_ble_eq_true rfl⟩) (kPreS hG hP hD [] rfl (by decide)) rfl rfl hl.1 rfl (lv_room (Nat.le_of_ble_eq_true rfl)) dX8_half_6 ⟨Nat.le_of_ble_eq_true rfl, Nat.le_of_ble_eq_true rfl⟩) hA hP hD hS [] [0, 1] rfl rfl (by decide) (by decide) (fun r_1 u_r_1 H locs wr_1 hP hD hS => ?_)
  have hP : va_P D vwCl [(m0, .inr (8, [.ref mH, .int aM, .long aC, .int mM, .long mQ, .int oV, .int pL, .int lI, .int sW, .int dP, .int sT, .long aT, .int cH, .int iW, .ref mI, .ref mJ, .ref mS, .ref mD, .int iH, .int aE, .int mN, .long sZ, .ref mX, .int tS, .int tA, .int tW, .ref mA, .ref mB, .ref mW, .ref mL, .int lS])), (mH, .inl (cI, 512, .inl fH))] H := hP
  have hD : va_D A [(m0, .inr (8, [.ref mH, .int aM, .long aC, .int mM, .long mQ, .int oV, .int pL, .int lI, .int sW, .int dP, .int sT, .long aT, .int cH, .int iW, .ref mI, .ref mJ, .ref mS, .ref mD, .int iH, .int aE, .int mN, .long sZ, .ref mX, .int tS, .int tA, .int tW, .ref mA, .ref mB, .ref mW, .ref mL, .int lS])), (mH, .inl (cI, 512, .inl fH))] := hD
  try dsimp only at wr_1
  subst wr_1
  refine lv_if_eq (tgt := 21) hx hb dX8_half_9 (by decide) (fun c_9_1 => ?_) (fun c_9_1 => ?_)
  · have t_9_1 := c_9_1
    try simp only [kb_eq0, kb_ne0, lg_cmp_lt, lg_cmp_le, lg_cmp_gt, lg_cmp_ge, lg_cmp_eq] at t_9_1
    try simp only [Int32.lt_iff_toInt_lt, Int32.le_iff_toInt_le, ← Int32.toInt_inj, Int64.lt_iff_toInt_lt, Int64.le_iff_toInt_le, ← Int64.toInt_inj, Int32.toInt_toInt64, Int32.reduceToInt, Int64.reduceToInt] at t_9_1
    refine lv_iconst (v := (-1)) hx hb dX8_half_21 (by decide) ?_
    refine kIret (u := ()) hx hb hr rfl hlocks hS dX8_half_22 ?_ (hP.sub [0, 1] rfl) (hD.sub [0, 1] (by decide) rfl)
    exact trivial
  · have t_9_1 := c_9_1
    try simp only [kb_eq0, kb_ne0, lg_cmp_lt, lg_cmp_le, lg_cmp_gt, lg_cmp_ge, lg_cmp_eq] at t_9_1
    try simp only [Int32.lt_iff_toInt_lt, Int32.le_iff_toInt_le, ← Int32.toInt_inj, Int64.lt_iff_toInt_lt, Int64.le_iff_toInt_le, ← Int64.toInt_inj, Int32.toInt_toInt64, Int32.reduceToInt, Int64.reduceToInt] at t_9_1
    refine lv_aload_n hx hb dX8_half_12 rfl (lv_at hl 0 rfl) ?_
    refine va_get (D := D) (ci := 8) (v := .ref mH) (C := RX8) (T := TX8) (N := 31) hx hb hts iX8_half_X8 hown hK hP 0 rfl rfl 0 (by decide) (hts (.fieldLink RX8 7 "TapeCalculatorModel" "half" "[I") (List.mem_of_getElem? (i := 2) rfl)) (fun _ h9 => h9) rfl dX8_half_13 ?_
    refine lv_iload_n hx hb dX8_half_16 rfl (lv_at hl 1 rfl) ?_
    refine va_iald hx hb hK hP 1 0 rfl rfl (vp_in_iff.mpr (by omega)) dX8_half_17 ?_
    refine lv_goto (tgt := 22) hx hb dX8_half_18 (by decide) ?_
    refine kIret (u := ()) hx hb hr rfl hlocks hS dX8_half_22 ?_ (hP.sub [0, 1] rfl) (hD.sub [0, 1] (by decide) rfl)
    exact trivial
set_option maxRecDepth 100000 in
theorem iX8_put_X8 : ∀ w ∈ wsX80, w ∈ wsX8_put := fun w h => (goodIn_r (big := wsX8_put) wsX80 [8, 9, 10, 11, 12, 13, 14, 15, 16, 17, 18, 19, 20, 21, 22, 23, 24, 25, 26, 27, 28, 29, 30, 31, 32, 33, 34, 35, 36, 37, 38] rfl (by decide +kernel) w h).1
set_option maxRecDepth 100000 in
set_option maxHeartbeats 4000000 in
theorem q_put (l : Launch) (D : va_G) (cI cL cB cZ cT : ClassId) (sz : Nat) (m0 mH mI mJ mS mD mX mA mB mW mL : Nat) (aM : Int32) (aC : Int64) (mM : Int32) (mQ : Int64) (oV pL lI sW dP sT : Int32) (aT : Int64) (cH iW iH aE mN : Int32) (sZ : Int64) (tS tA tW lS : Int32) (fH : Nat → Int32) (n b : Int32) : kM (S := ((Nat → Int32))) l yX8_put wsX8_put ({ frames := 1, cells := 0, slots := 0, locals := 25 }) D (kT cI cL cB cZ cT) [.ref m0, .int n, .int b] [(m0, .inr (8, [.ref mH, .int aM, .long aC, .int mM, .long mQ, .int oV, .int pL, .int lI, .int sW, .int dP, .int sT, .long aT, .int cH, .int iW, .ref mI, .ref mJ, .ref mS, .ref mD, .int iH, .int aE, .int mN, .long sZ, .ref mX, .int tS, .int tA, .int tW, .ref mA, .ref mB, .ref mW, .ref mL, .int lS])), (mH, .inl (cI, 512, .inl fH))] sz eI (fun _ _ => True) (fun u => [(m0, .inr (8, [.ref mH, .int aM, .long aC, .int mM, .long mQ, .int oV, .int pL, .int lI, .int sW, .int dP, .int sT, .long aT, .int cH, .int iW, .ref mI, .ref mJ, .ref mS, .ref mD, .int iH, .int aE, .int mN, .long sZ, .ref mX, .int tS, .int tA, .int tW, .ref mA, .ref mB, .ref mW, .ref mL, .int lS])), (mH, .inl (cI, 512, .inl u))]) 0 0 := by
  refine kStart (cc := cX8_put) (maxL := 4) (ret := (some .int)) (own := RX8) (by decide) rfl rfl (Nat.le_of_ble_eq_true rfl) ?_
  intro p e s m args below meth c A ls hx hb hr hml hown hts hlocks hnm hsz hA hG hP hD hS hl
  have hK := hG.1
  have hl : lv_has ls 4 [(0, .ref m0), (1, .int n), (2, .int b)] := hl
  refine lv_iload_n hx hb dX8_put_0 rfl (lv_at hl 1 rfl) ?_
  refine lv_i2l hx hb dX8_put_1 rfl ?_
  refine lv_lconst (v := 0) hx hb dX8_put_2 (by decide) ?_
  refine lv_ldc2 (v := 511) hx hb hown (hts (.constantLong RX8 47 (511)) (List.mem_of_getElem? (i := 1) rfl)) dX8_put_3 ?_
  refine kCallI (wr := [(m0, .inr (8, [.ref mH, .int aM, .long aC, .int mM, .long mQ, .int oV, .int pL, .int lI, .int sW, .int dP, .int sT, .long aT, .int cH, .int iW, .ref mI, .ref mJ, .ref mS, .ref mD, .int iH, .int aE, .int mN, .long sZ, .ref mX, .int tS, .int tA, .int tW, .ref mA, .ref mB, .ref mW, .ref mL, .int lS])), (mH, .inl (cI, 512, .inl fH))]) (va_runS (As := [.long n.toInt64, .long 0, .long 511]) (rest := []) ⟨hx, hb, hml, hown, hts⟩ (q_in l D cI cL cB cZ cT _ (n.toInt64) 0 511) (va_cwS 3 hts gX8_put_X8_in rfl rfl rfl (by decide +kernel) ⟨Nat.le_of_ble_eq_true rfl, Nat.le_of_ble_eq_true rfl⟩) (kPreS hG hP hD [] rfl (by decide)) rfl rfl hl.1 rfl (lv_room (Nat.le_of_ble_eq_true rfl)) dX8_put_6 ⟨Nat.le_of_ble_eq_true rfl, Nat.le_of_ble_eq_true rfl⟩) hA hP hD hS [] [0, 1] rfl rfl (by decide) (by decide) (fun r_1 u_r_1 H locs wr_1 hP hD hS => ?_)
  have hP : va_P D vwCl [(m0, .inr (8, [.ref mH, .int aM, .long aC, .int mM, .long mQ, .int oV, .int pL, .int lI, .int sW, .int dP, .int sT, .long aT, .int cH, .int iW, .ref mI, .ref mJ, .ref mS, .ref mD, .int iH, .int aE, .int mN, .long sZ, .ref mX, .int tS, .int tA, .int tW, .ref mA, .ref mB, .ref mW, .ref mL, .int lS])), (mH, .inl (cI, 512, .inl fH))] H := hP
  have hD : va_D A [(m0, .inr (8, [.ref mH, .int aM, .long aC, .int mM, .long mQ, .int oV, .int pL, .int lI, .int sW, .int dP, .int sT, .long aT, .int cH, .int iW, .ref mI, .ref mJ, .ref mS, .ref mD, .int iH, .int aE, .int mN, .long sZ, .ref mX, .int tS, .int tA, .int tW, .ref mA, .ref mB, .ref mW, .ref mL, .int lS])), (mH, .inl (cI, 512, .inl fH))] := hD
  try dsimp only at wr_1
  subst wr_1
  refine lv_if_eq (tgt := 24) hx hb dX8_put_9 (by decide) (fun c_9_1 => ?_) (fun c_9_1 => ?_)
  · have t_9_1 := c_9_1
    try simp only [kb_eq0, kb_ne0, lg_cmp_lt, lg_cmp_le, lg_cmp_gt, lg_cmp_ge, lg_cmp_eq] at t_9_1
    try simp only [Int32.lt_iff_toInt_lt, Int32.le_iff_toInt_le, ← Int32.toInt_inj, Int64.lt_iff_toInt_lt, Int64.le_iff_toInt_le, ← Int64.toInt_inj, Int32.toInt_toInt64, Int32.reduceToInt, Int64.reduceToInt] at t_9_1
    refine lv_iconst (v := (-1)) hx hb dX8_put_24 (by decide) ?_
    refine kIret (u := fH) hx hb hr rfl hlocks hS dX8_put_25 ?_ (hP.sub [0, 1] rfl) (hD.sub [0, 1] (by decide) rfl)
    exact trivial
  · have t_9_1 := c_9_1
    try simp only [kb_eq0, kb_ne0, lg_cmp_lt, lg_cmp_le, lg_cmp_gt, lg_cmp_ge, lg_cmp_eq] at t_9_1
    try simp only [Int32.lt_iff_toInt_lt, Int32.le_iff_toInt_le, ← Int32.toInt_inj, Int64.lt_iff_toInt_lt, Int64.le_iff_toInt_le, ← Int64.toInt_inj, Int32.toInt_toInt64, Int32.reduceToInt, Int64.reduceToInt] at t_9_1
    refine lv_iload_n hx hb dX8_put_12 rfl (lv_at hl 2 rfl) ?_
    refine lv_i2l hx hb dX8_put_13 rfl ?_
    refine lv_lconst (v := 0) hx hb dX8_put_14 (by decide) ?_
    refine lv_ldc2 (v := 262143) hx hb hown (hts (.constantLong RX8 53 (262143)) (List.mem_of_getElem? (i := 2) rfl)) dX8_put_15 ?_
    refine kCallI (wr := [(m0, .inr (8, [.ref mH, .int aM, .long aC, .int mM, .long mQ, .int oV, .int pL, .int lI, .int sW, .int dP, .int sT, .long aT, .int cH, .int iW, .ref mI, .ref mJ, .ref mS, .ref mD, .int iH, .int aE, .int mN, .long sZ, .ref mX, .int tS, .int tA, .int tW, .ref mA, .ref mB, .ref mW, .ref mL, .int lS])), (mH, .inl (cI, 512, .inl fH))]) (va_runS (As := [.long b.toInt64, .long 0, .long 262143]) (rest := []) ⟨hx, hb, hml, hown, hts⟩ (q_in l D cI cL cB cZ cT _ (b.toInt64) 0 262143) (va_cwS 3 hts gX8_put_X8_in rfl rfl rfl (by decide +kernel) ⟨Nat.le_of_ble_eq_true rfl, Nat.le_of_ble_eq_true rfl⟩) (kPreS hG hP hD [] rfl (by decide)) rfl rfl hl.1 rfl (lv_room (Nat.le_of_ble_eq_true rfl)) dX8_put_18 ⟨Nat.le_of_ble_eq_true rfl, Nat.le_of_ble_eq_true rfl⟩) hA hP hD hS [] [0, 1] rfl rfl (by decide) (by decide) (fun r_3 u_r_3 H locs wr_3 hP hD hS => ?_)
    have hP : va_P D vwCl [(m0, .inr (8, [.ref mH, .int aM, .long aC, .int mM, .long mQ, .int oV, .int pL, .int lI, .int sW, .int dP, .int sT, .long aT, .int cH, .int iW, .ref mI, .ref mJ, .ref mS, .ref mD, .int iH, .int aE, .int mN, .long sZ, .ref mX, .int tS, .int tA, .int tW, .ref mA, .ref mB, .ref mW, .ref mL, .int lS])), (mH, .inl (cI, 512, .inl fH))] H := hP
    have hD : va_D A [(m0, .inr (8, [.ref mH, .int aM, .long aC, .int mM, .long mQ, .int oV, .int pL, .int lI, .int sW, .int dP, .int sT, .long aT, .int cH, .int iW, .ref mI, .ref mJ, .ref mS, .ref mD, .int iH, .int aE, .int mN, .long sZ, .ref mX, .int tS, .int tA, .int tW, .ref mA, .ref mB, .ref mW, .ref mL, .int lS])), (mH, .inl (cI, 512, .inl fH))] := hD
    try dsimp only at wr_3
    subst wr_3
    refine lv_if_ne (tgt := 26) hx hb dX8_put_21 (by decide) (fun c_21_3 => ?_) (fun c_21_3 => ?_)
    · have t_21_3 := c_21_3
      try simp only [kb_eq0, kb_ne0, lg_cmp_lt, lg_cmp_le, lg_cmp_gt, lg_cmp_ge, lg_cmp_eq] at t_21_3
      try simp only [Int32.lt_iff_toInt_lt, Int32.le_iff_toInt_le, ← Int32.toInt_inj, Int64.lt_iff_toInt_lt, Int64.le_iff_toInt_le, ← Int64.toInt_inj, Int32.toInt_toInt64, Int32.reduceToInt, Int64.reduceToInt] at t_21_3
      refine lv_aload_n hx hb dX8_put_26 rfl (lv_at hl 0 rfl) ?_
      refine va_get (D := D) (ci := 8) (v := .ref mH) (C := RX8) (T := TX8) (N := 31) hx hb hts iX8_put_X8 hown hK hP 0 rfl rfl 0 (by decide) (hts (.fieldLink RX8 7 "TapeCalculatorModel" "half" "[I") (List.mem_of_getElem? (i := 3) rfl)) (fun _ h9 => h9) rfl dX8_put_27 ?_
      refine lv_iload_n hx hb dX8_put_30 rfl (lv_at hl 1 rfl) ?_
      refine va_iald hx hb hK hP 1 0 rfl rfl (vp_in_iff.mpr (by omega)) dX8_put_31 ?_
      refine lv_topi (fun x_5 ex_5 => ?_)
      refine lv_istore_n (lv' := [(3, .int x_5), (0, .ref m0), (1, .int n), (2, .int b)]) hx hb dX8_put_32 rfl hl (by decide) rfl (fun ls hl => ?_)
      refine lv_aload_n hx hb dX8_put_33 rfl (lv_at hl 1 rfl) ?_
      refine va_get (D := D) (ci := 8) (v := .ref mH) (C := RX8) (T := TX8) (N := 31) hx hb hts iX8_put_X8 hown hK hP 0 rfl rfl 0 (by decide) (hts (.fieldLink RX8 7 "TapeCalculatorModel" "half" "[I") (List.mem_of_getElem? (i := 3) rfl)) (fun _ h9 => h9) rfl dX8_put_34 ?_
      refine lv_iload_n hx hb dX8_put_37 rfl (lv_at hl 2 rfl) ?_
      refine lv_iload_n hx hb dX8_put_38 rfl (lv_at hl 3 rfl) ?_
      refine va_iast hx hb hK hP hD hS 1 0 rfl rfl (vp_in_iff.mpr (by omega)) dX8_put_39 (fun H locs hP hD hS => ?_)
      have hP : va_P D vwCl [(m0, .inr (8, [.ref mH, .int aM, .long aC, .int mM, .long mQ, .int oV, .int pL, .int lI, .int sW, .int dP, .int sT, .long aT, .int cH, .int iW, .ref mI, .ref mJ, .ref mS, .ref mD, .int iH, .int aE, .int mN, .long sZ, .ref mX, .int tS, .int tA, .int tW, .ref mA, .ref mB, .ref mW, .ref mL, .int lS])), (mH, .inl (cI, 512, .inl (upd fH n.toNatClampNeg b)))] H := hP
      have hD : va_D A [(m0, .inr (8, [.ref mH, .int aM, .long aC, .int mM, .long mQ, .int oV, .int pL, .int lI, .int sW, .int dP, .int sT, .long aT, .int cH, .int iW, .ref mI, .ref mJ, .ref mS, .ref mD, .int iH, .int aE, .int mN, .long sZ, .ref mX, .int tS, .int tA, .int tW, .ref mA, .ref mB, .ref mW, .ref mL, .int lS])), (mH, .inl (cI, 512, .inl (upd fH n.toNatClampNeg b)))] := hD
      refine lv_iload_n hx hb dX8_put_40 rfl (lv_at hl 0 rfl) ?_
      refine kIret (u := (upd fH n.toNatClampNeg b)) hx hb hr rfl hlocks hS dX8_put_41 ?_ (hP.sub [0, 1] rfl) (hD.sub [0, 1] (by decide) rfl)
      exact trivial
    · have t_21_3 := c_21_3
      try simp only [kb_eq0, kb_ne0, lg_cmp_lt, lg_cmp_le, lg_cmp_gt, lg_cmp_ge, lg_cmp_eq] at t_21_3
      try simp only [Int32.lt_iff_toInt_lt, Int32.le_iff_toInt_le, ← Int32.toInt_inj, Int64.lt_iff_toInt_lt, Int64.le_iff_toInt_le, ← Int64.toInt_inj, Int32.toInt_toInt64, Int32.reduceToInt, Int64.reduceToInt] at t_21_3
      refine lv_iconst (v := (-1)) hx hb dX8_put_24 (by decide) ?_
      refine kIret (u := fH) hx hb hr rfl hlocks hS dX8_put_25 ?_ (hP.sub [0, 1] rfl) (hD.sub [0, 1] (by decide) rfl)
      exact trivial
theorem k_even {n : Int32} (h : 0 ≤ n.toInt ∧ n.toInt ≤ 511) : ((n - n / 2 * 2).toInt = 0 ↔ (n &&& 1).toInt = 0) ∧ ((n - n / 2 * 2).toInt = 0 → vp_in (n + 1) 512) ∧ (¬ (n - n / 2 * 2).toInt = 1 → vp_in (n + 1) 512) := by
  obtain ⟨k, hk, rfl⟩ : ∃ k : Nat, k < 512 ∧ n = nI k := by
    obtain ⟨j, hj, rfl⟩ := nI_of (x := n) (by rw [Int32.lt_iff_toInt_lt]; simp only [Int32.reduceToInt]; omega)
    rw [nI_toInt hj] at h
    exact ⟨j, by omega, rfl⟩
  have e1 : nI k - nI k / 2 * 2 = nI (k % 2) := pk_rem (d := 2) (by omega) (by omega) (by omega)
  have e2 : nI k &&& 1 = nI (k % 2) := pk_andN (by omega) 1 (by decide)
  rw [e1, e2, nI_toInt (by omega)]
  refine ⟨Iff.rfl, fun hz => ?_, fun hz => ?_⟩
  · rw [nI_1]
    exact vp_in_nI (by omega) (by omega)
  · rw [nI_1]
    exact vp_in_nI (by omega) (by omega)
theorem k_in1 {n : Int32} (h : 0 ≤ n.toInt ∧ n.toInt ≤ 510) : vp_in (n + 1) 512 := by
  rw [vp_in_iff, k_addg (by omega) (by decide)]
  simp only [Int32.reduceToInt]
  omega
set_option maxRecDepth 100000 in
theorem iX8_wholeAt_X8 : ∀ w ∈ wsX80, w ∈ wsX8_wholeAt := fun w h => (goodIn_r (big := wsX8_wholeAt) wsX80 [2, 3, 4, 5, 6, 7, 8, 9, 10, 11, 12, 13, 14, 15, 16, 17, 18, 19, 20, 21, 22, 23, 24, 25, 26, 27, 28, 29, 30, 31, 32] rfl (by decide +kernel) w h).1
set_option maxRecDepth 100000 in
set_option maxHeartbeats 4000000 in
theorem q_wholeAt (l : Launch) (D : va_G) (cI cL cB cZ cT : ClassId) (sz : Nat) (m0 mH mI mJ mS mD mX mA mB mW mL : Nat) (aM : Int32) (aC : Int64) (mM : Int32) (mQ : Int64) (oV pL lI sW dP sT : Int32) (aT : Int64) (cH iW iH aE mN : Int32) (sZ : Int64) (tS tA tW lS : Int32) (fH : Nat → Int32) (n : Int32) (h1 : vp_in n 512) (h2 : vp_in (n + 1) 512) : kM (S := Unit) l yX8_wholeAt wsX8_wholeAt ({ frames := 0, cells := 0, slots := 0, locals := 0 }) D (kT cI cL cB cZ cT) [.ref m0, .int n] [(m0, .inr (8, [.ref mH, .int aM, .long aC, .int mM, .long mQ, .int oV, .int pL, .int lI, .int sW, .int dP, .int sT, .long aT, .int cH, .int iW, .ref mI, .ref mJ, .ref mS, .ref mD, .int iH, .int aE, .int mN, .long sZ, .ref mX, .int tS, .int tA, .int tW, .ref mA, .ref mB, .ref mW, .ref mL, .int lS])), (mH, .inl (cI, 512, .inl fH))] sz eL (fun _ _ => True) (fun _ => [(m0, .inr (8, [.ref mH, .int aM, .long aC, .int mM, .long mQ, .int oV, .int pL, .int lI, .int sW, .int dP, .int sT, .long aT, .int cH, .int iW, .ref mI, .ref mJ, .ref mS, .ref mD, .int iH, .int aE, .int mN, .long sZ, .ref mX, .int tS, .int tA, .int tW, .ref mA, .ref mB, .ref mW, .ref mL, .int lS])), (mH, .inl (cI, 512, .inl fH))]) 0 0 := by
  refine kStart (cc := cX8_wholeAt) (maxL := 2) (ret := (some .long)) (own := RX8) (by decide) rfl rfl (Nat.le_of_ble_eq_true rfl) ?_
  intro p e s m args below meth c A ls hx hb hr hml hown hts hlocks hnm hsz hA hG hP hD hS hl
  have hK := hG.1
  have hl : lv_has ls 2 [(0, .ref m0), (1, .int n)] := hl
  refine lv_aload_n hx hb dX8_wholeAt_0 rfl (lv_at hl 0 rfl) ?_
  refine va_get (D := D) (ci := 8) (v := .ref mH) (C := RX8) (T := TX8) (N := 31) hx hb hts iX8_wholeAt_X8 hown hK hP 0 rfl rfl 0 (by decide) (hts (.fieldLink RX8 7 "TapeCalculatorModel" "half" "[I") (List.mem_of_getElem? (i := 1) rfl)) (fun _ h9 => h9) rfl dX8_wholeAt_1 ?_
  refine lv_iload_n hx hb dX8_wholeAt_4 rfl (lv_at hl 1 rfl) ?_
  refine va_iald hx hb hK hP 1 0 rfl rfl h1 dX8_wholeAt_5 ?_
  refine lv_i2l hx hb dX8_wholeAt_6 rfl ?_
  refine lv_bipush (v := 18) hx hb dX8_wholeAt_7 (by decide) ?_
  refine lv_lshl hx hb dX8_wholeAt_9 rfl ?_
  refine lv_aload_n hx hb dX8_wholeAt_10 rfl (lv_at hl 0 rfl) ?_
  refine va_get (D := D) (ci := 8) (v := .ref mH) (C := RX8) (T := TX8) (N := 31) hx hb hts iX8_wholeAt_X8 hown hK hP 0 rfl rfl 0 (by decide) (hts (.fieldLink RX8 7 "TapeCalculatorModel" "half" "[I") (List.mem_of_getElem? (i := 1) rfl)) (fun _ h9 => h9) rfl dX8_wholeAt_11 ?_
  refine lv_iload_n hx hb dX8_wholeAt_14 rfl (lv_at hl 1 rfl) ?_
  refine lv_iconst (v := 1) hx hb dX8_wholeAt_15 (by decide) ?_
  refine lv_iadd hx hb dX8_wholeAt_16 ?_
  refine va_iald hx hb hK hP 1 0 rfl rfl h2 dX8_wholeAt_17 ?_
  refine lv_i2l hx hb dX8_wholeAt_18 rfl ?_
  refine lv_lor hx hb dX8_wholeAt_19 ?_
  refine kLret (u := ()) hx hb hr hlocks hS dX8_wholeAt_20 ?_ (hP.sub [0, 1] rfl) (hD.sub [0, 1] (by decide) rfl)
  exact trivial
set_option maxRecDepth 100000 in
theorem iX8_putWhole_X8 : ∀ w ∈ wsX80, w ∈ wsX8_putWhole := fun w h => (goodIn_r (big := wsX8_putWhole) wsX80 [3, 4, 5, 6, 7, 8, 9, 10, 11, 12, 13, 14, 15, 16, 17, 18, 19, 20, 21, 22, 23, 24, 25, 26, 27, 28, 29, 30, 31, 32, 33] rfl (by decide +kernel) w h).1
set_option maxRecDepth 100000 in
set_option maxHeartbeats 4000000 in
theorem q_putWhole (l : Launch) (D : va_G) (cI cL cB cZ cT : ClassId) (sz : Nat) (m0 mH mI mJ mS mD mX mA mB mW mL : Nat) (aM : Int32) (aC : Int64) (mM : Int32) (mQ : Int64) (oV pL lI sW dP sT : Int32) (aT : Int64) (cH iW iH aE mN : Int32) (sZ : Int64) (tS tA tW lS : Int32) (fH : Nat → Int32) (n : Int32) (v : Int64) (h1 : vp_in n 512) (h2 : vp_in (n + 1) 512) : kM (S := ((Nat → Int32))) l yX8_putWhole wsX8_putWhole ({ frames := 0, cells := 0, slots := 0, locals := 0 }) D (kT cI cL cB cZ cT) [.ref m0, .int n, .long v] [(m0, .inr (8, [.ref mH, .int aM, .long aC, .int mM, .long mQ, .int oV, .int pL, .int lI, .int sW, .int dP, .int sT, .long aT, .int cH, .int iW, .ref mI, .ref mJ, .ref mS, .ref mD, .int iH, .int aE, .int mN, .long sZ, .ref mX, .int tS, .int tA, .int tW, .ref mA, .ref mB, .ref mW, .ref mL, .int lS])), (mH, .inl (cI, 512, .inl fH))] sz eV (fun _ _ => True) (fun u => [(m0, .inr (8, [.ref mH, .int aM, .long aC, .int mM, .long mQ, .int oV, .int pL, .int lI, .int sW, .int dP, .int sT, .long aT, .int cH, .int iW, .ref mI, .ref mJ, .ref mS, .ref mD, .int iH, .int aE, .int mN, .long sZ, .ref mX, .int tS, .int tA, .int tW, .ref mA, .ref mB, .ref mW, .ref mL, .int lS])), (mH, .inl (cI, 512, .inl u))]) 0 0 := by
  refine kStart (cc := cX8_putWhole) (maxL := 4) (ret := none) (own := RX8) (by decide) rfl rfl (Nat.le_of_ble_eq_true rfl) ?_
  intro p e s m args below meth c A ls hx hb hr hml hown hts hlocks hnm hsz hA hG hP hD hS hl
  have hK := hG.1
  have hl : lv_has ls 4 [(0, .ref m0), (1, .int n), (2, .long v)] := hl
  refine lv_aload_n hx hb dX8_putWhole_0 rfl (lv_at hl 0 rfl) ?_
  refine va_get (D := D) (ci := 8) (v := .ref mH) (C := RX8) (T := TX8) (N := 31) hx hb hts iX8_putWhole_X8 hown hK hP 0 rfl rfl 0 (by decide) (hts (.fieldLink RX8 7 "TapeCalculatorModel" "half" "[I") (List.mem_of_getElem? (i := 1) rfl)) (fun _ h9 => h9) rfl dX8_putWhole_1 ?_
  refine lv_iload_n hx hb dX8_putWhole_4 rfl (lv_at hl 1 rfl) ?_
  refine lv_lload_n hx hb dX8_putWhole_5 rfl (lv_at hl 2 rfl) ?_
  refine lv_bipush (v := 18) hx hb dX8_putWhole_6 (by decide) ?_
  refine lv_lshr hx hb dX8_putWhole_8 rfl ?_
  refine lv_ldc2 (v := 262143) hx hb hown (hts (.constantLong RX8 53 (262143)) (List.mem_of_getElem? (i := 2) rfl)) dX8_putWhole_9 ?_
  refine lv_land hx hb dX8_putWhole_12 ?_
  refine lv_l2i hx hb dX8_putWhole_13 rfl ?_
  refine va_iast hx hb hK hP hD hS 1 0 rfl rfl h1 dX8_putWhole_14 (fun H locs hP hD hS => ?_)
  have hP : va_P D vwCl [(m0, .inr (8, [.ref mH, .int aM, .long aC, .int mM, .long mQ, .int oV, .int pL, .int lI, .int sW, .int dP, .int sT, .long aT, .int cH, .int iW, .ref mI, .ref mJ, .ref mS, .ref mD, .int iH, .int aE, .int mN, .long sZ, .ref mX, .int tS, .int tA, .int tW, .ref mA, .ref mB, .ref mW, .ref mL, .int lS])), (mH, .inl (cI, 512, .inl (upd fH n.toNatClampNeg ((v >>> ((18 : Int32).toInt64 &&& 63)) &&& 262143).toInt32)))] H := hP
  have hD : va_D A [(m0, .inr (8, [.ref mH, .int aM, .long aC, .int mM, .long mQ, .int oV, .int pL, .int lI, .int sW, .int dP, .int sT, .long aT, .int cH, .int iW, .ref mI, .ref mJ, .ref mS, .ref mD, .int iH, .int aE, .int mN, .long sZ, .ref mX, .int tS, .int tA, .int tW, .ref mA, .ref mB, .ref mW, .ref mL, .int lS])), (mH, .inl (cI, 512, .inl (upd fH n.toNatClampNeg ((v >>> ((18 : Int32).toInt64 &&& 63)) &&& 262143).toInt32)))] := hD
  refine lv_aload_n hx hb dX8_putWhole_15 rfl (lv_at hl 0 rfl) ?_
  refine va_get (D := D) (ci := 8) (v := .ref mH) (C := RX8) (T := TX8) (N := 31) hx hb hts iX8_putWhole_X8 hown hK hP 0 rfl rfl 0 (by decide) (hts (.fieldLink RX8 7 "TapeCalculatorModel" "half" "[I") (List.mem_of_getElem? (i := 1) rfl)) (fun _ h9 => h9) rfl dX8_putWhole_16 ?_
  refine lv_iload_n hx hb dX8_putWhole_19 rfl (lv_at hl 1 rfl) ?_
  refine lv_iconst (v := 1) hx hb dX8_putWhole_20 (by decide) ?_
  refine lv_iadd hx hb dX8_putWhole_21 ?_
  refine lv_lload_n hx hb dX8_putWhole_22 rfl (lv_at hl 2 rfl) ?_
  refine lv_ldc2 (v := 262143) hx hb hown (hts (.constantLong RX8 53 (262143)) (List.mem_of_getElem? (i := 2) rfl)) dX8_putWhole_23 ?_
  refine lv_land hx hb dX8_putWhole_26 ?_
  refine lv_l2i hx hb dX8_putWhole_27 rfl ?_
  refine va_iast hx hb hK hP hD hS 1 0 rfl rfl h2 dX8_putWhole_28 (fun H locs hP hD hS => ?_)
  have hP : va_P D vwCl [(m0, .inr (8, [.ref mH, .int aM, .long aC, .int mM, .long mQ, .int oV, .int pL, .int lI, .int sW, .int dP, .int sT, .long aT, .int cH, .int iW, .ref mI, .ref mJ, .ref mS, .ref mD, .int iH, .int aE, .int mN, .long sZ, .ref mX, .int tS, .int tA, .int tW, .ref mA, .ref mB, .ref mW, .ref mL, .int lS])), (mH, .inl (cI, 512, .inl (upd (upd fH n.toNatClampNeg ((v >>> ((18 : Int32).toInt64 &&& 63)) &&& 262143).toInt32) (n + 1).toNatClampNeg (v &&& 262143).toInt32)))] H := hP
  have hD : va_D A [(m0, .inr (8, [.ref mH, .int aM, .long aC, .int mM, .long mQ, .int oV, .int pL, .int lI, .int sW, .int dP, .int sT, .long aT, .int cH, .int iW, .ref mI, .ref mJ, .ref mS, .ref mD, .int iH, .int aE, .int mN, .long sZ, .ref mX, .int tS, .int tA, .int tW, .ref mA, .ref mB, .ref mW, .ref mL, .int lS])), (mH, .inl (cI, 512, .inl (upd (upd fH n.toNatClampNeg ((v >>> ((18 : Int32).toInt64 &&& 63)) &&& 262143).toInt32) (n + 1).toNatClampNeg (v &&& 262143).toInt32)))] := hD
  refine kVret (u := (upd (upd fH n.toNatClampNeg ((v >>> ((18 : Int32).toInt64 &&& 63)) &&& 262143).toInt32) (n + 1).toNatClampNeg (v &&& 262143).toInt32)) hx hb hr hlocks hS dX8_putWhole_29 ?_ (hP.sub [0, 1] rfl) (hD.sub [0, 1] (by decide) rfl)
  exact trivial
set_option maxRecDepth 100000 in
set_option maxHeartbeats 4000000 in
theorem q_whole (l : Launch) (D : va_G) (cI cL cB cZ cT : ClassId) (sz : Nat) (m0 mH mI mJ mS mD mX mA mB mW mL : Nat) (aM : Int32) (aC : Int64) (mM : Int32) (mQ : Int64) (oV pL lI sW dP sT : Int32) (aT : Int64) (cH iW iH aE mN : Int32) (sZ : Int64) (tS tA tW lS : Int32) (fH : Nat → Int32) (n : Int32) : kM (S := Unit) l yX8_whole wsX8_whole ({ frames := 1, cells := 0, slots := 0, locals := 25 }) D (kT cI cL cB cZ cT) [.ref m0, .int n] [(m0, .inr (8, [.ref mH, .int aM, .long aC, .int mM, .long mQ, .int oV, .int pL, .int lI, .int sW, .int dP, .int sT, .long aT, .int cH, .int iW, .ref mI, .ref mJ, .ref mS, .ref mD, .int iH, .int aE, .int mN, .long sZ, .ref mX, .int tS, .int tA, .int tW, .ref mA, .ref mB, .ref mW, .ref mL, .int lS])), (mH, .inl (cI, 512, .inl fH))] sz eL (fun _ _ => True) (fun _ => [(m0, .inr (8, [.ref mH, .int aM, .long aC, .int mM, .long mQ, .int oV, .int pL, .int lI, .int sW, .int dP, .int sT, .long aT, .int cH, .int iW, .ref mI, .ref mJ, .ref mS, .ref mD, .int iH, .int aE, .int mN, .long sZ, .ref mX, .int tS, .int tA, .int tW, .ref mA, .ref mB, .ref mW, .ref mL, .int lS])), (mH, .inl (cI, 512, .inl fH))]) 0 0 := by
  refine kStart (cc := cX8_whole) (maxL := 2) (ret := (some .long)) (own := RX8) (by decide) rfl rfl (Nat.le_of_ble_eq_true rfl) ?_
  intro p e s m args below meth c A ls hx hb hr hml hown hts hlocks hnm hsz hA hG hP hD hS hl
  have hK := hG.1
  have hl : lv_has ls 2 [(0, .ref m0), (1, .int n)] := hl
  refine lv_iload_n hx hb dX8_whole_0 rfl (lv_at hl 1 rfl) ?_
  refine lv_i2l hx hb dX8_whole_1 rfl ?_
  refine lv_lconst (v := 0) hx hb dX8_whole_2 (by decide) ?_
  refine lv_ldc2 (v := 511) hx hb hown (hts (.constantLong RX8 47 (511)) (List.mem_of_getElem? (i := 1) rfl)) dX8_whole_3 ?_
  refine kCallI (wr := [(m0, .inr (8, [.ref mH, .int aM, .long aC, .int mM, .long mQ, .int oV, .int pL, .int lI, .int sW, .int dP, .int sT, .long aT, .int cH, .int iW, .ref mI, .ref mJ, .ref mS, .ref mD, .int iH, .int aE, .int mN, .long sZ, .ref mX, .int tS, .int tA, .int tW, .ref mA, .ref mB, .ref mW, .ref mL, .int lS])), (mH, .inl (cI, 512, .inl fH))]) (va_runS (As := [.long n.toInt64, .long 0, .long 511]) (rest := []) ⟨hx, hb, hml, hown, hts⟩ (q_in l D cI cL cB cZ cT _ (n.toInt64) 0 511) (va_cwS 3 hts gX8_whole_X8_in rfl rfl rfl (by decide +kernel) ⟨Nat.le_of_ble_eq_true rfl, Nat.le_of_ble_eq_true rfl⟩) (kPreS hG hP hD [] rfl (by decide)) rfl rfl hl.1 rfl (lv_room (Nat.le_of_ble_eq_true rfl)) dX8_whole_6 ⟨Nat.le_of_ble_eq_true rfl, Nat.le_of_ble_eq_true rfl⟩) hA hP hD hS [] [0, 1] rfl rfl (by decide) (by decide) (fun r_1 u_r_1 H locs wr_1 hP hD hS => ?_)
  have hP : va_P D vwCl [(m0, .inr (8, [.ref mH, .int aM, .long aC, .int mM, .long mQ, .int oV, .int pL, .int lI, .int sW, .int dP, .int sT, .long aT, .int cH, .int iW, .ref mI, .ref mJ, .ref mS, .ref mD, .int iH, .int aE, .int mN, .long sZ, .ref mX, .int tS, .int tA, .int tW, .ref mA, .ref mB, .ref mW, .ref mL, .int lS])), (mH, .inl (cI, 512, .inl fH))] H := hP
  have hD : va_D A [(m0, .inr (8, [.ref mH, .int aM, .long aC, .int mM, .long mQ, .int oV, .int pL, .int lI, .int sW, .int dP, .int sT, .long aT, .int cH, .int iW, .ref mI, .ref mJ, .ref mS, .ref mD, .int iH, .int aE, .int mN, .long sZ, .ref mX, .int tS, .int tA, .int tW, .ref mA, .ref mB, .ref mW, .ref mL, .int lS])), (mH, .inl (cI, 512, .inl fH))] := hD
  try dsimp only at wr_1
  subst wr_1
  refine lv_if_eq (tgt := 26) hx hb dX8_whole_9 (by decide) (fun c_9_1 => ?_) (fun c_9_1 => ?_)
  · have t_9_1 := c_9_1
    try simp only [kb_eq0, kb_ne0, lg_cmp_lt, lg_cmp_le, lg_cmp_gt, lg_cmp_ge, lg_cmp_eq] at t_9_1
    try simp only [Int32.lt_iff_toInt_lt, Int32.le_iff_toInt_le, ← Int32.toInt_inj, Int64.lt_iff_toInt_lt, Int64.le_iff_toInt_le, ← Int64.toInt_inj, Int32.toInt_toInt64, Int32.reduceToInt, Int64.reduceToInt] at t_9_1
    refine lv_ldc2 (v := (-1)) hx hb hown (hts (.constantLong RX8 59 (-1)) (List.mem_of_getElem? (i := 2) rfl)) dX8_whole_26 ?_
    refine kLret (u := ()) hx hb hr hlocks hS dX8_whole_29 ?_ (hP.sub [0, 1] rfl) (hD.sub [0, 1] (by decide) rfl)
    exact trivial
  · have t_9_1 := c_9_1
    try simp only [kb_eq0, kb_ne0, lg_cmp_lt, lg_cmp_le, lg_cmp_gt, lg_cmp_ge, lg_cmp_eq] at t_9_1
    try simp only [Int32.lt_iff_toInt_lt, Int32.le_iff_toInt_le, ← Int32.toInt_inj, Int64.lt_iff_toInt_lt, Int64.le_iff_toInt_le, ← Int64.toInt_inj, Int32.toInt_toInt64, Int32.reduceToInt, Int64.reduceToInt] at t_9_1
    refine lv_iload_n hx hb dX8_whole_12 rfl (lv_at hl 1 rfl) ?_
    refine lv_iconst (v := 2) hx hb dX8_whole_13 (by decide) ?_
    refine lv_irem hx hb dX8_whole_14 (by decide) ?_
    refine lv_if_ne (tgt := 26) hx hb dX8_whole_15 (by decide) (fun c_15_2 => ?_) (fun c_15_2 => ?_)
    · have t_15_2 := c_15_2
      try simp only [kb_eq0, kb_ne0, lg_cmp_lt, lg_cmp_le, lg_cmp_gt, lg_cmp_ge, lg_cmp_eq] at t_15_2
      try simp only [Int32.lt_iff_toInt_lt, Int32.le_iff_toInt_le, ← Int32.toInt_inj, Int64.lt_iff_toInt_lt, Int64.le_iff_toInt_le, ← Int64.toInt_inj, Int32.toInt_toInt64, Int32.reduceToInt, Int64.reduceToInt] at t_15_2
      refine lv_ldc2 (v := (-1)) hx hb hown (hts (.constantLong RX8 59 (-1)) (List.mem_of_getElem? (i := 2) rfl)) dX8_whole_26 ?_
      refine kLret (u := ()) hx hb hr hlocks hS dX8_whole_29 ?_ (hP.sub [0, 1] rfl) (hD.sub [0, 1] (by decide) rfl)
      exact trivial
    · have t_15_2 := c_15_2
      try simp only [kb_eq0, kb_ne0, lg_cmp_lt, lg_cmp_le, lg_cmp_gt, lg_cmp_ge, lg_cmp_eq] at t_15_2
      try simp only [Int32.lt_iff_toInt_lt, Int32.le_iff_toInt_le, ← Int32.toInt_inj, Int64.lt_iff_toInt_lt, Int64.le_iff_toInt_le, ← Int64.toInt_inj, Int32.toInt_toInt64, Int32.reduceToInt, Int64.reduceToInt] at t_15_2
      refine lv_aload_n hx hb dX8_whole_18 rfl (lv_at hl 0 rfl) ?_
      refine lv_iload_n hx hb dX8_whole_19 rfl (lv_at hl 1 rfl) ?_
      refine kCallL (wr := []) (va_runV (As := [.int n]) (rest := []) ⟨hx, hb, hml, hown, hts⟩ (q_wholeAt l D cI cL cB cZ cT _ m0 mH mI mJ mS mD mX mA mB mW mL aM aC mM mQ oV pL lI sW dP sT aT cH iW iH aE mN sZ tS tA tW lS fH n (vp_in_iff.mpr (by omega)) ((k_even (n := n) (by omega)).2.1 t_15_2)) (cwV 1 hts gX8_whole_X8_wholeAt rfl rfl rfl (by decide +kernel) ⟨Nat.le_of_ble_eq_true rfl, Nat.le_of_ble_eq_true rfl⟩) (kPreV hG hP hD [0, 1] rfl (by decide) 0 8 rfl rfl rfl) rfl rfl hl.1 rfl (lv_room (Nat.le_of_ble_eq_true rfl)) dX8_whole_20 ⟨Nat.le_of_ble_eq_true rfl, Nat.le_of_ble_eq_true rfl⟩) hA hP hD hS [0, 1] [] rfl rfl (by decide) (by decide) (fun r_4 u_r_4 H locs wr_4 hP hD hS => ?_)
      have hP : va_P D vwCl [(m0, .inr (8, [.ref mH, .int aM, .long aC, .int mM, .long mQ, .int oV, .int pL, .int lI, .int sW, .int dP, .int sT, .long aT, .int cH, .int iW, .ref mI, .ref mJ, .ref mS, .ref mD, .int iH, .int aE, .int mN, .long sZ, .ref mX, .int tS, .int tA, .int tW, .ref mA, .ref mB, .ref mW, .ref mL, .int lS])), (mH, .inl (cI, 512, .inl fH))] H := hP
      have hD : va_D A [(m0, .inr (8, [.ref mH, .int aM, .long aC, .int mM, .long mQ, .int oV, .int pL, .int lI, .int sW, .int dP, .int sT, .long aT, .int cH, .int iW, .ref mI, .ref mJ, .ref mS, .ref mD, .int iH, .int aE, .int mN, .long sZ, .ref mX, .int tS, .int tA, .int tW, .ref mA, .ref mB, .ref mW, .ref mL, .int lS])), (mH, .inl (cI, 512, .inl fH))] := hD
      try dsimp only at wr_4
      try simp only [Int32.reduceToInt, Int64.reduceToInt] at wr_4
      refine lv_goto (tgt := 29) hx hb dX8_whole_23 (by decide) ?_
      refine kLret (u := ()) hx hb hr hlocks hS dX8_whole_29 ?_ (hP.sub [0, 1] rfl) (hD.sub [0, 1] (by decide) rfl)
      exact trivial
set_option maxRecDepth 100000 in
theorem iX8_told_X8 : ∀ w ∈ wsX80, w ∈ wsX8_told := fun w h => (goodIn_r (big := wsX8_told) wsX80 [12, 13, 14, 15, 16, 17, 18, 19, 20, 21, 22, 23, 24, 25, 26, 27, 28, 29, 30, 31, 32, 33, 34, 35, 36, 37, 38, 39, 40, 41, 42] rfl (by decide +kernel) w h).1
set_option maxRecDepth 100000 in
set_option maxHeartbeats 4000000 in
theorem q_told (l : Launch) (D : va_G) (cI cL cB cZ cT : ClassId) (sz : Nat) (m0 mH mI mJ mS mD mX mA mB mW mL : Nat) (aM : Int32) (aC : Int64) (mM : Int32) (mQ : Int64) (oV pL lI sW dP sT : Int32) (aT : Int64) (cH iW iH aE mN : Int32) (sZ : Int64) (tS tA tW lS : Int32) (w : Int32) : kM (S := Unit) l yX8_told wsX8_told ({ frames := 0, cells := 0, slots := 0, locals := 0 }) D (kT cI cL cB cZ cT) [.ref m0, .int w] [(m0, .inr (8, [.ref mH, .int aM, .long aC, .int mM, .long mQ, .int oV, .int pL, .int lI, .int sW, .int dP, .int sT, .long aT, .int cH, .int iW, .ref mI, .ref mJ, .ref mS, .ref mD, .int iH, .int aE, .int mN, .long sZ, .ref mX, .int tS, .int tA, .int tW, .ref mA, .ref mB, .ref mW, .ref mL, .int lS]))] sz eL (fun _ _ => True) (fun _ => [(m0, .inr (8, [.ref mH, .int aM, .long aC, .int mM, .long mQ, .int oV, .int pL, .int lI, .int sW, .int dP, .int sT, .long aT, .int cH, .int iW, .ref mI, .ref mJ, .ref mS, .ref mD, .int iH, .int aE, .int mN, .long sZ, .ref mX, .int tS, .int tA, .int tW, .ref mA, .ref mB, .ref mW, .ref mL, .int lS]))]) 0 0 := by
  refine kStart (cc := cX8_told) (maxL := 2) (ret := (some .long)) (own := RX8) (by decide) rfl rfl (Nat.le_of_ble_eq_true rfl) ?_
  intro p e s m args below meth c A ls hx hb hr hml hown hts hlocks hnm hsz hA hG hP hD hS hl
  have hK := hG.1
  have hl : lv_has ls 2 [(0, .ref m0), (1, .int w)] := hl
  refine lv_iload_n hx hb dX8_told_0 rfl (lv_at hl 1 rfl) ?_
  rcases ksw_0_9 w with hsw | rfl | rfl | rfl | rfl | rfl | rfl | rfl | rfl | rfl | rfl
  · refine lv_tableOut (tgt := 135) hx hb dX8_told_1 hsw (by decide) ?_
    refine lv_ldc2 (v := (-1)) hx hb hown (hts (.constantLong RX8 59 (-1)) (List.mem_of_getElem? (i := 11) rfl)) dX8_told_135 ?_
    refine kLret (u := ()) hx hb hr hlocks hS dX8_told_138 ?_ (hP.sub [0] rfl) (hD.sub [0] (by decide) rfl)
    exact trivial
  · refine lv_tableIn (tgt := 56) (off := 55) hx hb dX8_told_1 (by decide) (by decide) (by decide) (by decide) ?_
    refine lv_aload_n hx hb dX8_told_56 rfl (lv_at hl 0 rfl) ?_
    refine va_get (D := D) (ci := 8) (v := .int aM) (C := RX8) (T := TX8) (N := 31) hx hb hts iX8_told_X8 hown hK hP 0 rfl rfl 1 (by decide) (hts (.fieldLink RX8 61 "TapeCalculatorModel" "accMinus" "Z") (List.mem_of_getElem? (i := 1) rfl)) (fun _ h9 => h9) rfl dX8_told_57 ?_
    refine lv_if_eq (tgt := 67) hx hb dX8_told_60 (by decide) (fun c_60_0 => ?_) (fun c_60_0 => ?_)
    · have t_60_0 := c_60_0
      try simp only [kb_eq0, kb_ne0, lg_cmp_lt, lg_cmp_le, lg_cmp_gt, lg_cmp_ge, lg_cmp_eq] at t_60_0
      try simp only [Int32.lt_iff_toInt_lt, Int32.le_iff_toInt_le, ← Int32.toInt_inj, Int64.lt_iff_toInt_lt, Int64.le_iff_toInt_le, ← Int64.toInt_inj, Int32.toInt_toInt64, Int32.reduceToInt, Int64.reduceToInt] at t_60_0
      refine lv_lconst (v := 0) hx hb dX8_told_67 (by decide) ?_
      refine kLret (u := ()) hx hb hr hlocks hS dX8_told_68 ?_ (hP.sub [0] rfl) (hD.sub [0] (by decide) rfl)
      exact trivial
    · have t_60_0 := c_60_0
      try simp only [kb_eq0, kb_ne0, lg_cmp_lt, lg_cmp_le, lg_cmp_gt, lg_cmp_ge, lg_cmp_eq] at t_60_0
      try simp only [Int32.lt_iff_toInt_lt, Int32.le_iff_toInt_le, ← Int32.toInt_inj, Int64.lt_iff_toInt_lt, Int64.le_iff_toInt_le, ← Int64.toInt_inj, Int32.toInt_toInt64, Int32.reduceToInt, Int64.reduceToInt] at t_60_0
      refine lv_lconst (v := 1) hx hb dX8_told_63 (by decide) ?_
      refine lv_goto (tgt := 68) hx hb dX8_told_64 (by decide) ?_
      refine kLret (u := ()) hx hb hr hlocks hS dX8_told_68 ?_ (hP.sub [0] rfl) (hD.sub [0] (by decide) rfl)
      exact trivial
  · refine lv_tableIn (tgt := 69) (off := 68) hx hb dX8_told_1 (by decide) (by decide) (by decide) (by decide) ?_
    refine lv_aload_n hx hb dX8_told_69 rfl (lv_at hl 0 rfl) ?_
    refine va_get (D := D) (ci := 8) (v := .long aC) (C := RX8) (T := TX8) (N := 31) hx hb hts iX8_told_X8 hown hK hP 0 rfl rfl 2 (by decide) (hts (.fieldLink RX8 65 "TapeCalculatorModel" "acc" "J") (List.mem_of_getElem? (i := 2) rfl)) (fun _ h9 => h9) rfl dX8_told_70 ?_
    refine kLret (u := ()) hx hb hr hlocks hS dX8_told_73 ?_ (hP.sub [0] rfl) (hD.sub [0] (by decide) rfl)
    exact trivial
  · refine lv_tableIn (tgt := 74) (off := 73) hx hb dX8_told_1 (by decide) (by decide) (by decide) (by decide) ?_
    refine lv_aload_n hx hb dX8_told_74 rfl (lv_at hl 0 rfl) ?_
    refine va_get (D := D) (ci := 8) (v := .int mM) (C := RX8) (T := TX8) (N := 31) hx hb hts iX8_told_X8 hown hK hP 0 rfl rfl 3 (by decide) (hts (.fieldLink RX8 69 "TapeCalculatorModel" "mqMinus" "Z") (List.mem_of_getElem? (i := 3) rfl)) (fun _ h9 => h9) rfl dX8_told_75 ?_
    refine lv_if_eq (tgt := 85) hx hb dX8_told_78 (by decide) (fun c_78_1 => ?_) (fun c_78_1 => ?_)
    · have t_78_1 := c_78_1
      try simp only [kb_eq0, kb_ne0, lg_cmp_lt, lg_cmp_le, lg_cmp_gt, lg_cmp_ge, lg_cmp_eq] at t_78_1
      try simp only [Int32.lt_iff_toInt_lt, Int32.le_iff_toInt_le, ← Int32.toInt_inj, Int64.lt_iff_toInt_lt, Int64.le_iff_toInt_le, ← Int64.toInt_inj, Int32.toInt_toInt64, Int32.reduceToInt, Int64.reduceToInt] at t_78_1
      refine lv_lconst (v := 0) hx hb dX8_told_85 (by decide) ?_
      refine kLret (u := ()) hx hb hr hlocks hS dX8_told_86 ?_ (hP.sub [0] rfl) (hD.sub [0] (by decide) rfl)
      exact trivial
    · have t_78_1 := c_78_1
      try simp only [kb_eq0, kb_ne0, lg_cmp_lt, lg_cmp_le, lg_cmp_gt, lg_cmp_ge, lg_cmp_eq] at t_78_1
      try simp only [Int32.lt_iff_toInt_lt, Int32.le_iff_toInt_le, ← Int32.toInt_inj, Int64.lt_iff_toInt_lt, Int64.le_iff_toInt_le, ← Int64.toInt_inj, Int32.toInt_toInt64, Int32.reduceToInt, Int64.reduceToInt] at t_78_1
      refine lv_lconst (v := 1) hx hb dX8_told_81 (by decide) ?_
      refine lv_goto (tgt := 86) hx hb dX8_told_82 (by decide) ?_
      refine kLret (u := ()) hx hb hr hlocks hS dX8_told_86 ?_ (hP.sub [0] rfl) (hD.sub [0] (by decide) rfl)
      exact trivial
  · refine lv_tableIn (tgt := 87) (off := 86) hx hb dX8_told_1 (by decide) (by decide) (by decide) (by decide) ?_
    refine lv_aload_n hx hb dX8_told_87 rfl (lv_at hl 0 rfl) ?_
    refine va_get (D := D) (ci := 8) (v := .long mQ) (C := RX8) (T := TX8) (N := 31) hx hb hts iX8_told_X8 hown hK hP 0 rfl rfl 4 (by decide) (hts (.fieldLink RX8 72 "TapeCalculatorModel" "mq" "J") (List.mem_of_getElem? (i := 4) rfl)) (fun _ h9 => h9) rfl dX8_told_88 ?_
    refine kLret (u := ()) hx hb hr hlocks hS dX8_told_91 ?_ (hP.sub [0] rfl) (hD.sub [0] (by decide) rfl)
    exact trivial
  · refine lv_tableIn (tgt := 92) (off := 91) hx hb dX8_told_1 (by decide) (by decide) (by decide) (by decide) ?_
    refine lv_aload_n hx hb dX8_told_92 rfl (lv_at hl 0 rfl) ?_
    refine va_get (D := D) (ci := 8) (v := .int oV) (C := RX8) (T := TX8) (N := 31) hx hb hts iX8_told_X8 hown hK hP 0 rfl rfl 5 (by decide) (hts (.fieldLink RX8 75 "TapeCalculatorModel" "over" "Z") (List.mem_of_getElem? (i := 5) rfl)) (fun _ h9 => h9) rfl dX8_told_93 ?_
    refine lv_if_eq (tgt := 103) hx hb dX8_told_96 (by decide) (fun c_96_2 => ?_) (fun c_96_2 => ?_)
    · have t_96_2 := c_96_2
      try simp only [kb_eq0, kb_ne0, lg_cmp_lt, lg_cmp_le, lg_cmp_gt, lg_cmp_ge, lg_cmp_eq] at t_96_2
      try simp only [Int32.lt_iff_toInt_lt, Int32.le_iff_toInt_le, ← Int32.toInt_inj, Int64.lt_iff_toInt_lt, Int64.le_iff_toInt_le, ← Int64.toInt_inj, Int32.toInt_toInt64, Int32.reduceToInt, Int64.reduceToInt] at t_96_2
      refine lv_lconst (v := 0) hx hb dX8_told_103 (by decide) ?_
      refine kLret (u := ()) hx hb hr hlocks hS dX8_told_104 ?_ (hP.sub [0] rfl) (hD.sub [0] (by decide) rfl)
      exact trivial
    · have t_96_2 := c_96_2
      try simp only [kb_eq0, kb_ne0, lg_cmp_lt, lg_cmp_le, lg_cmp_gt, lg_cmp_ge, lg_cmp_eq] at t_96_2
      try simp only [Int32.lt_iff_toInt_lt, Int32.le_iff_toInt_le, ← Int32.toInt_inj, Int64.lt_iff_toInt_lt, Int64.le_iff_toInt_le, ← Int64.toInt_inj, Int32.toInt_toInt64, Int32.reduceToInt, Int64.reduceToInt] at t_96_2
      refine lv_lconst (v := 1) hx hb dX8_told_99 (by decide) ?_
      refine lv_goto (tgt := 104) hx hb dX8_told_100 (by decide) ?_
      refine kLret (u := ()) hx hb hr hlocks hS dX8_told_104 ?_ (hP.sub [0] rfl) (hD.sub [0] (by decide) rfl)
      exact trivial
  · refine lv_tableIn (tgt := 105) (off := 104) hx hb dX8_told_1 (by decide) (by decide) (by decide) (by decide) ?_
    refine lv_aload_n hx hb dX8_told_105 rfl (lv_at hl 0 rfl) ?_
    refine va_get (D := D) (ci := 8) (v := .int pL) (C := RX8) (T := TX8) (N := 31) hx hb hts iX8_told_X8 hown hK hP 0 rfl rfl 6 (by decide) (hts (.fieldLink RX8 78 "TapeCalculatorModel" "place" "I") (List.mem_of_getElem? (i := 6) rfl)) (fun _ h9 => h9) rfl dX8_told_106 ?_
    refine lv_i2l hx hb dX8_told_109 rfl ?_
    refine kLret (u := ()) hx hb hr hlocks hS dX8_told_110 ?_ (hP.sub [0] rfl) (hD.sub [0] (by decide) rfl)
    exact trivial
  · refine lv_tableIn (tgt := 111) (off := 110) hx hb dX8_told_1 (by decide) (by decide) (by decide) (by decide) ?_
    refine lv_aload_n hx hb dX8_told_111 rfl (lv_at hl 0 rfl) ?_
    refine va_get (D := D) (ci := 8) (v := .int lI) (C := RX8) (T := TX8) (N := 31) hx hb hts iX8_told_X8 hown hK hP 0 rfl rfl 7 (by decide) (hts (.fieldLink RX8 81 "TapeCalculatorModel" "lights" "I") (List.mem_of_getElem? (i := 7) rfl)) (fun _ h9 => h9) rfl dX8_told_112 ?_
    refine lv_i2l hx hb dX8_told_115 rfl ?_
    refine kLret (u := ()) hx hb hr hlocks hS dX8_told_116 ?_ (hP.sub [0] rfl) (hD.sub [0] (by decide) rfl)
    exact trivial
  · refine lv_tableIn (tgt := 117) (off := 116) hx hb dX8_told_1 (by decide) (by decide) (by decide) (by decide) ?_
    refine lv_aload_n hx hb dX8_told_117 rfl (lv_at hl 0 rfl) ?_
    refine va_get (D := D) (ci := 8) (v := .int dP) (C := RX8) (T := TX8) (N := 31) hx hb hts iX8_told_X8 hown hK hP 0 rfl rfl 9 (by decide) (hts (.fieldLink RX8 84 "TapeCalculatorModel" "drumPlace" "I") (List.mem_of_getElem? (i := 8) rfl)) (fun _ h9 => h9) rfl dX8_told_118 ?_
    refine lv_i2l hx hb dX8_told_121 rfl ?_
    refine kLret (u := ()) hx hb hr hlocks hS dX8_told_122 ?_ (hP.sub [0] rfl) (hD.sub [0] (by decide) rfl)
    exact trivial
  · refine lv_tableIn (tgt := 123) (off := 122) hx hb dX8_told_1 (by decide) (by decide) (by decide) (by decide) ?_
    refine lv_aload_n hx hb dX8_told_123 rfl (lv_at hl 0 rfl) ?_
    refine va_get (D := D) (ci := 8) (v := .int sT) (C := RX8) (T := TX8) (N := 31) hx hb hts iX8_told_X8 hown hK hP 0 rfl rfl 10 (by decide) (hts (.fieldLink RX8 87 "TapeCalculatorModel" "stopped" "I") (List.mem_of_getElem? (i := 9) rfl)) (fun _ h9 => h9) rfl dX8_told_124 ?_
    refine lv_i2l hx hb dX8_told_127 rfl ?_
    refine kLret (u := ()) hx hb hr hlocks hS dX8_told_128 ?_ (hP.sub [0] rfl) (hD.sub [0] (by decide) rfl)
    exact trivial
  · refine lv_tableIn (tgt := 129) (off := 128) hx hb dX8_told_1 (by decide) (by decide) (by decide) (by decide) ?_
    refine lv_aload_n hx hb dX8_told_129 rfl (lv_at hl 0 rfl) ?_
    refine va_get (D := D) (ci := 8) (v := .int cH) (C := RX8) (T := TX8) (N := 31) hx hb hts iX8_told_X8 hown hK hP 0 rfl rfl 12 (by decide) (hts (.fieldLink RX8 43 "TapeCalculatorModel" "chosen" "I") (List.mem_of_getElem? (i := 10) rfl)) (fun _ h9 => h9) rfl dX8_told_130 ?_
    refine lv_i2l hx hb dX8_told_133 rfl ?_
    refine kLret (u := ()) hx hb hr hlocks hS dX8_told_134 ?_ (hP.sub [0] rfl) (hD.sub [0] (by decide) rfl)
    exact trivial
set_option maxRecDepth 100000 in
theorem iX8_set_X8 : ∀ w ∈ wsX80, w ∈ wsX8_set := fun w h => (goodIn_r (big := wsX8_set) wsX80 [15, 16, 17, 18, 19, 20, 21, 22, 23, 24, 25, 26, 27, 28, 29, 30, 31, 32, 33, 34, 35, 36, 37, 38, 39, 40, 41, 42, 43, 44, 45] rfl (by decide +kernel) w h).1
set_option maxRecDepth 100000 in
set_option maxHeartbeats 4000000 in
theorem q_set (l : Launch) (D : va_G) (cI cL cB cZ cT : ClassId) (sz : Nat) (m0 mH mI mJ mS mD mX mA mB mW mL : Nat) (aM : Int32) (aC : Int64) (mM : Int32) (mQ : Int64) (oV pL lI sW dP sT : Int32) (aT : Int64) (cH iW iH aE mN : Int32) (sZ : Int64) (tS tA tW lS : Int32) (w : Int32) (v : Int64) (haM : jB_ aM) (hmM : jB_ mM) (hoV : jB_ oV) (hpl : jP_ pL) : kM (S := (Int32 × Int64 × Int32 × Int64 × Int32 × Int32)) l yX8_set wsX8_set ({ frames := 1, cells := 0, slots := 0, locals := 25 }) D (kT cI cL cB cZ cT) [.ref m0, .int w, .long v] [(m0, .inr (8, [.ref mH, .int aM, .long aC, .int mM, .long mQ, .int oV, .int pL, .int lI, .int sW, .int dP, .int sT, .long aT, .int cH, .int iW, .ref mI, .ref mJ, .ref mS, .ref mD, .int iH, .int aE, .int mN, .long sZ, .ref mX, .int tS, .int tA, .int tW, .ref mA, .ref mB, .ref mW, .ref mL, .int lS]))] sz eI (fun r u => r = kif (0 ≤ v.toInt ∧ v.toInt ≤ (kMost w).toInt) 1 (-1) ∧ jB_ (u.1) ∧ jB_ (u.2.2.1) ∧ jB_ (u.2.2.2.2.1) ∧ jP_ (u.2.2.2.2.2)) (fun u => [(m0, .inr (8, [.ref mH, .int u.1, .long u.2.1, .int u.2.2.1, .long u.2.2.2.1, .int u.2.2.2.2.1, .int u.2.2.2.2.2, .int lI, .int sW, .int dP, .int sT, .long aT, .int cH, .int iW, .ref mI, .ref mJ, .ref mS, .ref mD, .int iH, .int aE, .int mN, .long sZ, .ref mX, .int tS, .int tA, .int tW, .ref mA, .ref mB, .ref mW, .ref mL, .int lS]))]) 0 0 := by
  refine kStart (cc := cX8_set) (maxL := 6) (ret := (some .int)) (own := RX8) (by decide) rfl rfl (Nat.le_of_ble_eq_true rfl) ?_
  intro p e s m args below meth c A ls hx hb hr hml hown hts hlocks hnm hsz hA hG hP hD hS hl
  have hK := hG.1
  have hl : lv_has ls 6 [(0, .ref m0), (1, .int w), (2, .long v)] := hl
  rcases ksw_0_5 w with hsw | rfl | rfl | rfl | rfl | rfl | rfl
  · refine lv_iload_n hx hb dX8_set_0 rfl (lv_at hl 1 rfl) ?_
    refine lv_if_eq (tgt := 14) hx hb dX8_set_1 (by decide) (fun c_1_0 => ?_) (fun c_1_0 => ?_)
    · have t_1_0 := c_1_0
      try simp only [kb_eq0, kb_ne0, lg_cmp_lt, lg_cmp_le, lg_cmp_gt, lg_cmp_ge, lg_cmp_eq] at t_1_0
      try simp only [Int32.lt_iff_toInt_lt, Int32.le_iff_toInt_le, ← Int32.toInt_inj, Int64.lt_iff_toInt_lt, Int64.le_iff_toInt_le, ← Int64.toInt_inj, Int32.toInt_toInt64, Int32.reduceToInt, Int64.reduceToInt] at t_1_0
      refine lv_lconst (v := 1) hx hb dX8_set_14 (by decide) ?_
      refine lv_goto (tgt := 43) hx hb dX8_set_15 (by decide) ?_
      refine lv_lstore (lv' := [(4, .long 1), (0, .ref m0), (1, .int w), (2, .long v)]) hx hb dX8_set_43 hl (by decide) rfl (fun ls hl => ?_)
      refine lv_iload_n hx hb dX8_set_45 rfl (lv_at hl 2 rfl) ?_
      refine lv_i2l hx hb dX8_set_46 rfl ?_
      refine lv_lconst (v := 0) hx hb dX8_set_47 (by decide) ?_
      refine lv_ldc2 (v := 5) hx hb hown (hts (.constantLong RX8 94 (5)) (List.mem_of_getElem? (i := 4) rfl)) dX8_set_48 ?_
      refine kCallI (wr := [(m0, .inr (8, [.ref mH, .int aM, .long aC, .int mM, .long mQ, .int oV, .int pL, .int lI, .int sW, .int dP, .int sT, .long aT, .int cH, .int iW, .ref mI, .ref mJ, .ref mS, .ref mD, .int iH, .int aE, .int mN, .long sZ, .ref mX, .int tS, .int tA, .int tW, .ref mA, .ref mB, .ref mW, .ref mL, .int lS]))]) (va_runS (As := [.long w.toInt64, .long 0, .long 5]) (rest := []) ⟨hx, hb, hml, hown, hts⟩ (q_in l D cI cL cB cZ cT _ (w.toInt64) 0 5) (va_cwS 3 hts gX8_set_X8_in rfl rfl rfl (by decide +kernel) ⟨Nat.le_of_ble_eq_true rfl, Nat.le_of_ble_eq_true rfl⟩) (kPreS hG hP hD [] rfl (by decide)) rfl rfl hl.1 rfl (lv_room (Nat.le_of_ble_eq_true rfl)) dX8_set_51 ⟨Nat.le_of_ble_eq_true rfl, Nat.le_of_ble_eq_true rfl⟩) hA hP hD hS [] [0] rfl rfl (by decide) (by decide) (fun r_2 u_r_2 H locs wr_2 hP hD hS => ?_)
      have hP : va_P D vwCl [(m0, .inr (8, [.ref mH, .int aM, .long aC, .int mM, .long mQ, .int oV, .int pL, .int lI, .int sW, .int dP, .int sT, .long aT, .int cH, .int iW, .ref mI, .ref mJ, .ref mS, .ref mD, .int iH, .int aE, .int mN, .long sZ, .ref mX, .int tS, .int tA, .int tW, .ref mA, .ref mB, .ref mW, .ref mL, .int lS]))] H := hP
      have hD : va_D A [(m0, .inr (8, [.ref mH, .int aM, .long aC, .int mM, .long mQ, .int oV, .int pL, .int lI, .int sW, .int dP, .int sT, .long aT, .int cH, .int iW, .ref mI, .ref mJ, .ref mS, .ref mD, .int iH, .int aE, .int mN, .long sZ, .ref mX, .int tS, .int tA, .int tW, .ref mA, .ref mB, .ref mW, .ref mL, .int lS]))] := hD
      try dsimp only at wr_2
      subst wr_2
      refine lv_if_eq (tgt := 67) hx hb dX8_set_54 (by decide) (fun c_54_2 => ?_) (fun c_54_2 => ?_)
      · have t_54_2 := c_54_2
        try simp only [kb_eq0, kb_ne0, lg_cmp_lt, lg_cmp_le, lg_cmp_gt, lg_cmp_ge, lg_cmp_eq] at t_54_2
        try simp only [Int32.lt_iff_toInt_lt, Int32.le_iff_toInt_le, ← Int32.toInt_inj, Int64.lt_iff_toInt_lt, Int64.le_iff_toInt_le, ← Int64.toInt_inj, Int32.toInt_toInt64, Int32.reduceToInt, Int64.reduceToInt] at t_54_2
        refine lv_iconst (v := (-1)) hx hb dX8_set_67 (by decide) ?_
        refine kIret (u := (aM, aC, mM, mQ, oV, pL)) hx hb hr rfl hlocks hS dX8_set_68 ?_ (hP.sub [0] rfl) (hD.sub [0] (by decide) rfl)
        have hm := congrArg Int64.toInt (kMost_out hsw)
        simp only [Int64.reduceToInt] at hm
        refine ⟨?_, ?_⟩
        · first | exact (kif_t (by omega)).symm | exact (kif_f (by omega)).symm
        · try dsimp only
          repeat' (with_reducible apply And.intro)
          all_goals first | with_reducible assumption | ((try simp only [jT_, jP_, jD_, jC_, jB_, jW_, Int32.reduceToInt, Int64.reduceToInt, true_or, or_true, true_and, and_true]) <;> omega)
      · have t_54_2 := c_54_2
        try simp only [kb_eq0, kb_ne0, lg_cmp_lt, lg_cmp_le, lg_cmp_gt, lg_cmp_ge, lg_cmp_eq] at t_54_2
        try simp only [Int32.lt_iff_toInt_lt, Int32.le_iff_toInt_le, ← Int32.toInt_inj, Int64.lt_iff_toInt_lt, Int64.le_iff_toInt_le, ← Int64.toInt_inj, Int32.toInt_toInt64, Int32.reduceToInt, Int64.reduceToInt] at t_54_2
        omega
    · have t_1_0 := c_1_0
      try simp only [kb_eq0, kb_ne0, lg_cmp_lt, lg_cmp_le, lg_cmp_gt, lg_cmp_ge, lg_cmp_eq] at t_1_0
      try simp only [Int32.lt_iff_toInt_lt, Int32.le_iff_toInt_le, ← Int32.toInt_inj, Int64.lt_iff_toInt_lt, Int64.le_iff_toInt_le, ← Int64.toInt_inj, Int32.toInt_toInt64, Int32.reduceToInt, Int64.reduceToInt] at t_1_0
      refine lv_iload_n hx hb dX8_set_4 rfl (lv_at hl 1 rfl) ?_
      refine lv_iconst (v := 2) hx hb dX8_set_5 (by decide) ?_
      refine lv_icmp_eq (tgt := 14) hx hb dX8_set_6 (by decide) (fun c_6_3 => ?_) (fun c_6_3 => ?_)
      · have t_6_3 := c_6_3
        try simp only [kb_eq0, kb_ne0, lg_cmp_lt, lg_cmp_le, lg_cmp_gt, lg_cmp_ge, lg_cmp_eq] at t_6_3
        try simp only [Int32.lt_iff_toInt_lt, Int32.le_iff_toInt_le, ← Int32.toInt_inj, Int64.lt_iff_toInt_lt, Int64.le_iff_toInt_le, ← Int64.toInt_inj, Int32.toInt_toInt64, Int32.reduceToInt, Int64.reduceToInt] at t_6_3
        refine lv_lconst (v := 1) hx hb dX8_set_14 (by decide) ?_
        refine lv_goto (tgt := 43) hx hb dX8_set_15 (by decide) ?_
        refine lv_lstore (lv' := [(4, .long 1), (0, .ref m0), (1, .int w), (2, .long v)]) hx hb dX8_set_43 hl (by decide) rfl (fun ls hl => ?_)
        refine lv_iload_n hx hb dX8_set_45 rfl (lv_at hl 2 rfl) ?_
        refine lv_i2l hx hb dX8_set_46 rfl ?_
        refine lv_lconst (v := 0) hx hb dX8_set_47 (by decide) ?_
        refine lv_ldc2 (v := 5) hx hb hown (hts (.constantLong RX8 94 (5)) (List.mem_of_getElem? (i := 4) rfl)) dX8_set_48 ?_
        refine kCallI (wr := [(m0, .inr (8, [.ref mH, .int aM, .long aC, .int mM, .long mQ, .int oV, .int pL, .int lI, .int sW, .int dP, .int sT, .long aT, .int cH, .int iW, .ref mI, .ref mJ, .ref mS, .ref mD, .int iH, .int aE, .int mN, .long sZ, .ref mX, .int tS, .int tA, .int tW, .ref mA, .ref mB, .ref mW, .ref mL, .int lS]))]) (va_runS (As := [.long w.toInt64, .long 0, .long 5]) (rest := []) ⟨hx, hb, hml, hown, hts⟩ (q_in l D cI cL cB cZ cT _ (w.toInt64) 0 5) (va_cwS 3 hts gX8_set_X8_in rfl rfl rfl (by decide +kernel) ⟨Nat.le_of_ble_eq_true rfl, Nat.le_of_ble_eq_true rfl⟩) (kPreS hG hP hD [] rfl (by decide)) rfl rfl hl.1 rfl (lv_room (Nat.le_of_ble_eq_true rfl)) dX8_set_51 ⟨Nat.le_of_ble_eq_true rfl, Nat.le_of_ble_eq_true rfl⟩) hA hP hD hS [] [0] rfl rfl (by decide) (by decide) (fun r_5 u_r_5 H locs wr_5 hP hD hS => ?_)
        have hP : va_P D vwCl [(m0, .inr (8, [.ref mH, .int aM, .long aC, .int mM, .long mQ, .int oV, .int pL, .int lI, .int sW, .int dP, .int sT, .long aT, .int cH, .int iW, .ref mI, .ref mJ, .ref mS, .ref mD, .int iH, .int aE, .int mN, .long sZ, .ref mX, .int tS, .int tA, .int tW, .ref mA, .ref mB, .ref mW, .ref mL, .int lS]))] H := hP
        have hD : va_D A [(m0, .inr (8, [.ref mH, .int aM, .long aC, .int mM, .long mQ, .int oV, .int pL, .int lI, .int sW, .int dP, .int sT, .long aT, .int cH, .int iW, .ref mI, .ref mJ, .ref mS, .ref mD, .int iH, .int aE, .int mN, .long sZ, .ref mX, .int tS, .int tA, .int tW, .ref mA, .ref mB, .ref mW, .ref mL, .int lS]))] := hD
        try dsimp only at wr_5
        subst wr_5
        refine lv_if_eq (tgt := 67) hx hb dX8_set_54 (by decide) (fun c_54_5 => ?_) (fun c_54_5 => ?_)
        · have t_54_5 := c_54_5
          try simp only [kb_eq0, kb_ne0, lg_cmp_lt, lg_cmp_le, lg_cmp_gt, lg_cmp_ge, lg_cmp_eq] at t_54_5
          try simp only [Int32.lt_iff_toInt_lt, Int32.le_iff_toInt_le, ← Int32.toInt_inj, Int64.lt_iff_toInt_lt, Int64.le_iff_toInt_le, ← Int64.toInt_inj, Int32.toInt_toInt64, Int32.reduceToInt, Int64.reduceToInt] at t_54_5
          refine lv_iconst (v := (-1)) hx hb dX8_set_67 (by decide) ?_
          refine kIret (u := (aM, aC, mM, mQ, oV, pL)) hx hb hr rfl hlocks hS dX8_set_68 ?_ (hP.sub [0] rfl) (hD.sub [0] (by decide) rfl)
          have hm := congrArg Int64.toInt (kMost_out hsw)
          simp only [Int64.reduceToInt] at hm
          refine ⟨?_, ?_⟩
          · first | exact (kif_t (by omega)).symm | exact (kif_f (by omega)).symm
          · try dsimp only
            repeat' (with_reducible apply And.intro)
            all_goals first | with_reducible assumption | ((try simp only [jT_, jP_, jD_, jC_, jB_, jW_, Int32.reduceToInt, Int64.reduceToInt, true_or, or_true, true_and, and_true]) <;> omega)
        · have t_54_5 := c_54_5
          try simp only [kb_eq0, kb_ne0, lg_cmp_lt, lg_cmp_le, lg_cmp_gt, lg_cmp_ge, lg_cmp_eq] at t_54_5
          try simp only [Int32.lt_iff_toInt_lt, Int32.le_iff_toInt_le, ← Int32.toInt_inj, Int64.lt_iff_toInt_lt, Int64.le_iff_toInt_le, ← Int64.toInt_inj, Int32.toInt_toInt64, Int32.reduceToInt, Int64.reduceToInt] at t_54_5
          omega
      · have t_6_3 := c_6_3
        try simp only [kb_eq0, kb_ne0, lg_cmp_lt, lg_cmp_le, lg_cmp_gt, lg_cmp_ge, lg_cmp_eq] at t_6_3
        try simp only [Int32.lt_iff_toInt_lt, Int32.le_iff_toInt_le, ← Int32.toInt_inj, Int64.lt_iff_toInt_lt, Int64.le_iff_toInt_le, ← Int64.toInt_inj, Int32.toInt_toInt64, Int32.reduceToInt, Int64.reduceToInt] at t_6_3
        refine lv_iload_n hx hb dX8_set_9 rfl (lv_at hl 1 rfl) ?_
        refine lv_iconst (v := 4) hx hb dX8_set_10 (by decide) ?_
        refine lv_icmp_ne (tgt := 18) hx hb dX8_set_11 (by decide) (fun c_11_6 => ?_) (fun c_11_6 => ?_)
        · have t_11_6 := c_11_6
          try simp only [kb_eq0, kb_ne0, lg_cmp_lt, lg_cmp_le, lg_cmp_gt, lg_cmp_ge, lg_cmp_eq] at t_11_6
          try simp only [Int32.lt_iff_toInt_lt, Int32.le_iff_toInt_le, ← Int32.toInt_inj, Int64.lt_iff_toInt_lt, Int64.le_iff_toInt_le, ← Int64.toInt_inj, Int32.toInt_toInt64, Int32.reduceToInt, Int64.reduceToInt] at t_11_6
          refine lv_iload_n hx hb dX8_set_18 rfl (lv_at hl 1 rfl) ?_
          refine lv_iconst (v := 1) hx hb dX8_set_19 (by decide) ?_
          refine lv_icmp_ne (tgt := 29) hx hb dX8_set_20 (by decide) (fun c_20_7 => ?_) (fun c_20_7 => ?_)
          · have t_20_7 := c_20_7
            try simp only [kb_eq0, kb_ne0, lg_cmp_lt, lg_cmp_le, lg_cmp_gt, lg_cmp_ge, lg_cmp_eq] at t_20_7
            try simp only [Int32.lt_iff_toInt_lt, Int32.le_iff_toInt_le, ← Int32.toInt_inj, Int64.lt_iff_toInt_lt, Int64.le_iff_toInt_le, ← Int64.toInt_inj, Int32.toInt_toInt64, Int32.reduceToInt, Int64.reduceToInt] at t_20_7
            refine lv_iload_n hx hb dX8_set_29 rfl (lv_at hl 1 rfl) ?_
            refine lv_iconst (v := 3) hx hb dX8_set_30 (by decide) ?_
            refine lv_icmp_ne (tgt := 40) hx hb dX8_set_31 (by decide) (fun c_31_8 => ?_) (fun c_31_8 => ?_)
            · have t_31_8 := c_31_8
              try simp only [kb_eq0, kb_ne0, lg_cmp_lt, lg_cmp_le, lg_cmp_gt, lg_cmp_ge, lg_cmp_eq] at t_31_8
              try simp only [Int32.lt_iff_toInt_lt, Int32.le_iff_toInt_le, ← Int32.toInt_inj, Int64.lt_iff_toInt_lt, Int64.le_iff_toInt_le, ← Int64.toInt_inj, Int32.toInt_toInt64, Int32.reduceToInt, Int64.reduceToInt] at t_31_8
              refine lv_ldc2 (v := 511) hx hb hown (hts (.constantLong RX8 47 (511)) (List.mem_of_getElem? (i := 3) rfl)) dX8_set_40 ?_
              refine lv_lstore (lv' := [(4, .long 511), (0, .ref m0), (1, .int w), (2, .long v)]) hx hb dX8_set_43 hl (by decide) rfl (fun ls hl => ?_)
              refine lv_iload_n hx hb dX8_set_45 rfl (lv_at hl 2 rfl) ?_
              refine lv_i2l hx hb dX8_set_46 rfl ?_
              refine lv_lconst (v := 0) hx hb dX8_set_47 (by decide) ?_
              refine lv_ldc2 (v := 5) hx hb hown (hts (.constantLong RX8 94 (5)) (List.mem_of_getElem? (i := 4) rfl)) dX8_set_48 ?_
              refine kCallI (wr := [(m0, .inr (8, [.ref mH, .int aM, .long aC, .int mM, .long mQ, .int oV, .int pL, .int lI, .int sW, .int dP, .int sT, .long aT, .int cH, .int iW, .ref mI, .ref mJ, .ref mS, .ref mD, .int iH, .int aE, .int mN, .long sZ, .ref mX, .int tS, .int tA, .int tW, .ref mA, .ref mB, .ref mW, .ref mL, .int lS]))]) (va_runS (As := [.long w.toInt64, .long 0, .long 5]) (rest := []) ⟨hx, hb, hml, hown, hts⟩ (q_in l D cI cL cB cZ cT _ (w.toInt64) 0 5) (va_cwS 3 hts gX8_set_X8_in rfl rfl rfl (by decide +kernel) ⟨Nat.le_of_ble_eq_true rfl, Nat.le_of_ble_eq_true rfl⟩) (kPreS hG hP hD [] rfl (by decide)) rfl rfl hl.1 rfl (lv_room (Nat.le_of_ble_eq_true rfl)) dX8_set_51 ⟨Nat.le_of_ble_eq_true rfl, Nat.le_of_ble_eq_true rfl⟩) hA hP hD hS [] [0] rfl rfl (by decide) (by decide) (fun r_10 u_r_10 H locs wr_10 hP hD hS => ?_)
              have hP : va_P D vwCl [(m0, .inr (8, [.ref mH, .int aM, .long aC, .int mM, .long mQ, .int oV, .int pL, .int lI, .int sW, .int dP, .int sT, .long aT, .int cH, .int iW, .ref mI, .ref mJ, .ref mS, .ref mD, .int iH, .int aE, .int mN, .long sZ, .ref mX, .int tS, .int tA, .int tW, .ref mA, .ref mB, .ref mW, .ref mL, .int lS]))] H := hP
              have hD : va_D A [(m0, .inr (8, [.ref mH, .int aM, .long aC, .int mM, .long mQ, .int oV, .int pL, .int lI, .int sW, .int dP, .int sT, .long aT, .int cH, .int iW, .ref mI, .ref mJ, .ref mS, .ref mD, .int iH, .int aE, .int mN, .long sZ, .ref mX, .int tS, .int tA, .int tW, .ref mA, .ref mB, .ref mW, .ref mL, .int lS]))] := hD
              try dsimp only at wr_10
              subst wr_10
              refine lv_if_eq (tgt := 67) hx hb dX8_set_54 (by decide) (fun c_54_10 => ?_) (fun c_54_10 => ?_)
              · have t_54_10 := c_54_10
                try simp only [kb_eq0, kb_ne0, lg_cmp_lt, lg_cmp_le, lg_cmp_gt, lg_cmp_ge, lg_cmp_eq] at t_54_10
                try simp only [Int32.lt_iff_toInt_lt, Int32.le_iff_toInt_le, ← Int32.toInt_inj, Int64.lt_iff_toInt_lt, Int64.le_iff_toInt_le, ← Int64.toInt_inj, Int32.toInt_toInt64, Int32.reduceToInt, Int64.reduceToInt] at t_54_10
                refine lv_iconst (v := (-1)) hx hb dX8_set_67 (by decide) ?_
                refine kIret (u := (aM, aC, mM, mQ, oV, pL)) hx hb hr rfl hlocks hS dX8_set_68 ?_ (hP.sub [0] rfl) (hD.sub [0] (by decide) rfl)
                have hm := congrArg Int64.toInt (kMost_out hsw)
                simp only [Int64.reduceToInt] at hm
                refine ⟨?_, ?_⟩
                · first | exact (kif_t (by omega)).symm | exact (kif_f (by omega)).symm
                · try dsimp only
                  repeat' (with_reducible apply And.intro)
                  all_goals first | with_reducible assumption | ((try simp only [jT_, jP_, jD_, jC_, jB_, jW_, Int32.reduceToInt, Int64.reduceToInt, true_or, or_true, true_and, and_true]) <;> omega)
              · have t_54_10 := c_54_10
                try simp only [kb_eq0, kb_ne0, lg_cmp_lt, lg_cmp_le, lg_cmp_gt, lg_cmp_ge, lg_cmp_eq] at t_54_10
                try simp only [Int32.lt_iff_toInt_lt, Int32.le_iff_toInt_le, ← Int32.toInt_inj, Int64.lt_iff_toInt_lt, Int64.le_iff_toInt_le, ← Int64.toInt_inj, Int32.toInt_toInt64, Int32.reduceToInt, Int64.reduceToInt] at t_54_10
                omega
            · have t_31_8 := c_31_8
              try simp only [kb_eq0, kb_ne0, lg_cmp_lt, lg_cmp_le, lg_cmp_gt, lg_cmp_ge, lg_cmp_eq] at t_31_8
              try simp only [Int32.lt_iff_toInt_lt, Int32.le_iff_toInt_le, ← Int32.toInt_inj, Int64.lt_iff_toInt_lt, Int64.le_iff_toInt_le, ← Int64.toInt_inj, Int32.toInt_toInt64, Int32.reduceToInt, Int64.reduceToInt] at t_31_8
              refine lv_ldc2 (v := 34359738367) hx hb hown (hts (.constantLong RX8 92 (34359738367)) (List.mem_of_getElem? (i := 2) rfl)) dX8_set_34 ?_
              refine lv_goto (tgt := 43) hx hb dX8_set_37 (by decide) ?_
              refine lv_lstore (lv' := [(4, .long 34359738367), (0, .ref m0), (1, .int w), (2, .long v)]) hx hb dX8_set_43 hl (by decide) rfl (fun ls hl => ?_)
              refine lv_iload_n hx hb dX8_set_45 rfl (lv_at hl 2 rfl) ?_
              refine lv_i2l hx hb dX8_set_46 rfl ?_
              refine lv_lconst (v := 0) hx hb dX8_set_47 (by decide) ?_
              refine lv_ldc2 (v := 5) hx hb hown (hts (.constantLong RX8 94 (5)) (List.mem_of_getElem? (i := 4) rfl)) dX8_set_48 ?_
              refine kCallI (wr := [(m0, .inr (8, [.ref mH, .int aM, .long aC, .int mM, .long mQ, .int oV, .int pL, .int lI, .int sW, .int dP, .int sT, .long aT, .int cH, .int iW, .ref mI, .ref mJ, .ref mS, .ref mD, .int iH, .int aE, .int mN, .long sZ, .ref mX, .int tS, .int tA, .int tW, .ref mA, .ref mB, .ref mW, .ref mL, .int lS]))]) (va_runS (As := [.long w.toInt64, .long 0, .long 5]) (rest := []) ⟨hx, hb, hml, hown, hts⟩ (q_in l D cI cL cB cZ cT _ (w.toInt64) 0 5) (va_cwS 3 hts gX8_set_X8_in rfl rfl rfl (by decide +kernel) ⟨Nat.le_of_ble_eq_true rfl, Nat.le_of_ble_eq_true rfl⟩) (kPreS hG hP hD [] rfl (by decide)) rfl rfl hl.1 rfl (lv_room (Nat.le_of_ble_eq_true rfl)) dX8_set_51 ⟨Nat.le_of_ble_eq_true rfl, Nat.le_of_ble_eq_true rfl⟩) hA hP hD hS [] [0] rfl rfl (by decide) (by decide) (fun r_12 u_r_12 H locs wr_12 hP hD hS => ?_)
              have hP : va_P D vwCl [(m0, .inr (8, [.ref mH, .int aM, .long aC, .int mM, .long mQ, .int oV, .int pL, .int lI, .int sW, .int dP, .int sT, .long aT, .int cH, .int iW, .ref mI, .ref mJ, .ref mS, .ref mD, .int iH, .int aE, .int mN, .long sZ, .ref mX, .int tS, .int tA, .int tW, .ref mA, .ref mB, .ref mW, .ref mL, .int lS]))] H := hP
              have hD : va_D A [(m0, .inr (8, [.ref mH, .int aM, .long aC, .int mM, .long mQ, .int oV, .int pL, .int lI, .int sW, .int dP, .int sT, .long aT, .int cH, .int iW, .ref mI, .ref mJ, .ref mS, .ref mD, .int iH, .int aE, .int mN, .long sZ, .ref mX, .int tS, .int tA, .int tW, .ref mA, .ref mB, .ref mW, .ref mL, .int lS]))] := hD
              try dsimp only at wr_12
              subst wr_12
              refine lv_if_eq (tgt := 67) hx hb dX8_set_54 (by decide) (fun c_54_12 => ?_) (fun c_54_12 => ?_)
              · have t_54_12 := c_54_12
                try simp only [kb_eq0, kb_ne0, lg_cmp_lt, lg_cmp_le, lg_cmp_gt, lg_cmp_ge, lg_cmp_eq] at t_54_12
                try simp only [Int32.lt_iff_toInt_lt, Int32.le_iff_toInt_le, ← Int32.toInt_inj, Int64.lt_iff_toInt_lt, Int64.le_iff_toInt_le, ← Int64.toInt_inj, Int32.toInt_toInt64, Int32.reduceToInt, Int64.reduceToInt] at t_54_12
                refine lv_iconst (v := (-1)) hx hb dX8_set_67 (by decide) ?_
                refine kIret (u := (aM, aC, mM, mQ, oV, pL)) hx hb hr rfl hlocks hS dX8_set_68 ?_ (hP.sub [0] rfl) (hD.sub [0] (by decide) rfl)
                have hm := congrArg Int64.toInt (kMost_out hsw)
                simp only [Int64.reduceToInt] at hm
                refine ⟨?_, ?_⟩
                · first | exact (kif_t (by omega)).symm | exact (kif_f (by omega)).symm
                · try dsimp only
                  repeat' (with_reducible apply And.intro)
                  all_goals first | with_reducible assumption | ((try simp only [jT_, jP_, jD_, jC_, jB_, jW_, Int32.reduceToInt, Int64.reduceToInt, true_or, or_true, true_and, and_true]) <;> omega)
              · have t_54_12 := c_54_12
                try simp only [kb_eq0, kb_ne0, lg_cmp_lt, lg_cmp_le, lg_cmp_gt, lg_cmp_ge, lg_cmp_eq] at t_54_12
                try simp only [Int32.lt_iff_toInt_lt, Int32.le_iff_toInt_le, ← Int32.toInt_inj, Int64.lt_iff_toInt_lt, Int64.le_iff_toInt_le, ← Int64.toInt_inj, Int32.toInt_toInt64, Int32.reduceToInt, Int64.reduceToInt] at t_54_12
                omega
          · have t_20_7 := c_20_7
            try simp only [kb_eq0, kb_ne0, lg_cmp_lt, lg_cmp_le, lg_cmp_gt, lg_cmp_ge, lg_cmp_eq] at t_20_7
            try simp only [Int32.lt_iff_toInt_lt, Int32.le_iff_toInt_le, ← Int32.toInt_inj, Int64.lt_iff_toInt_lt, Int64.le_iff_toInt_le, ← Int64.toInt_inj, Int32.toInt_toInt64, Int32.reduceToInt, Int64.reduceToInt] at t_20_7
            refine lv_ldc2 (v := 137438953471) hx hb hown (hts (.constantLong RX8 90 (137438953471)) (List.mem_of_getElem? (i := 1) rfl)) dX8_set_23 ?_
            refine lv_goto (tgt := 43) hx hb dX8_set_26 (by decide) ?_
            refine lv_lstore (lv' := [(4, .long 137438953471), (0, .ref m0), (1, .int w), (2, .long v)]) hx hb dX8_set_43 hl (by decide) rfl (fun ls hl => ?_)
            refine lv_iload_n hx hb dX8_set_45 rfl (lv_at hl 2 rfl) ?_
            refine lv_i2l hx hb dX8_set_46 rfl ?_
            refine lv_lconst (v := 0) hx hb dX8_set_47 (by decide) ?_
            refine lv_ldc2 (v := 5) hx hb hown (hts (.constantLong RX8 94 (5)) (List.mem_of_getElem? (i := 4) rfl)) dX8_set_48 ?_
            refine kCallI (wr := [(m0, .inr (8, [.ref mH, .int aM, .long aC, .int mM, .long mQ, .int oV, .int pL, .int lI, .int sW, .int dP, .int sT, .long aT, .int cH, .int iW, .ref mI, .ref mJ, .ref mS, .ref mD, .int iH, .int aE, .int mN, .long sZ, .ref mX, .int tS, .int tA, .int tW, .ref mA, .ref mB, .ref mW, .ref mL, .int lS]))]) (va_runS (As := [.long w.toInt64, .long 0, .long 5]) (rest := []) ⟨hx, hb, hml, hown, hts⟩ (q_in l D cI cL cB cZ cT _ (w.toInt64) 0 5) (va_cwS 3 hts gX8_set_X8_in rfl rfl rfl (by decide +kernel) ⟨Nat.le_of_ble_eq_true rfl, Nat.le_of_ble_eq_true rfl⟩) (kPreS hG hP hD [] rfl (by decide)) rfl rfl hl.1 rfl (lv_room (Nat.le_of_ble_eq_true rfl)) dX8_set_51 ⟨Nat.le_of_ble_eq_true rfl, Nat.le_of_ble_eq_true rfl⟩) hA hP hD hS [] [0] rfl rfl (by decide) (by decide) (fun r_14 u_r_14 H locs wr_14 hP hD hS => ?_)
            have hP : va_P D vwCl [(m0, .inr (8, [.ref mH, .int aM, .long aC, .int mM, .long mQ, .int oV, .int pL, .int lI, .int sW, .int dP, .int sT, .long aT, .int cH, .int iW, .ref mI, .ref mJ, .ref mS, .ref mD, .int iH, .int aE, .int mN, .long sZ, .ref mX, .int tS, .int tA, .int tW, .ref mA, .ref mB, .ref mW, .ref mL, .int lS]))] H := hP
            have hD : va_D A [(m0, .inr (8, [.ref mH, .int aM, .long aC, .int mM, .long mQ, .int oV, .int pL, .int lI, .int sW, .int dP, .int sT, .long aT, .int cH, .int iW, .ref mI, .ref mJ, .ref mS, .ref mD, .int iH, .int aE, .int mN, .long sZ, .ref mX, .int tS, .int tA, .int tW, .ref mA, .ref mB, .ref mW, .ref mL, .int lS]))] := hD
            try dsimp only at wr_14
            subst wr_14
            refine lv_if_eq (tgt := 67) hx hb dX8_set_54 (by decide) (fun c_54_14 => ?_) (fun c_54_14 => ?_)
            · have t_54_14 := c_54_14
              try simp only [kb_eq0, kb_ne0, lg_cmp_lt, lg_cmp_le, lg_cmp_gt, lg_cmp_ge, lg_cmp_eq] at t_54_14
              try simp only [Int32.lt_iff_toInt_lt, Int32.le_iff_toInt_le, ← Int32.toInt_inj, Int64.lt_iff_toInt_lt, Int64.le_iff_toInt_le, ← Int64.toInt_inj, Int32.toInt_toInt64, Int32.reduceToInt, Int64.reduceToInt] at t_54_14
              refine lv_iconst (v := (-1)) hx hb dX8_set_67 (by decide) ?_
              refine kIret (u := (aM, aC, mM, mQ, oV, pL)) hx hb hr rfl hlocks hS dX8_set_68 ?_ (hP.sub [0] rfl) (hD.sub [0] (by decide) rfl)
              have hm := congrArg Int64.toInt (kMost_out hsw)
              simp only [Int64.reduceToInt] at hm
              refine ⟨?_, ?_⟩
              · first | exact (kif_t (by omega)).symm | exact (kif_f (by omega)).symm
              · try dsimp only
                repeat' (with_reducible apply And.intro)
                all_goals first | with_reducible assumption | ((try simp only [jT_, jP_, jD_, jC_, jB_, jW_, Int32.reduceToInt, Int64.reduceToInt, true_or, or_true, true_and, and_true]) <;> omega)
            · have t_54_14 := c_54_14
              try simp only [kb_eq0, kb_ne0, lg_cmp_lt, lg_cmp_le, lg_cmp_gt, lg_cmp_ge, lg_cmp_eq] at t_54_14
              try simp only [Int32.lt_iff_toInt_lt, Int32.le_iff_toInt_le, ← Int32.toInt_inj, Int64.lt_iff_toInt_lt, Int64.le_iff_toInt_le, ← Int64.toInt_inj, Int32.toInt_toInt64, Int32.reduceToInt, Int64.reduceToInt] at t_54_14
              omega
        · have t_11_6 := c_11_6
          try simp only [kb_eq0, kb_ne0, lg_cmp_lt, lg_cmp_le, lg_cmp_gt, lg_cmp_ge, lg_cmp_eq] at t_11_6
          try simp only [Int32.lt_iff_toInt_lt, Int32.le_iff_toInt_le, ← Int32.toInt_inj, Int64.lt_iff_toInt_lt, Int64.le_iff_toInt_le, ← Int64.toInt_inj, Int32.toInt_toInt64, Int32.reduceToInt, Int64.reduceToInt] at t_11_6
          refine lv_lconst (v := 1) hx hb dX8_set_14 (by decide) ?_
          refine lv_goto (tgt := 43) hx hb dX8_set_15 (by decide) ?_
          refine lv_lstore (lv' := [(4, .long 1), (0, .ref m0), (1, .int w), (2, .long v)]) hx hb dX8_set_43 hl (by decide) rfl (fun ls hl => ?_)
          refine lv_iload_n hx hb dX8_set_45 rfl (lv_at hl 2 rfl) ?_
          refine lv_i2l hx hb dX8_set_46 rfl ?_
          refine lv_lconst (v := 0) hx hb dX8_set_47 (by decide) ?_
          refine lv_ldc2 (v := 5) hx hb hown (hts (.constantLong RX8 94 (5)) (List.mem_of_getElem? (i := 4) rfl)) dX8_set_48 ?_
          refine kCallI (wr := [(m0, .inr (8, [.ref mH, .int aM, .long aC, .int mM, .long mQ, .int oV, .int pL, .int lI, .int sW, .int dP, .int sT, .long aT, .int cH, .int iW, .ref mI, .ref mJ, .ref mS, .ref mD, .int iH, .int aE, .int mN, .long sZ, .ref mX, .int tS, .int tA, .int tW, .ref mA, .ref mB, .ref mW, .ref mL, .int lS]))]) (va_runS (As := [.long w.toInt64, .long 0, .long 5]) (rest := []) ⟨hx, hb, hml, hown, hts⟩ (q_in l D cI cL cB cZ cT _ (w.toInt64) 0 5) (va_cwS 3 hts gX8_set_X8_in rfl rfl rfl (by decide +kernel) ⟨Nat.le_of_ble_eq_true rfl, Nat.le_of_ble_eq_true rfl⟩) (kPreS hG hP hD [] rfl (by decide)) rfl rfl hl.1 rfl (lv_room (Nat.le_of_ble_eq_true rfl)) dX8_set_51 ⟨Nat.le_of_ble_eq_true rfl, Nat.le_of_ble_eq_true rfl⟩) hA hP hD hS [] [0] rfl rfl (by decide) (by decide) (fun r_16 u_r_16 H locs wr_16 hP hD hS => ?_)
          have hP : va_P D vwCl [(m0, .inr (8, [.ref mH, .int aM, .long aC, .int mM, .long mQ, .int oV, .int pL, .int lI, .int sW, .int dP, .int sT, .long aT, .int cH, .int iW, .ref mI, .ref mJ, .ref mS, .ref mD, .int iH, .int aE, .int mN, .long sZ, .ref mX, .int tS, .int tA, .int tW, .ref mA, .ref mB, .ref mW, .ref mL, .int lS]))] H := hP
          have hD : va_D A [(m0, .inr (8, [.ref mH, .int aM, .long aC, .int mM, .long mQ, .int oV, .int pL, .int lI, .int sW, .int dP, .int sT, .long aT, .int cH, .int iW, .ref mI, .ref mJ, .ref mS, .ref mD, .int iH, .int aE, .int mN, .long sZ, .ref mX, .int tS, .int tA, .int tW, .ref mA, .ref mB, .ref mW, .ref mL, .int lS]))] := hD
          try dsimp only at wr_16
          subst wr_16
          refine lv_if_eq (tgt := 67) hx hb dX8_set_54 (by decide) (fun c_54_16 => ?_) (fun c_54_16 => ?_)
          · have t_54_16 := c_54_16
            try simp only [kb_eq0, kb_ne0, lg_cmp_lt, lg_cmp_le, lg_cmp_gt, lg_cmp_ge, lg_cmp_eq] at t_54_16
            try simp only [Int32.lt_iff_toInt_lt, Int32.le_iff_toInt_le, ← Int32.toInt_inj, Int64.lt_iff_toInt_lt, Int64.le_iff_toInt_le, ← Int64.toInt_inj, Int32.toInt_toInt64, Int32.reduceToInt, Int64.reduceToInt] at t_54_16
            refine lv_iconst (v := (-1)) hx hb dX8_set_67 (by decide) ?_
            refine kIret (u := (aM, aC, mM, mQ, oV, pL)) hx hb hr rfl hlocks hS dX8_set_68 ?_ (hP.sub [0] rfl) (hD.sub [0] (by decide) rfl)
            have hm := congrArg Int64.toInt (kMost_out hsw)
            simp only [Int64.reduceToInt] at hm
            refine ⟨?_, ?_⟩
            · first | exact (kif_t (by omega)).symm | exact (kif_f (by omega)).symm
            · try dsimp only
              repeat' (with_reducible apply And.intro)
              all_goals first | with_reducible assumption | ((try simp only [jT_, jP_, jD_, jC_, jB_, jW_, Int32.reduceToInt, Int64.reduceToInt, true_or, or_true, true_and, and_true]) <;> omega)
          · have t_54_16 := c_54_16
            try simp only [kb_eq0, kb_ne0, lg_cmp_lt, lg_cmp_le, lg_cmp_gt, lg_cmp_ge, lg_cmp_eq] at t_54_16
            try simp only [Int32.lt_iff_toInt_lt, Int32.le_iff_toInt_le, ← Int32.toInt_inj, Int64.lt_iff_toInt_lt, Int64.le_iff_toInt_le, ← Int64.toInt_inj, Int32.toInt_toInt64, Int32.reduceToInt, Int64.reduceToInt] at t_54_16
            omega
  · refine lv_iload_n hx hb dX8_set_0 rfl (lv_at hl 1 rfl) ?_
    refine lv_if_eq (tgt := 14) hx hb dX8_set_1 (by decide) (fun c_1_17 => ?_) (fun c_1_17 => ?_)
    · have t_1_17 := c_1_17
      try simp only [kb_eq0, kb_ne0, lg_cmp_lt, lg_cmp_le, lg_cmp_gt, lg_cmp_ge, lg_cmp_eq] at t_1_17
      try simp only [Int32.lt_iff_toInt_lt, Int32.le_iff_toInt_le, ← Int32.toInt_inj, Int64.lt_iff_toInt_lt, Int64.le_iff_toInt_le, ← Int64.toInt_inj, Int32.toInt_toInt64, Int32.reduceToInt, Int64.reduceToInt] at t_1_17
      refine lv_lconst (v := 1) hx hb dX8_set_14 (by decide) ?_
      refine lv_goto (tgt := 43) hx hb dX8_set_15 (by decide) ?_
      refine lv_lstore (lv' := [(4, .long 1), (0, .ref m0), (1, .int 0), (2, .long v)]) hx hb dX8_set_43 hl (by decide) rfl (fun ls hl => ?_)
      refine lv_iload_n hx hb dX8_set_45 rfl (lv_at hl 2 rfl) ?_
      refine lv_i2l hx hb dX8_set_46 rfl ?_
      refine lv_topl (fun x_19 ex_19 => ?_)
      obtain rfl : x_19 = 0 := ex_19.trans (by decide)
      refine lv_lconst (v := 0) hx hb dX8_set_47 (by decide) ?_
      refine lv_ldc2 (v := 5) hx hb hown (hts (.constantLong RX8 94 (5)) (List.mem_of_getElem? (i := 4) rfl)) dX8_set_48 ?_
      refine kCallI (wr := [(m0, .inr (8, [.ref mH, .int aM, .long aC, .int mM, .long mQ, .int oV, .int pL, .int lI, .int sW, .int dP, .int sT, .long aT, .int cH, .int iW, .ref mI, .ref mJ, .ref mS, .ref mD, .int iH, .int aE, .int mN, .long sZ, .ref mX, .int tS, .int tA, .int tW, .ref mA, .ref mB, .ref mW, .ref mL, .int lS]))]) (va_runS (As := [.long 0, .long 0, .long 5]) (rest := []) ⟨hx, hb, hml, hown, hts⟩ (q_in l D cI cL cB cZ cT _ 0 0 5) (va_cwS 3 hts gX8_set_X8_in rfl rfl rfl (by decide +kernel) ⟨Nat.le_of_ble_eq_true rfl, Nat.le_of_ble_eq_true rfl⟩) (kPreS hG hP hD [] rfl (by decide)) rfl rfl hl.1 rfl (lv_room (Nat.le_of_ble_eq_true rfl)) dX8_set_51 ⟨Nat.le_of_ble_eq_true rfl, Nat.le_of_ble_eq_true rfl⟩) hA hP hD hS [] [0] rfl rfl (by decide) (by decide) (fun r_20 u_r_20 H locs wr_20 hP hD hS => ?_)
      have hP : va_P D vwCl [(m0, .inr (8, [.ref mH, .int aM, .long aC, .int mM, .long mQ, .int oV, .int pL, .int lI, .int sW, .int dP, .int sT, .long aT, .int cH, .int iW, .ref mI, .ref mJ, .ref mS, .ref mD, .int iH, .int aE, .int mN, .long sZ, .ref mX, .int tS, .int tA, .int tW, .ref mA, .ref mB, .ref mW, .ref mL, .int lS]))] H := hP
      have hD : va_D A [(m0, .inr (8, [.ref mH, .int aM, .long aC, .int mM, .long mQ, .int oV, .int pL, .int lI, .int sW, .int dP, .int sT, .long aT, .int cH, .int iW, .ref mI, .ref mJ, .ref mS, .ref mD, .int iH, .int aE, .int mN, .long sZ, .ref mX, .int tS, .int tA, .int tW, .ref mA, .ref mB, .ref mW, .ref mL, .int lS]))] := hD
      try dsimp only at wr_20
      subst wr_20
      refine lv_if_eq (tgt := 67) hx hb dX8_set_54 (by decide) (fun c_54_20 => ?_) (fun c_54_20 => ?_)
      · have t_54_20 := c_54_20
        try simp only [kb_eq0, kb_ne0, lg_cmp_lt, lg_cmp_le, lg_cmp_gt, lg_cmp_ge, lg_cmp_eq] at t_54_20
        try simp only [Int32.lt_iff_toInt_lt, Int32.le_iff_toInt_le, ← Int32.toInt_inj, Int64.lt_iff_toInt_lt, Int64.le_iff_toInt_le, ← Int64.toInt_inj, Int32.toInt_toInt64, Int32.reduceToInt, Int64.reduceToInt] at t_54_20
        omega
      · have t_54_20 := c_54_20
        try simp only [kb_eq0, kb_ne0, lg_cmp_lt, lg_cmp_le, lg_cmp_gt, lg_cmp_ge, lg_cmp_eq] at t_54_20
        try simp only [Int32.lt_iff_toInt_lt, Int32.le_iff_toInt_le, ← Int32.toInt_inj, Int64.lt_iff_toInt_lt, Int64.le_iff_toInt_le, ← Int64.toInt_inj, Int32.toInt_toInt64, Int32.reduceToInt, Int64.reduceToInt] at t_54_20
        refine lv_lload_n hx hb dX8_set_57 rfl (lv_at hl 3 rfl) ?_
        refine lv_lconst (v := 0) hx hb dX8_set_58 (by decide) ?_
        refine lv_lload hx hb dX8_set_59 (lv_at hl 0 rfl) ?_
        refine kCallI (wr := [(m0, .inr (8, [.ref mH, .int aM, .long aC, .int mM, .long mQ, .int oV, .int pL, .int lI, .int sW, .int dP, .int sT, .long aT, .int cH, .int iW, .ref mI, .ref mJ, .ref mS, .ref mD, .int iH, .int aE, .int mN, .long sZ, .ref mX, .int tS, .int tA, .int tW, .ref mA, .ref mB, .ref mW, .ref mL, .int lS]))]) (va_runS (As := [.long v, .long 0, .long 1]) (rest := []) ⟨hx, hb, hml, hown, hts⟩ (q_in l D cI cL cB cZ cT _ v 0 1) (va_cwS 3 hts gX8_set_X8_in rfl rfl rfl (by decide +kernel) ⟨Nat.le_of_ble_eq_true rfl, Nat.le_of_ble_eq_true rfl⟩) (kPreS hG hP hD [] rfl (by decide)) rfl rfl hl.1 rfl (lv_room (Nat.le_of_ble_eq_true rfl)) dX8_set_61 ⟨Nat.le_of_ble_eq_true rfl, Nat.le_of_ble_eq_true rfl⟩) hA hP hD hS [] [0] rfl rfl (by decide) (by decide) (fun r_22 u_r_22 H locs wr_22 hP hD hS => ?_)
        have hP : va_P D vwCl [(m0, .inr (8, [.ref mH, .int aM, .long aC, .int mM, .long mQ, .int oV, .int pL, .int lI, .int sW, .int dP, .int sT, .long aT, .int cH, .int iW, .ref mI, .ref mJ, .ref mS, .ref mD, .int iH, .int aE, .int mN, .long sZ, .ref mX, .int tS, .int tA, .int tW, .ref mA, .ref mB, .ref mW, .ref mL, .int lS]))] H := hP
        have hD : va_D A [(m0, .inr (8, [.ref mH, .int aM, .long aC, .int mM, .long mQ, .int oV, .int pL, .int lI, .int sW, .int dP, .int sT, .long aT, .int cH, .int iW, .ref mI, .ref mJ, .ref mS, .ref mD, .int iH, .int aE, .int mN, .long sZ, .ref mX, .int tS, .int tA, .int tW, .ref mA, .ref mB, .ref mW, .ref mL, .int lS]))] := hD
        try dsimp only at wr_22
        subst wr_22
        refine lv_if_ne (tgt := 69) hx hb dX8_set_64 (by decide) (fun c_64_22 => ?_) (fun c_64_22 => ?_)
        · have t_64_22 := c_64_22
          try simp only [kb_eq0, kb_ne0, lg_cmp_lt, lg_cmp_le, lg_cmp_gt, lg_cmp_ge, lg_cmp_eq] at t_64_22
          try simp only [Int32.lt_iff_toInt_lt, Int32.le_iff_toInt_le, ← Int32.toInt_inj, Int64.lt_iff_toInt_lt, Int64.le_iff_toInt_le, ← Int64.toInt_inj, Int32.toInt_toInt64, Int32.reduceToInt, Int64.reduceToInt] at t_64_22
          refine lv_iload_n hx hb dX8_set_69 rfl (lv_at hl 2 rfl) ?_
          refine lv_tableIn (tgt := 104) (off := 34) hx hb dX8_set_70 (by decide) (by decide) (by decide) (by decide) ?_
          refine lv_aload_n hx hb dX8_set_104 rfl (lv_at hl 1 rfl) ?_
          refine lv_lload_n hx hb dX8_set_105 rfl (lv_at hl 3 rfl) ?_
          refine lv_lconst (v := 1) hx hb dX8_set_106 (by decide) ?_
          refine W.lcmp hx hb dX8_set_107 ?_
          refine lv_if_ne (tgt := 115) hx hb dX8_set_108 (by decide) (fun c_108_23 => ?_) (fun c_108_23 => ?_)
          · have t_108_23 := c_108_23
            try simp only [kb_eq0, kb_ne0, lg_cmp_lt, lg_cmp_le, lg_cmp_gt, lg_cmp_ge, lg_cmp_eq] at t_108_23
            try simp only [Int32.lt_iff_toInt_lt, Int32.le_iff_toInt_le, ← Int32.toInt_inj, Int64.lt_iff_toInt_lt, Int64.le_iff_toInt_le, ← Int64.toInt_inj, Int32.toInt_toInt64, Int32.reduceToInt, Int64.reduceToInt] at t_108_23
            refine lv_iconst (v := 0) hx hb dX8_set_115 (by decide) ?_
            refine va_put (D := D) (ci := 8) (v := .int 0) (ty := .boolean) (C := RX8) (T := TX8) (N := 31) hx hb hts iX8_set_X8 tyX8 tyX8_ok nmX8 hown hK hP hD hS 0 rfl rfl 1 (by decide) (hts (.fieldLink RX8 61 "TapeCalculatorModel" "accMinus" "Z") (List.mem_of_getElem? (i := 5) rfl)) (fun _ h9 => h9) rfl (by decide +kernel) rfl rfl (Nat.le_of_ble_eq_true rfl) dX8_set_116 (fun H locs hP hD hS => ?_)
            have hP : va_P D vwCl [(m0, .inr (8, [.ref mH, .int 0, .long aC, .int mM, .long mQ, .int oV, .int pL, .int lI, .int sW, .int dP, .int sT, .long aT, .int cH, .int iW, .ref mI, .ref mJ, .ref mS, .ref mD, .int iH, .int aE, .int mN, .long sZ, .ref mX, .int tS, .int tA, .int tW, .ref mA, .ref mB, .ref mW, .ref mL, .int lS]))] H := hP
            have hD : va_D A [(m0, .inr (8, [.ref mH, .int 0, .long aC, .int mM, .long mQ, .int oV, .int pL, .int lI, .int sW, .int dP, .int sT, .long aT, .int cH, .int iW, .ref mI, .ref mJ, .ref mS, .ref mD, .int iH, .int aE, .int mN, .long sZ, .ref mX, .int tS, .int tA, .int tW, .ref mA, .ref mB, .ref mW, .ref mL, .int lS]))] := hD
            refine lv_goto (tgt := 180) hx hb dX8_set_119 (by decide) ?_
            refine lv_iconst (v := 1) hx hb dX8_set_180 (by decide) ?_
            refine kIret (u := (0, aC, mM, mQ, oV, pL)) hx hb hr rfl hlocks hS dX8_set_181 ?_ (hP.sub [0] rfl) (hD.sub [0] (by decide) rfl)
            have hm : (kMost 0).toInt = 1 := by decide
            refine ⟨?_, ?_⟩
            · first | exact (kif_t (by omega)).symm | exact (kif_f (by omega)).symm
            · try dsimp only
              repeat' (with_reducible apply And.intro)
              all_goals first | with_reducible assumption | ((try simp only [jT_, jP_, jD_, jC_, jB_, jW_, Int32.reduceToInt, Int64.reduceToInt, true_or, or_true, true_and, and_true]) <;> omega)
          · have t_108_23 := c_108_23
            try simp only [kb_eq0, kb_ne0, lg_cmp_lt, lg_cmp_le, lg_cmp_gt, lg_cmp_ge, lg_cmp_eq] at t_108_23
            try simp only [Int32.lt_iff_toInt_lt, Int32.le_iff_toInt_le, ← Int32.toInt_inj, Int64.lt_iff_toInt_lt, Int64.le_iff_toInt_le, ← Int64.toInt_inj, Int32.toInt_toInt64, Int32.reduceToInt, Int64.reduceToInt] at t_108_23
            refine lv_iconst (v := 1) hx hb dX8_set_111 (by decide) ?_
            refine lv_goto (tgt := 116) hx hb dX8_set_112 (by decide) ?_
            refine va_put (D := D) (ci := 8) (v := .int 1) (ty := .boolean) (C := RX8) (T := TX8) (N := 31) hx hb hts iX8_set_X8 tyX8 tyX8_ok nmX8 hown hK hP hD hS 0 rfl rfl 1 (by decide) (hts (.fieldLink RX8 61 "TapeCalculatorModel" "accMinus" "Z") (List.mem_of_getElem? (i := 5) rfl)) (fun _ h9 => h9) rfl (by decide +kernel) rfl rfl (Nat.le_of_ble_eq_true rfl) dX8_set_116 (fun H locs hP hD hS => ?_)
            have hP : va_P D vwCl [(m0, .inr (8, [.ref mH, .int 1, .long aC, .int mM, .long mQ, .int oV, .int pL, .int lI, .int sW, .int dP, .int sT, .long aT, .int cH, .int iW, .ref mI, .ref mJ, .ref mS, .ref mD, .int iH, .int aE, .int mN, .long sZ, .ref mX, .int tS, .int tA, .int tW, .ref mA, .ref mB, .ref mW, .ref mL, .int lS]))] H := hP
            have hD : va_D A [(m0, .inr (8, [.ref mH, .int 1, .long aC, .int mM, .long mQ, .int oV, .int pL, .int lI, .int sW, .int dP, .int sT, .long aT, .int cH, .int iW, .ref mI, .ref mJ, .ref mS, .ref mD, .int iH, .int aE, .int mN, .long sZ, .ref mX, .int tS, .int tA, .int tW, .ref mA, .ref mB, .ref mW, .ref mL, .int lS]))] := hD
            refine lv_goto (tgt := 180) hx hb dX8_set_119 (by decide) ?_
            refine lv_iconst (v := 1) hx hb dX8_set_180 (by decide) ?_
            refine kIret (u := (1, aC, mM, mQ, oV, pL)) hx hb hr rfl hlocks hS dX8_set_181 ?_ (hP.sub [0] rfl) (hD.sub [0] (by decide) rfl)
            have hm : (kMost 0).toInt = 1 := by decide
            refine ⟨?_, ?_⟩
            · first | exact (kif_t (by omega)).symm | exact (kif_f (by omega)).symm
            · try dsimp only
              repeat' (with_reducible apply And.intro)
              all_goals first | with_reducible assumption | ((try simp only [jT_, jP_, jD_, jC_, jB_, jW_, Int32.reduceToInt, Int64.reduceToInt, true_or, or_true, true_and, and_true]) <;> omega)
        · have t_64_22 := c_64_22
          try simp only [kb_eq0, kb_ne0, lg_cmp_lt, lg_cmp_le, lg_cmp_gt, lg_cmp_ge, lg_cmp_eq] at t_64_22
          try simp only [Int32.lt_iff_toInt_lt, Int32.le_iff_toInt_le, ← Int32.toInt_inj, Int64.lt_iff_toInt_lt, Int64.le_iff_toInt_le, ← Int64.toInt_inj, Int32.toInt_toInt64, Int32.reduceToInt, Int64.reduceToInt] at t_64_22
          refine lv_iconst (v := (-1)) hx hb dX8_set_67 (by decide) ?_
          refine kIret (u := (aM, aC, mM, mQ, oV, pL)) hx hb hr rfl hlocks hS dX8_set_68 ?_ (hP.sub [0] rfl) (hD.sub [0] (by decide) rfl)
          have hm : (kMost 0).toInt = 1 := by decide
          refine ⟨?_, ?_⟩
          · first | exact (kif_t (by omega)).symm | exact (kif_f (by omega)).symm
          · try dsimp only
            repeat' (with_reducible apply And.intro)
            all_goals first | with_reducible assumption | ((try simp only [jT_, jP_, jD_, jC_, jB_, jW_, Int32.reduceToInt, Int64.reduceToInt, true_or, or_true, true_and, and_true]) <;> omega)
    · exact absurd (by decide) c_1_17
  · refine lv_iload_n hx hb dX8_set_0 rfl (lv_at hl 1 rfl) ?_
    refine lv_if_eq (tgt := 14) hx hb dX8_set_1 (by decide) (fun c_1_24 => ?_) (fun c_1_24 => ?_)
    · exact absurd c_1_24 (by decide)
    · have t_1_24 := c_1_24
      try simp only [kb_eq0, kb_ne0, lg_cmp_lt, lg_cmp_le, lg_cmp_gt, lg_cmp_ge, lg_cmp_eq] at t_1_24
      try simp only [Int32.lt_iff_toInt_lt, Int32.le_iff_toInt_le, ← Int32.toInt_inj, Int64.lt_iff_toInt_lt, Int64.le_iff_toInt_le, ← Int64.toInt_inj, Int32.toInt_toInt64, Int32.reduceToInt, Int64.reduceToInt] at t_1_24
      refine lv_iload_n hx hb dX8_set_4 rfl (lv_at hl 1 rfl) ?_
      refine lv_iconst (v := 2) hx hb dX8_set_5 (by decide) ?_
      refine lv_icmp_eq (tgt := 14) hx hb dX8_set_6 (by decide) (fun c_6_25 => ?_) (fun c_6_25 => ?_)
      · exact absurd c_6_25 (by decide)
      · have t_6_25 := c_6_25
        try simp only [kb_eq0, kb_ne0, lg_cmp_lt, lg_cmp_le, lg_cmp_gt, lg_cmp_ge, lg_cmp_eq] at t_6_25
        try simp only [Int32.lt_iff_toInt_lt, Int32.le_iff_toInt_le, ← Int32.toInt_inj, Int64.lt_iff_toInt_lt, Int64.le_iff_toInt_le, ← Int64.toInt_inj, Int32.toInt_toInt64, Int32.reduceToInt, Int64.reduceToInt] at t_6_25
        refine lv_iload_n hx hb dX8_set_9 rfl (lv_at hl 1 rfl) ?_
        refine lv_iconst (v := 4) hx hb dX8_set_10 (by decide) ?_
        refine lv_icmp_ne (tgt := 18) hx hb dX8_set_11 (by decide) (fun c_11_26 => ?_) (fun c_11_26 => ?_)
        · have t_11_26 := c_11_26
          try simp only [kb_eq0, kb_ne0, lg_cmp_lt, lg_cmp_le, lg_cmp_gt, lg_cmp_ge, lg_cmp_eq] at t_11_26
          try simp only [Int32.lt_iff_toInt_lt, Int32.le_iff_toInt_le, ← Int32.toInt_inj, Int64.lt_iff_toInt_lt, Int64.le_iff_toInt_le, ← Int64.toInt_inj, Int32.toInt_toInt64, Int32.reduceToInt, Int64.reduceToInt] at t_11_26
          refine lv_iload_n hx hb dX8_set_18 rfl (lv_at hl 1 rfl) ?_
          refine lv_iconst (v := 1) hx hb dX8_set_19 (by decide) ?_
          refine lv_icmp_ne (tgt := 29) hx hb dX8_set_20 (by decide) (fun c_20_27 => ?_) (fun c_20_27 => ?_)
          · exact absurd (by decide) c_20_27
          · have t_20_27 := c_20_27
            try simp only [kb_eq0, kb_ne0, lg_cmp_lt, lg_cmp_le, lg_cmp_gt, lg_cmp_ge, lg_cmp_eq] at t_20_27
            try simp only [Int32.lt_iff_toInt_lt, Int32.le_iff_toInt_le, ← Int32.toInt_inj, Int64.lt_iff_toInt_lt, Int64.le_iff_toInt_le, ← Int64.toInt_inj, Int32.toInt_toInt64, Int32.reduceToInt, Int64.reduceToInt] at t_20_27
            refine lv_ldc2 (v := 137438953471) hx hb hown (hts (.constantLong RX8 90 (137438953471)) (List.mem_of_getElem? (i := 1) rfl)) dX8_set_23 ?_
            refine lv_goto (tgt := 43) hx hb dX8_set_26 (by decide) ?_
            refine lv_lstore (lv' := [(4, .long 137438953471), (0, .ref m0), (1, .int 1), (2, .long v)]) hx hb dX8_set_43 hl (by decide) rfl (fun ls hl => ?_)
            refine lv_iload_n hx hb dX8_set_45 rfl (lv_at hl 2 rfl) ?_
            refine lv_i2l hx hb dX8_set_46 rfl ?_
            refine lv_topl (fun x_29 ex_29 => ?_)
            obtain rfl : x_29 = 1 := ex_29.trans (by decide)
            refine lv_lconst (v := 0) hx hb dX8_set_47 (by decide) ?_
            refine lv_ldc2 (v := 5) hx hb hown (hts (.constantLong RX8 94 (5)) (List.mem_of_getElem? (i := 4) rfl)) dX8_set_48 ?_
            refine kCallI (wr := [(m0, .inr (8, [.ref mH, .int aM, .long aC, .int mM, .long mQ, .int oV, .int pL, .int lI, .int sW, .int dP, .int sT, .long aT, .int cH, .int iW, .ref mI, .ref mJ, .ref mS, .ref mD, .int iH, .int aE, .int mN, .long sZ, .ref mX, .int tS, .int tA, .int tW, .ref mA, .ref mB, .ref mW, .ref mL, .int lS]))]) (va_runS (As := [.long 1, .long 0, .long 5]) (rest := []) ⟨hx, hb, hml, hown, hts⟩ (q_in l D cI cL cB cZ cT _ 1 0 5) (va_cwS 3 hts gX8_set_X8_in rfl rfl rfl (by decide +kernel) ⟨Nat.le_of_ble_eq_true rfl, Nat.le_of_ble_eq_true rfl⟩) (kPreS hG hP hD [] rfl (by decide)) rfl rfl hl.1 rfl (lv_room (Nat.le_of_ble_eq_true rfl)) dX8_set_51 ⟨Nat.le_of_ble_eq_true rfl, Nat.le_of_ble_eq_true rfl⟩) hA hP hD hS [] [0] rfl rfl (by decide) (by decide) (fun r_30 u_r_30 H locs wr_30 hP hD hS => ?_)
            have hP : va_P D vwCl [(m0, .inr (8, [.ref mH, .int aM, .long aC, .int mM, .long mQ, .int oV, .int pL, .int lI, .int sW, .int dP, .int sT, .long aT, .int cH, .int iW, .ref mI, .ref mJ, .ref mS, .ref mD, .int iH, .int aE, .int mN, .long sZ, .ref mX, .int tS, .int tA, .int tW, .ref mA, .ref mB, .ref mW, .ref mL, .int lS]))] H := hP
            have hD : va_D A [(m0, .inr (8, [.ref mH, .int aM, .long aC, .int mM, .long mQ, .int oV, .int pL, .int lI, .int sW, .int dP, .int sT, .long aT, .int cH, .int iW, .ref mI, .ref mJ, .ref mS, .ref mD, .int iH, .int aE, .int mN, .long sZ, .ref mX, .int tS, .int tA, .int tW, .ref mA, .ref mB, .ref mW, .ref mL, .int lS]))] := hD
            try dsimp only at wr_30
            subst wr_30
            refine lv_if_eq (tgt := 67) hx hb dX8_set_54 (by decide) (fun c_54_30 => ?_) (fun c_54_30 => ?_)
            · have t_54_30 := c_54_30
              try simp only [kb_eq0, kb_ne0, lg_cmp_lt, lg_cmp_le, lg_cmp_gt, lg_cmp_ge, lg_cmp_eq] at t_54_30
              try simp only [Int32.lt_iff_toInt_lt, Int32.le_iff_toInt_le, ← Int32.toInt_inj, Int64.lt_iff_toInt_lt, Int64.le_iff_toInt_le, ← Int64.toInt_inj, Int32.toInt_toInt64, Int32.reduceToInt, Int64.reduceToInt] at t_54_30
              omega
            · have t_54_30 := c_54_30
              try simp only [kb_eq0, kb_ne0, lg_cmp_lt, lg_cmp_le, lg_cmp_gt, lg_cmp_ge, lg_cmp_eq] at t_54_30
              try simp only [Int32.lt_iff_toInt_lt, Int32.le_iff_toInt_le, ← Int32.toInt_inj, Int64.lt_iff_toInt_lt, Int64.le_iff_toInt_le, ← Int64.toInt_inj, Int32.toInt_toInt64, Int32.reduceToInt, Int64.reduceToInt] at t_54_30
              refine lv_lload_n hx hb dX8_set_57 rfl (lv_at hl 3 rfl) ?_
              refine lv_lconst (v := 0) hx hb dX8_set_58 (by decide) ?_
              refine lv_lload hx hb dX8_set_59 (lv_at hl 0 rfl) ?_
              refine kCallI (wr := [(m0, .inr (8, [.ref mH, .int aM, .long aC, .int mM, .long mQ, .int oV, .int pL, .int lI, .int sW, .int dP, .int sT, .long aT, .int cH, .int iW, .ref mI, .ref mJ, .ref mS, .ref mD, .int iH, .int aE, .int mN, .long sZ, .ref mX, .int tS, .int tA, .int tW, .ref mA, .ref mB, .ref mW, .ref mL, .int lS]))]) (va_runS (As := [.long v, .long 0, .long 137438953471]) (rest := []) ⟨hx, hb, hml, hown, hts⟩ (q_in l D cI cL cB cZ cT _ v 0 137438953471) (va_cwS 3 hts gX8_set_X8_in rfl rfl rfl (by decide +kernel) ⟨Nat.le_of_ble_eq_true rfl, Nat.le_of_ble_eq_true rfl⟩) (kPreS hG hP hD [] rfl (by decide)) rfl rfl hl.1 rfl (lv_room (Nat.le_of_ble_eq_true rfl)) dX8_set_61 ⟨Nat.le_of_ble_eq_true rfl, Nat.le_of_ble_eq_true rfl⟩) hA hP hD hS [] [0] rfl rfl (by decide) (by decide) (fun r_32 u_r_32 H locs wr_32 hP hD hS => ?_)
              have hP : va_P D vwCl [(m0, .inr (8, [.ref mH, .int aM, .long aC, .int mM, .long mQ, .int oV, .int pL, .int lI, .int sW, .int dP, .int sT, .long aT, .int cH, .int iW, .ref mI, .ref mJ, .ref mS, .ref mD, .int iH, .int aE, .int mN, .long sZ, .ref mX, .int tS, .int tA, .int tW, .ref mA, .ref mB, .ref mW, .ref mL, .int lS]))] H := hP
              have hD : va_D A [(m0, .inr (8, [.ref mH, .int aM, .long aC, .int mM, .long mQ, .int oV, .int pL, .int lI, .int sW, .int dP, .int sT, .long aT, .int cH, .int iW, .ref mI, .ref mJ, .ref mS, .ref mD, .int iH, .int aE, .int mN, .long sZ, .ref mX, .int tS, .int tA, .int tW, .ref mA, .ref mB, .ref mW, .ref mL, .int lS]))] := hD
              try dsimp only at wr_32
              subst wr_32
              refine lv_if_ne (tgt := 69) hx hb dX8_set_64 (by decide) (fun c_64_32 => ?_) (fun c_64_32 => ?_)
              · have t_64_32 := c_64_32
                try simp only [kb_eq0, kb_ne0, lg_cmp_lt, lg_cmp_le, lg_cmp_gt, lg_cmp_ge, lg_cmp_eq] at t_64_32
                try simp only [Int32.lt_iff_toInt_lt, Int32.le_iff_toInt_le, ← Int32.toInt_inj, Int64.lt_iff_toInt_lt, Int64.le_iff_toInt_le, ← Int64.toInt_inj, Int32.toInt_toInt64, Int32.reduceToInt, Int64.reduceToInt] at t_64_32
                refine lv_iload_n hx hb dX8_set_69 rfl (lv_at hl 2 rfl) ?_
                refine lv_tableIn (tgt := 122) (off := 52) hx hb dX8_set_70 (by decide) (by decide) (by decide) (by decide) ?_
                refine lv_aload_n hx hb dX8_set_122 rfl (lv_at hl 1 rfl) ?_
                refine lv_lload_n hx hb dX8_set_123 rfl (lv_at hl 3 rfl) ?_
                refine va_put (D := D) (ci := 8) (v := .long v) (ty := .long) (C := RX8) (T := TX8) (N := 31) hx hb hts iX8_set_X8 tyX8 tyX8_ok nmX8 hown hK hP hD hS 0 rfl rfl 2 (by decide) (hts (.fieldLink RX8 65 "TapeCalculatorModel" "acc" "J") (List.mem_of_getElem? (i := 6) rfl)) (fun _ h9 => h9) rfl (by decide +kernel) rfl rfl (Nat.le_of_ble_eq_true rfl) dX8_set_124 (fun H locs hP hD hS => ?_)
                have hP : va_P D vwCl [(m0, .inr (8, [.ref mH, .int aM, .long v, .int mM, .long mQ, .int oV, .int pL, .int lI, .int sW, .int dP, .int sT, .long aT, .int cH, .int iW, .ref mI, .ref mJ, .ref mS, .ref mD, .int iH, .int aE, .int mN, .long sZ, .ref mX, .int tS, .int tA, .int tW, .ref mA, .ref mB, .ref mW, .ref mL, .int lS]))] H := hP
                have hD : va_D A [(m0, .inr (8, [.ref mH, .int aM, .long v, .int mM, .long mQ, .int oV, .int pL, .int lI, .int sW, .int dP, .int sT, .long aT, .int cH, .int iW, .ref mI, .ref mJ, .ref mS, .ref mD, .int iH, .int aE, .int mN, .long sZ, .ref mX, .int tS, .int tA, .int tW, .ref mA, .ref mB, .ref mW, .ref mL, .int lS]))] := hD
                refine lv_goto (tgt := 180) hx hb dX8_set_127 (by decide) ?_
                refine lv_iconst (v := 1) hx hb dX8_set_180 (by decide) ?_
                refine kIret (u := (aM, v, mM, mQ, oV, pL)) hx hb hr rfl hlocks hS dX8_set_181 ?_ (hP.sub [0] rfl) (hD.sub [0] (by decide) rfl)
                have hm : (kMost 1).toInt = 137438953471 := by decide
                refine ⟨?_, ?_⟩
                · first | exact (kif_t (by omega)).symm | exact (kif_f (by omega)).symm
                · try dsimp only
                  repeat' (with_reducible apply And.intro)
                  all_goals first | with_reducible assumption | ((try simp only [jT_, jP_, jD_, jC_, jB_, jW_, Int32.reduceToInt, Int64.reduceToInt, true_or, or_true, true_and, and_true]) <;> omega)
              · have t_64_32 := c_64_32
                try simp only [kb_eq0, kb_ne0, lg_cmp_lt, lg_cmp_le, lg_cmp_gt, lg_cmp_ge, lg_cmp_eq] at t_64_32
                try simp only [Int32.lt_iff_toInt_lt, Int32.le_iff_toInt_le, ← Int32.toInt_inj, Int64.lt_iff_toInt_lt, Int64.le_iff_toInt_le, ← Int64.toInt_inj, Int32.toInt_toInt64, Int32.reduceToInt, Int64.reduceToInt] at t_64_32
                refine lv_iconst (v := (-1)) hx hb dX8_set_67 (by decide) ?_
                refine kIret (u := (aM, aC, mM, mQ, oV, pL)) hx hb hr rfl hlocks hS dX8_set_68 ?_ (hP.sub [0] rfl) (hD.sub [0] (by decide) rfl)
                have hm : (kMost 1).toInt = 137438953471 := by decide
                refine ⟨?_, ?_⟩
                · first | exact (kif_t (by omega)).symm | exact (kif_f (by omega)).symm
                · try dsimp only
                  repeat' (with_reducible apply And.intro)
                  all_goals first | with_reducible assumption | ((try simp only [jT_, jP_, jD_, jC_, jB_, jW_, Int32.reduceToInt, Int64.reduceToInt, true_or, or_true, true_and, and_true]) <;> omega)
        · exact absurd c_11_26 (by decide)
  · refine lv_iload_n hx hb dX8_set_0 rfl (lv_at hl 1 rfl) ?_
    refine lv_if_eq (tgt := 14) hx hb dX8_set_1 (by decide) (fun c_1_33 => ?_) (fun c_1_33 => ?_)
    · exact absurd c_1_33 (by decide)
    · have t_1_33 := c_1_33
      try simp only [kb_eq0, kb_ne0, lg_cmp_lt, lg_cmp_le, lg_cmp_gt, lg_cmp_ge, lg_cmp_eq] at t_1_33
      try simp only [Int32.lt_iff_toInt_lt, Int32.le_iff_toInt_le, ← Int32.toInt_inj, Int64.lt_iff_toInt_lt, Int64.le_iff_toInt_le, ← Int64.toInt_inj, Int32.toInt_toInt64, Int32.reduceToInt, Int64.reduceToInt] at t_1_33
      refine lv_iload_n hx hb dX8_set_4 rfl (lv_at hl 1 rfl) ?_
      refine lv_iconst (v := 2) hx hb dX8_set_5 (by decide) ?_
      refine lv_icmp_eq (tgt := 14) hx hb dX8_set_6 (by decide) (fun c_6_34 => ?_) (fun c_6_34 => ?_)
      · have t_6_34 := c_6_34
        try simp only [kb_eq0, kb_ne0, lg_cmp_lt, lg_cmp_le, lg_cmp_gt, lg_cmp_ge, lg_cmp_eq] at t_6_34
        try simp only [Int32.lt_iff_toInt_lt, Int32.le_iff_toInt_le, ← Int32.toInt_inj, Int64.lt_iff_toInt_lt, Int64.le_iff_toInt_le, ← Int64.toInt_inj, Int32.toInt_toInt64, Int32.reduceToInt, Int64.reduceToInt] at t_6_34
        refine lv_lconst (v := 1) hx hb dX8_set_14 (by decide) ?_
        refine lv_goto (tgt := 43) hx hb dX8_set_15 (by decide) ?_
        refine lv_lstore (lv' := [(4, .long 1), (0, .ref m0), (1, .int 2), (2, .long v)]) hx hb dX8_set_43 hl (by decide) rfl (fun ls hl => ?_)
        refine lv_iload_n hx hb dX8_set_45 rfl (lv_at hl 2 rfl) ?_
        refine lv_i2l hx hb dX8_set_46 rfl ?_
        refine lv_topl (fun x_36 ex_36 => ?_)
        obtain rfl : x_36 = 2 := ex_36.trans (by decide)
        refine lv_lconst (v := 0) hx hb dX8_set_47 (by decide) ?_
        refine lv_ldc2 (v := 5) hx hb hown (hts (.constantLong RX8 94 (5)) (List.mem_of_getElem? (i := 4) rfl)) dX8_set_48 ?_
        refine kCallI (wr := [(m0, .inr (8, [.ref mH, .int aM, .long aC, .int mM, .long mQ, .int oV, .int pL, .int lI, .int sW, .int dP, .int sT, .long aT, .int cH, .int iW, .ref mI, .ref mJ, .ref mS, .ref mD, .int iH, .int aE, .int mN, .long sZ, .ref mX, .int tS, .int tA, .int tW, .ref mA, .ref mB, .ref mW, .ref mL, .int lS]))]) (va_runS (As := [.long 2, .long 0, .long 5]) (rest := []) ⟨hx, hb, hml, hown, hts⟩ (q_in l D cI cL cB cZ cT _ 2 0 5) (va_cwS 3 hts gX8_set_X8_in rfl rfl rfl (by decide +kernel) ⟨Nat.le_of_ble_eq_true rfl, Nat.le_of_ble_eq_true rfl⟩) (kPreS hG hP hD [] rfl (by decide)) rfl rfl hl.1 rfl (lv_room (Nat.le_of_ble_eq_true rfl)) dX8_set_51 ⟨Nat.le_of_ble_eq_true rfl, Nat.le_of_ble_eq_true rfl⟩) hA hP hD hS [] [0] rfl rfl (by decide) (by decide) (fun r_37 u_r_37 H locs wr_37 hP hD hS => ?_)
        have hP : va_P D vwCl [(m0, .inr (8, [.ref mH, .int aM, .long aC, .int mM, .long mQ, .int oV, .int pL, .int lI, .int sW, .int dP, .int sT, .long aT, .int cH, .int iW, .ref mI, .ref mJ, .ref mS, .ref mD, .int iH, .int aE, .int mN, .long sZ, .ref mX, .int tS, .int tA, .int tW, .ref mA, .ref mB, .ref mW, .ref mL, .int lS]))] H := hP
        have hD : va_D A [(m0, .inr (8, [.ref mH, .int aM, .long aC, .int mM, .long mQ, .int oV, .int pL, .int lI, .int sW, .int dP, .int sT, .long aT, .int cH, .int iW, .ref mI, .ref mJ, .ref mS, .ref mD, .int iH, .int aE, .int mN, .long sZ, .ref mX, .int tS, .int tA, .int tW, .ref mA, .ref mB, .ref mW, .ref mL, .int lS]))] := hD
        try dsimp only at wr_37
        subst wr_37
        refine lv_if_eq (tgt := 67) hx hb dX8_set_54 (by decide) (fun c_54_37 => ?_) (fun c_54_37 => ?_)
        · have t_54_37 := c_54_37
          try simp only [kb_eq0, kb_ne0, lg_cmp_lt, lg_cmp_le, lg_cmp_gt, lg_cmp_ge, lg_cmp_eq] at t_54_37
          try simp only [Int32.lt_iff_toInt_lt, Int32.le_iff_toInt_le, ← Int32.toInt_inj, Int64.lt_iff_toInt_lt, Int64.le_iff_toInt_le, ← Int64.toInt_inj, Int32.toInt_toInt64, Int32.reduceToInt, Int64.reduceToInt] at t_54_37
          omega
        · have t_54_37 := c_54_37
          try simp only [kb_eq0, kb_ne0, lg_cmp_lt, lg_cmp_le, lg_cmp_gt, lg_cmp_ge, lg_cmp_eq] at t_54_37
          try simp only [Int32.lt_iff_toInt_lt, Int32.le_iff_toInt_le, ← Int32.toInt_inj, Int64.lt_iff_toInt_lt, Int64.le_iff_toInt_le, ← Int64.toInt_inj, Int32.toInt_toInt64, Int32.reduceToInt, Int64.reduceToInt] at t_54_37
          refine lv_lload_n hx hb dX8_set_57 rfl (lv_at hl 3 rfl) ?_
          refine lv_lconst (v := 0) hx hb dX8_set_58 (by decide) ?_
          refine lv_lload hx hb dX8_set_59 (lv_at hl 0 rfl) ?_
          refine kCallI (wr := [(m0, .inr (8, [.ref mH, .int aM, .long aC, .int mM, .long mQ, .int oV, .int pL, .int lI, .int sW, .int dP, .int sT, .long aT, .int cH, .int iW, .ref mI, .ref mJ, .ref mS, .ref mD, .int iH, .int aE, .int mN, .long sZ, .ref mX, .int tS, .int tA, .int tW, .ref mA, .ref mB, .ref mW, .ref mL, .int lS]))]) (va_runS (As := [.long v, .long 0, .long 1]) (rest := []) ⟨hx, hb, hml, hown, hts⟩ (q_in l D cI cL cB cZ cT _ v 0 1) (va_cwS 3 hts gX8_set_X8_in rfl rfl rfl (by decide +kernel) ⟨Nat.le_of_ble_eq_true rfl, Nat.le_of_ble_eq_true rfl⟩) (kPreS hG hP hD [] rfl (by decide)) rfl rfl hl.1 rfl (lv_room (Nat.le_of_ble_eq_true rfl)) dX8_set_61 ⟨Nat.le_of_ble_eq_true rfl, Nat.le_of_ble_eq_true rfl⟩) hA hP hD hS [] [0] rfl rfl (by decide) (by decide) (fun r_39 u_r_39 H locs wr_39 hP hD hS => ?_)
          have hP : va_P D vwCl [(m0, .inr (8, [.ref mH, .int aM, .long aC, .int mM, .long mQ, .int oV, .int pL, .int lI, .int sW, .int dP, .int sT, .long aT, .int cH, .int iW, .ref mI, .ref mJ, .ref mS, .ref mD, .int iH, .int aE, .int mN, .long sZ, .ref mX, .int tS, .int tA, .int tW, .ref mA, .ref mB, .ref mW, .ref mL, .int lS]))] H := hP
          have hD : va_D A [(m0, .inr (8, [.ref mH, .int aM, .long aC, .int mM, .long mQ, .int oV, .int pL, .int lI, .int sW, .int dP, .int sT, .long aT, .int cH, .int iW, .ref mI, .ref mJ, .ref mS, .ref mD, .int iH, .int aE, .int mN, .long sZ, .ref mX, .int tS, .int tA, .int tW, .ref mA, .ref mB, .ref mW, .ref mL, .int lS]))] := hD
          try dsimp only at wr_39
          subst wr_39
          refine lv_if_ne (tgt := 69) hx hb dX8_set_64 (by decide) (fun c_64_39 => ?_) (fun c_64_39 => ?_)
          · have t_64_39 := c_64_39
            try simp only [kb_eq0, kb_ne0, lg_cmp_lt, lg_cmp_le, lg_cmp_gt, lg_cmp_ge, lg_cmp_eq] at t_64_39
            try simp only [Int32.lt_iff_toInt_lt, Int32.le_iff_toInt_le, ← Int32.toInt_inj, Int64.lt_iff_toInt_lt, Int64.le_iff_toInt_le, ← Int64.toInt_inj, Int32.toInt_toInt64, Int32.reduceToInt, Int64.reduceToInt] at t_64_39
            refine lv_iload_n hx hb dX8_set_69 rfl (lv_at hl 2 rfl) ?_
            refine lv_tableIn (tgt := 130) (off := 60) hx hb dX8_set_70 (by decide) (by decide) (by decide) (by decide) ?_
            refine lv_aload_n hx hb dX8_set_130 rfl (lv_at hl 1 rfl) ?_
            refine lv_lload_n hx hb dX8_set_131 rfl (lv_at hl 3 rfl) ?_
            refine lv_lconst (v := 1) hx hb dX8_set_132 (by decide) ?_
            refine W.lcmp hx hb dX8_set_133 ?_
            refine lv_if_ne (tgt := 141) hx hb dX8_set_134 (by decide) (fun c_134_40 => ?_) (fun c_134_40 => ?_)
            · have t_134_40 := c_134_40
              try simp only [kb_eq0, kb_ne0, lg_cmp_lt, lg_cmp_le, lg_cmp_gt, lg_cmp_ge, lg_cmp_eq] at t_134_40
              try simp only [Int32.lt_iff_toInt_lt, Int32.le_iff_toInt_le, ← Int32.toInt_inj, Int64.lt_iff_toInt_lt, Int64.le_iff_toInt_le, ← Int64.toInt_inj, Int32.toInt_toInt64, Int32.reduceToInt, Int64.reduceToInt] at t_134_40
              refine lv_iconst (v := 0) hx hb dX8_set_141 (by decide) ?_
              refine va_put (D := D) (ci := 8) (v := .int 0) (ty := .boolean) (C := RX8) (T := TX8) (N := 31) hx hb hts iX8_set_X8 tyX8 tyX8_ok nmX8 hown hK hP hD hS 0 rfl rfl 3 (by decide) (hts (.fieldLink RX8 69 "TapeCalculatorModel" "mqMinus" "Z") (List.mem_of_getElem? (i := 7) rfl)) (fun _ h9 => h9) rfl (by decide +kernel) rfl rfl (Nat.le_of_ble_eq_true rfl) dX8_set_142 (fun H locs hP hD hS => ?_)
              have hP : va_P D vwCl [(m0, .inr (8, [.ref mH, .int aM, .long aC, .int 0, .long mQ, .int oV, .int pL, .int lI, .int sW, .int dP, .int sT, .long aT, .int cH, .int iW, .ref mI, .ref mJ, .ref mS, .ref mD, .int iH, .int aE, .int mN, .long sZ, .ref mX, .int tS, .int tA, .int tW, .ref mA, .ref mB, .ref mW, .ref mL, .int lS]))] H := hP
              have hD : va_D A [(m0, .inr (8, [.ref mH, .int aM, .long aC, .int 0, .long mQ, .int oV, .int pL, .int lI, .int sW, .int dP, .int sT, .long aT, .int cH, .int iW, .ref mI, .ref mJ, .ref mS, .ref mD, .int iH, .int aE, .int mN, .long sZ, .ref mX, .int tS, .int tA, .int tW, .ref mA, .ref mB, .ref mW, .ref mL, .int lS]))] := hD
              refine lv_goto (tgt := 180) hx hb dX8_set_145 (by decide) ?_
              refine lv_iconst (v := 1) hx hb dX8_set_180 (by decide) ?_
              refine kIret (u := (aM, aC, 0, mQ, oV, pL)) hx hb hr rfl hlocks hS dX8_set_181 ?_ (hP.sub [0] rfl) (hD.sub [0] (by decide) rfl)
              have hm : (kMost 2).toInt = 1 := by decide
              refine ⟨?_, ?_⟩
              · first | exact (kif_t (by omega)).symm | exact (kif_f (by omega)).symm
              · try dsimp only
                repeat' (with_reducible apply And.intro)
                all_goals first | with_reducible assumption | ((try simp only [jT_, jP_, jD_, jC_, jB_, jW_, Int32.reduceToInt, Int64.reduceToInt, true_or, or_true, true_and, and_true]) <;> omega)
            · have t_134_40 := c_134_40
              try simp only [kb_eq0, kb_ne0, lg_cmp_lt, lg_cmp_le, lg_cmp_gt, lg_cmp_ge, lg_cmp_eq] at t_134_40
              try simp only [Int32.lt_iff_toInt_lt, Int32.le_iff_toInt_le, ← Int32.toInt_inj, Int64.lt_iff_toInt_lt, Int64.le_iff_toInt_le, ← Int64.toInt_inj, Int32.toInt_toInt64, Int32.reduceToInt, Int64.reduceToInt] at t_134_40
              refine lv_iconst (v := 1) hx hb dX8_set_137 (by decide) ?_
              refine lv_goto (tgt := 142) hx hb dX8_set_138 (by decide) ?_
              refine va_put (D := D) (ci := 8) (v := .int 1) (ty := .boolean) (C := RX8) (T := TX8) (N := 31) hx hb hts iX8_set_X8 tyX8 tyX8_ok nmX8 hown hK hP hD hS 0 rfl rfl 3 (by decide) (hts (.fieldLink RX8 69 "TapeCalculatorModel" "mqMinus" "Z") (List.mem_of_getElem? (i := 7) rfl)) (fun _ h9 => h9) rfl (by decide +kernel) rfl rfl (Nat.le_of_ble_eq_true rfl) dX8_set_142 (fun H locs hP hD hS => ?_)
              have hP : va_P D vwCl [(m0, .inr (8, [.ref mH, .int aM, .long aC, .int 1, .long mQ, .int oV, .int pL, .int lI, .int sW, .int dP, .int sT, .long aT, .int cH, .int iW, .ref mI, .ref mJ, .ref mS, .ref mD, .int iH, .int aE, .int mN, .long sZ, .ref mX, .int tS, .int tA, .int tW, .ref mA, .ref mB, .ref mW, .ref mL, .int lS]))] H := hP
              have hD : va_D A [(m0, .inr (8, [.ref mH, .int aM, .long aC, .int 1, .long mQ, .int oV, .int pL, .int lI, .int sW, .int dP, .int sT, .long aT, .int cH, .int iW, .ref mI, .ref mJ, .ref mS, .ref mD, .int iH, .int aE, .int mN, .long sZ, .ref mX, .int tS, .int tA, .int tW, .ref mA, .ref mB, .ref mW, .ref mL, .int lS]))] := hD
              refine lv_goto (tgt := 180) hx hb dX8_set_145 (by decide) ?_
              refine lv_iconst (v := 1) hx hb dX8_set_180 (by decide) ?_
              refine kIret (u := (aM, aC, 1, mQ, oV, pL)) hx hb hr rfl hlocks hS dX8_set_181 ?_ (hP.sub [0] rfl) (hD.sub [0] (by decide) rfl)
              have hm : (kMost 2).toInt = 1 := by decide
              refine ⟨?_, ?_⟩
              · first | exact (kif_t (by omega)).symm | exact (kif_f (by omega)).symm
              · try dsimp only
                repeat' (with_reducible apply And.intro)
                all_goals first | with_reducible assumption | ((try simp only [jT_, jP_, jD_, jC_, jB_, jW_, Int32.reduceToInt, Int64.reduceToInt, true_or, or_true, true_and, and_true]) <;> omega)
          · have t_64_39 := c_64_39
            try simp only [kb_eq0, kb_ne0, lg_cmp_lt, lg_cmp_le, lg_cmp_gt, lg_cmp_ge, lg_cmp_eq] at t_64_39
            try simp only [Int32.lt_iff_toInt_lt, Int32.le_iff_toInt_le, ← Int32.toInt_inj, Int64.lt_iff_toInt_lt, Int64.le_iff_toInt_le, ← Int64.toInt_inj, Int32.toInt_toInt64, Int32.reduceToInt, Int64.reduceToInt] at t_64_39
            refine lv_iconst (v := (-1)) hx hb dX8_set_67 (by decide) ?_
            refine kIret (u := (aM, aC, mM, mQ, oV, pL)) hx hb hr rfl hlocks hS dX8_set_68 ?_ (hP.sub [0] rfl) (hD.sub [0] (by decide) rfl)
            have hm : (kMost 2).toInt = 1 := by decide
            refine ⟨?_, ?_⟩
            · first | exact (kif_t (by omega)).symm | exact (kif_f (by omega)).symm
            · try dsimp only
              repeat' (with_reducible apply And.intro)
              all_goals first | with_reducible assumption | ((try simp only [jT_, jP_, jD_, jC_, jB_, jW_, Int32.reduceToInt, Int64.reduceToInt, true_or, or_true, true_and, and_true]) <;> omega)
      · exact absurd (by decide) c_6_34
  · refine lv_iload_n hx hb dX8_set_0 rfl (lv_at hl 1 rfl) ?_
    refine lv_if_eq (tgt := 14) hx hb dX8_set_1 (by decide) (fun c_1_41 => ?_) (fun c_1_41 => ?_)
    · exact absurd c_1_41 (by decide)
    · have t_1_41 := c_1_41
      try simp only [kb_eq0, kb_ne0, lg_cmp_lt, lg_cmp_le, lg_cmp_gt, lg_cmp_ge, lg_cmp_eq] at t_1_41
      try simp only [Int32.lt_iff_toInt_lt, Int32.le_iff_toInt_le, ← Int32.toInt_inj, Int64.lt_iff_toInt_lt, Int64.le_iff_toInt_le, ← Int64.toInt_inj, Int32.toInt_toInt64, Int32.reduceToInt, Int64.reduceToInt] at t_1_41
      refine lv_iload_n hx hb dX8_set_4 rfl (lv_at hl 1 rfl) ?_
      refine lv_iconst (v := 2) hx hb dX8_set_5 (by decide) ?_
      refine lv_icmp_eq (tgt := 14) hx hb dX8_set_6 (by decide) (fun c_6_42 => ?_) (fun c_6_42 => ?_)
      · exact absurd c_6_42 (by decide)
      · have t_6_42 := c_6_42
        try simp only [kb_eq0, kb_ne0, lg_cmp_lt, lg_cmp_le, lg_cmp_gt, lg_cmp_ge, lg_cmp_eq] at t_6_42
        try simp only [Int32.lt_iff_toInt_lt, Int32.le_iff_toInt_le, ← Int32.toInt_inj, Int64.lt_iff_toInt_lt, Int64.le_iff_toInt_le, ← Int64.toInt_inj, Int32.toInt_toInt64, Int32.reduceToInt, Int64.reduceToInt] at t_6_42
        refine lv_iload_n hx hb dX8_set_9 rfl (lv_at hl 1 rfl) ?_
        refine lv_iconst (v := 4) hx hb dX8_set_10 (by decide) ?_
        refine lv_icmp_ne (tgt := 18) hx hb dX8_set_11 (by decide) (fun c_11_43 => ?_) (fun c_11_43 => ?_)
        · have t_11_43 := c_11_43
          try simp only [kb_eq0, kb_ne0, lg_cmp_lt, lg_cmp_le, lg_cmp_gt, lg_cmp_ge, lg_cmp_eq] at t_11_43
          try simp only [Int32.lt_iff_toInt_lt, Int32.le_iff_toInt_le, ← Int32.toInt_inj, Int64.lt_iff_toInt_lt, Int64.le_iff_toInt_le, ← Int64.toInt_inj, Int32.toInt_toInt64, Int32.reduceToInt, Int64.reduceToInt] at t_11_43
          refine lv_iload_n hx hb dX8_set_18 rfl (lv_at hl 1 rfl) ?_
          refine lv_iconst (v := 1) hx hb dX8_set_19 (by decide) ?_
          refine lv_icmp_ne (tgt := 29) hx hb dX8_set_20 (by decide) (fun c_20_44 => ?_) (fun c_20_44 => ?_)
          · have t_20_44 := c_20_44
            try simp only [kb_eq0, kb_ne0, lg_cmp_lt, lg_cmp_le, lg_cmp_gt, lg_cmp_ge, lg_cmp_eq] at t_20_44
            try simp only [Int32.lt_iff_toInt_lt, Int32.le_iff_toInt_le, ← Int32.toInt_inj, Int64.lt_iff_toInt_lt, Int64.le_iff_toInt_le, ← Int64.toInt_inj, Int32.toInt_toInt64, Int32.reduceToInt, Int64.reduceToInt] at t_20_44
            refine lv_iload_n hx hb dX8_set_29 rfl (lv_at hl 1 rfl) ?_
            refine lv_iconst (v := 3) hx hb dX8_set_30 (by decide) ?_
            refine lv_icmp_ne (tgt := 40) hx hb dX8_set_31 (by decide) (fun c_31_45 => ?_) (fun c_31_45 => ?_)
            · exact absurd (by decide) c_31_45
            · have t_31_45 := c_31_45
              try simp only [kb_eq0, kb_ne0, lg_cmp_lt, lg_cmp_le, lg_cmp_gt, lg_cmp_ge, lg_cmp_eq] at t_31_45
              try simp only [Int32.lt_iff_toInt_lt, Int32.le_iff_toInt_le, ← Int32.toInt_inj, Int64.lt_iff_toInt_lt, Int64.le_iff_toInt_le, ← Int64.toInt_inj, Int32.toInt_toInt64, Int32.reduceToInt, Int64.reduceToInt] at t_31_45
              refine lv_ldc2 (v := 34359738367) hx hb hown (hts (.constantLong RX8 92 (34359738367)) (List.mem_of_getElem? (i := 2) rfl)) dX8_set_34 ?_
              refine lv_goto (tgt := 43) hx hb dX8_set_37 (by decide) ?_
              refine lv_lstore (lv' := [(4, .long 34359738367), (0, .ref m0), (1, .int 3), (2, .long v)]) hx hb dX8_set_43 hl (by decide) rfl (fun ls hl => ?_)
              refine lv_iload_n hx hb dX8_set_45 rfl (lv_at hl 2 rfl) ?_
              refine lv_i2l hx hb dX8_set_46 rfl ?_
              refine lv_topl (fun x_47 ex_47 => ?_)
              obtain rfl : x_47 = 3 := ex_47.trans (by decide)
              refine lv_lconst (v := 0) hx hb dX8_set_47 (by decide) ?_
              refine lv_ldc2 (v := 5) hx hb hown (hts (.constantLong RX8 94 (5)) (List.mem_of_getElem? (i := 4) rfl)) dX8_set_48 ?_
              refine kCallI (wr := [(m0, .inr (8, [.ref mH, .int aM, .long aC, .int mM, .long mQ, .int oV, .int pL, .int lI, .int sW, .int dP, .int sT, .long aT, .int cH, .int iW, .ref mI, .ref mJ, .ref mS, .ref mD, .int iH, .int aE, .int mN, .long sZ, .ref mX, .int tS, .int tA, .int tW, .ref mA, .ref mB, .ref mW, .ref mL, .int lS]))]) (va_runS (As := [.long 3, .long 0, .long 5]) (rest := []) ⟨hx, hb, hml, hown, hts⟩ (q_in l D cI cL cB cZ cT _ 3 0 5) (va_cwS 3 hts gX8_set_X8_in rfl rfl rfl (by decide +kernel) ⟨Nat.le_of_ble_eq_true rfl, Nat.le_of_ble_eq_true rfl⟩) (kPreS hG hP hD [] rfl (by decide)) rfl rfl hl.1 rfl (lv_room (Nat.le_of_ble_eq_true rfl)) dX8_set_51 ⟨Nat.le_of_ble_eq_true rfl, Nat.le_of_ble_eq_true rfl⟩) hA hP hD hS [] [0] rfl rfl (by decide) (by decide) (fun r_48 u_r_48 H locs wr_48 hP hD hS => ?_)
              have hP : va_P D vwCl [(m0, .inr (8, [.ref mH, .int aM, .long aC, .int mM, .long mQ, .int oV, .int pL, .int lI, .int sW, .int dP, .int sT, .long aT, .int cH, .int iW, .ref mI, .ref mJ, .ref mS, .ref mD, .int iH, .int aE, .int mN, .long sZ, .ref mX, .int tS, .int tA, .int tW, .ref mA, .ref mB, .ref mW, .ref mL, .int lS]))] H := hP
              have hD : va_D A [(m0, .inr (8, [.ref mH, .int aM, .long aC, .int mM, .long mQ, .int oV, .int pL, .int lI, .int sW, .int dP, .int sT, .long aT, .int cH, .int iW, .ref mI, .ref mJ, .ref mS, .ref mD, .int iH, .int aE, .int mN, .long sZ, .ref mX, .int tS, .int tA, .int tW, .ref mA, .ref mB, .ref mW, .ref mL, .int lS]))] := hD
              try dsimp only at wr_48
              subst wr_48
              refine lv_if_eq (tgt := 67) hx hb dX8_set_54 (by decide) (fun c_54_48 => ?_) (fun c_54_48 => ?_)
              · have t_54_48 := c_54_48
                try simp only [kb_eq0, kb_ne0, lg_cmp_lt, lg_cmp_le, lg_cmp_gt, lg_cmp_ge, lg_cmp_eq] at t_54_48
                try simp only [Int32.lt_iff_toInt_lt, Int32.le_iff_toInt_le, ← Int32.toInt_inj, Int64.lt_iff_toInt_lt, Int64.le_iff_toInt_le, ← Int64.toInt_inj, Int32.toInt_toInt64, Int32.reduceToInt, Int64.reduceToInt] at t_54_48
                omega
              · have t_54_48 := c_54_48
                try simp only [kb_eq0, kb_ne0, lg_cmp_lt, lg_cmp_le, lg_cmp_gt, lg_cmp_ge, lg_cmp_eq] at t_54_48
                try simp only [Int32.lt_iff_toInt_lt, Int32.le_iff_toInt_le, ← Int32.toInt_inj, Int64.lt_iff_toInt_lt, Int64.le_iff_toInt_le, ← Int64.toInt_inj, Int32.toInt_toInt64, Int32.reduceToInt, Int64.reduceToInt] at t_54_48
                refine lv_lload_n hx hb dX8_set_57 rfl (lv_at hl 3 rfl) ?_
                refine lv_lconst (v := 0) hx hb dX8_set_58 (by decide) ?_
                refine lv_lload hx hb dX8_set_59 (lv_at hl 0 rfl) ?_
                refine kCallI (wr := [(m0, .inr (8, [.ref mH, .int aM, .long aC, .int mM, .long mQ, .int oV, .int pL, .int lI, .int sW, .int dP, .int sT, .long aT, .int cH, .int iW, .ref mI, .ref mJ, .ref mS, .ref mD, .int iH, .int aE, .int mN, .long sZ, .ref mX, .int tS, .int tA, .int tW, .ref mA, .ref mB, .ref mW, .ref mL, .int lS]))]) (va_runS (As := [.long v, .long 0, .long 34359738367]) (rest := []) ⟨hx, hb, hml, hown, hts⟩ (q_in l D cI cL cB cZ cT _ v 0 34359738367) (va_cwS 3 hts gX8_set_X8_in rfl rfl rfl (by decide +kernel) ⟨Nat.le_of_ble_eq_true rfl, Nat.le_of_ble_eq_true rfl⟩) (kPreS hG hP hD [] rfl (by decide)) rfl rfl hl.1 rfl (lv_room (Nat.le_of_ble_eq_true rfl)) dX8_set_61 ⟨Nat.le_of_ble_eq_true rfl, Nat.le_of_ble_eq_true rfl⟩) hA hP hD hS [] [0] rfl rfl (by decide) (by decide) (fun r_50 u_r_50 H locs wr_50 hP hD hS => ?_)
                have hP : va_P D vwCl [(m0, .inr (8, [.ref mH, .int aM, .long aC, .int mM, .long mQ, .int oV, .int pL, .int lI, .int sW, .int dP, .int sT, .long aT, .int cH, .int iW, .ref mI, .ref mJ, .ref mS, .ref mD, .int iH, .int aE, .int mN, .long sZ, .ref mX, .int tS, .int tA, .int tW, .ref mA, .ref mB, .ref mW, .ref mL, .int lS]))] H := hP
                have hD : va_D A [(m0, .inr (8, [.ref mH, .int aM, .long aC, .int mM, .long mQ, .int oV, .int pL, .int lI, .int sW, .int dP, .int sT, .long aT, .int cH, .int iW, .ref mI, .ref mJ, .ref mS, .ref mD, .int iH, .int aE, .int mN, .long sZ, .ref mX, .int tS, .int tA, .int tW, .ref mA, .ref mB, .ref mW, .ref mL, .int lS]))] := hD
                try dsimp only at wr_50
                subst wr_50
                refine lv_if_ne (tgt := 69) hx hb dX8_set_64 (by decide) (fun c_64_50 => ?_) (fun c_64_50 => ?_)
                · have t_64_50 := c_64_50
                  try simp only [kb_eq0, kb_ne0, lg_cmp_lt, lg_cmp_le, lg_cmp_gt, lg_cmp_ge, lg_cmp_eq] at t_64_50
                  try simp only [Int32.lt_iff_toInt_lt, Int32.le_iff_toInt_le, ← Int32.toInt_inj, Int64.lt_iff_toInt_lt, Int64.le_iff_toInt_le, ← Int64.toInt_inj, Int32.toInt_toInt64, Int32.reduceToInt, Int64.reduceToInt] at t_64_50
                  refine lv_iload_n hx hb dX8_set_69 rfl (lv_at hl 2 rfl) ?_
                  refine lv_tableIn (tgt := 148) (off := 78) hx hb dX8_set_70 (by decide) (by decide) (by decide) (by decide) ?_
                  refine lv_aload_n hx hb dX8_set_148 rfl (lv_at hl 1 rfl) ?_
                  refine lv_lload_n hx hb dX8_set_149 rfl (lv_at hl 3 rfl) ?_
                  refine va_put (D := D) (ci := 8) (v := .long v) (ty := .long) (C := RX8) (T := TX8) (N := 31) hx hb hts iX8_set_X8 tyX8 tyX8_ok nmX8 hown hK hP hD hS 0 rfl rfl 4 (by decide) (hts (.fieldLink RX8 72 "TapeCalculatorModel" "mq" "J") (List.mem_of_getElem? (i := 8) rfl)) (fun _ h9 => h9) rfl (by decide +kernel) rfl rfl (Nat.le_of_ble_eq_true rfl) dX8_set_150 (fun H locs hP hD hS => ?_)
                  have hP : va_P D vwCl [(m0, .inr (8, [.ref mH, .int aM, .long aC, .int mM, .long v, .int oV, .int pL, .int lI, .int sW, .int dP, .int sT, .long aT, .int cH, .int iW, .ref mI, .ref mJ, .ref mS, .ref mD, .int iH, .int aE, .int mN, .long sZ, .ref mX, .int tS, .int tA, .int tW, .ref mA, .ref mB, .ref mW, .ref mL, .int lS]))] H := hP
                  have hD : va_D A [(m0, .inr (8, [.ref mH, .int aM, .long aC, .int mM, .long v, .int oV, .int pL, .int lI, .int sW, .int dP, .int sT, .long aT, .int cH, .int iW, .ref mI, .ref mJ, .ref mS, .ref mD, .int iH, .int aE, .int mN, .long sZ, .ref mX, .int tS, .int tA, .int tW, .ref mA, .ref mB, .ref mW, .ref mL, .int lS]))] := hD
                  refine lv_goto (tgt := 180) hx hb dX8_set_153 (by decide) ?_
                  refine lv_iconst (v := 1) hx hb dX8_set_180 (by decide) ?_
                  refine kIret (u := (aM, aC, mM, v, oV, pL)) hx hb hr rfl hlocks hS dX8_set_181 ?_ (hP.sub [0] rfl) (hD.sub [0] (by decide) rfl)
                  have hm : (kMost 3).toInt = 34359738367 := by decide
                  refine ⟨?_, ?_⟩
                  · first | exact (kif_t (by omega)).symm | exact (kif_f (by omega)).symm
                  · try dsimp only
                    repeat' (with_reducible apply And.intro)
                    all_goals first | with_reducible assumption | ((try simp only [jT_, jP_, jD_, jC_, jB_, jW_, Int32.reduceToInt, Int64.reduceToInt, true_or, or_true, true_and, and_true]) <;> omega)
                · have t_64_50 := c_64_50
                  try simp only [kb_eq0, kb_ne0, lg_cmp_lt, lg_cmp_le, lg_cmp_gt, lg_cmp_ge, lg_cmp_eq] at t_64_50
                  try simp only [Int32.lt_iff_toInt_lt, Int32.le_iff_toInt_le, ← Int32.toInt_inj, Int64.lt_iff_toInt_lt, Int64.le_iff_toInt_le, ← Int64.toInt_inj, Int32.toInt_toInt64, Int32.reduceToInt, Int64.reduceToInt] at t_64_50
                  refine lv_iconst (v := (-1)) hx hb dX8_set_67 (by decide) ?_
                  refine kIret (u := (aM, aC, mM, mQ, oV, pL)) hx hb hr rfl hlocks hS dX8_set_68 ?_ (hP.sub [0] rfl) (hD.sub [0] (by decide) rfl)
                  have hm : (kMost 3).toInt = 34359738367 := by decide
                  refine ⟨?_, ?_⟩
                  · first | exact (kif_t (by omega)).symm | exact (kif_f (by omega)).symm
                  · try dsimp only
                    repeat' (with_reducible apply And.intro)
                    all_goals first | with_reducible assumption | ((try simp only [jT_, jP_, jD_, jC_, jB_, jW_, Int32.reduceToInt, Int64.reduceToInt, true_or, or_true, true_and, and_true]) <;> omega)
          · exact absurd c_20_44 (by decide)
        · exact absurd c_11_43 (by decide)
  · refine lv_iload_n hx hb dX8_set_0 rfl (lv_at hl 1 rfl) ?_
    refine lv_if_eq (tgt := 14) hx hb dX8_set_1 (by decide) (fun c_1_51 => ?_) (fun c_1_51 => ?_)
    · exact absurd c_1_51 (by decide)
    · have t_1_51 := c_1_51
      try simp only [kb_eq0, kb_ne0, lg_cmp_lt, lg_cmp_le, lg_cmp_gt, lg_cmp_ge, lg_cmp_eq] at t_1_51
      try simp only [Int32.lt_iff_toInt_lt, Int32.le_iff_toInt_le, ← Int32.toInt_inj, Int64.lt_iff_toInt_lt, Int64.le_iff_toInt_le, ← Int64.toInt_inj, Int32.toInt_toInt64, Int32.reduceToInt, Int64.reduceToInt] at t_1_51
      refine lv_iload_n hx hb dX8_set_4 rfl (lv_at hl 1 rfl) ?_
      refine lv_iconst (v := 2) hx hb dX8_set_5 (by decide) ?_
      refine lv_icmp_eq (tgt := 14) hx hb dX8_set_6 (by decide) (fun c_6_52 => ?_) (fun c_6_52 => ?_)
      · exact absurd c_6_52 (by decide)
      · have t_6_52 := c_6_52
        try simp only [kb_eq0, kb_ne0, lg_cmp_lt, lg_cmp_le, lg_cmp_gt, lg_cmp_ge, lg_cmp_eq] at t_6_52
        try simp only [Int32.lt_iff_toInt_lt, Int32.le_iff_toInt_le, ← Int32.toInt_inj, Int64.lt_iff_toInt_lt, Int64.le_iff_toInt_le, ← Int64.toInt_inj, Int32.toInt_toInt64, Int32.reduceToInt, Int64.reduceToInt] at t_6_52
        refine lv_iload_n hx hb dX8_set_9 rfl (lv_at hl 1 rfl) ?_
        refine lv_iconst (v := 4) hx hb dX8_set_10 (by decide) ?_
        refine lv_icmp_ne (tgt := 18) hx hb dX8_set_11 (by decide) (fun c_11_53 => ?_) (fun c_11_53 => ?_)
        · exact absurd (by decide) c_11_53
        · have t_11_53 := c_11_53
          try simp only [kb_eq0, kb_ne0, lg_cmp_lt, lg_cmp_le, lg_cmp_gt, lg_cmp_ge, lg_cmp_eq] at t_11_53
          try simp only [Int32.lt_iff_toInt_lt, Int32.le_iff_toInt_le, ← Int32.toInt_inj, Int64.lt_iff_toInt_lt, Int64.le_iff_toInt_le, ← Int64.toInt_inj, Int32.toInt_toInt64, Int32.reduceToInt, Int64.reduceToInt] at t_11_53
          refine lv_lconst (v := 1) hx hb dX8_set_14 (by decide) ?_
          refine lv_goto (tgt := 43) hx hb dX8_set_15 (by decide) ?_
          refine lv_lstore (lv' := [(4, .long 1), (0, .ref m0), (1, .int 4), (2, .long v)]) hx hb dX8_set_43 hl (by decide) rfl (fun ls hl => ?_)
          refine lv_iload_n hx hb dX8_set_45 rfl (lv_at hl 2 rfl) ?_
          refine lv_i2l hx hb dX8_set_46 rfl ?_
          refine lv_topl (fun x_55 ex_55 => ?_)
          obtain rfl : x_55 = 4 := ex_55.trans (by decide)
          refine lv_lconst (v := 0) hx hb dX8_set_47 (by decide) ?_
          refine lv_ldc2 (v := 5) hx hb hown (hts (.constantLong RX8 94 (5)) (List.mem_of_getElem? (i := 4) rfl)) dX8_set_48 ?_
          refine kCallI (wr := [(m0, .inr (8, [.ref mH, .int aM, .long aC, .int mM, .long mQ, .int oV, .int pL, .int lI, .int sW, .int dP, .int sT, .long aT, .int cH, .int iW, .ref mI, .ref mJ, .ref mS, .ref mD, .int iH, .int aE, .int mN, .long sZ, .ref mX, .int tS, .int tA, .int tW, .ref mA, .ref mB, .ref mW, .ref mL, .int lS]))]) (va_runS (As := [.long 4, .long 0, .long 5]) (rest := []) ⟨hx, hb, hml, hown, hts⟩ (q_in l D cI cL cB cZ cT _ 4 0 5) (va_cwS 3 hts gX8_set_X8_in rfl rfl rfl (by decide +kernel) ⟨Nat.le_of_ble_eq_true rfl, Nat.le_of_ble_eq_true rfl⟩) (kPreS hG hP hD [] rfl (by decide)) rfl rfl hl.1 rfl (lv_room (Nat.le_of_ble_eq_true rfl)) dX8_set_51 ⟨Nat.le_of_ble_eq_true rfl, Nat.le_of_ble_eq_true rfl⟩) hA hP hD hS [] [0] rfl rfl (by decide) (by decide) (fun r_56 u_r_56 H locs wr_56 hP hD hS => ?_)
          have hP : va_P D vwCl [(m0, .inr (8, [.ref mH, .int aM, .long aC, .int mM, .long mQ, .int oV, .int pL, .int lI, .int sW, .int dP, .int sT, .long aT, .int cH, .int iW, .ref mI, .ref mJ, .ref mS, .ref mD, .int iH, .int aE, .int mN, .long sZ, .ref mX, .int tS, .int tA, .int tW, .ref mA, .ref mB, .ref mW, .ref mL, .int lS]))] H := hP
          have hD : va_D A [(m0, .inr (8, [.ref mH, .int aM, .long aC, .int mM, .long mQ, .int oV, .int pL, .int lI, .int sW, .int dP, .int sT, .long aT, .int cH, .int iW, .ref mI, .ref mJ, .ref mS, .ref mD, .int iH, .int aE, .int mN, .long sZ, .ref mX, .int tS, .int tA, .int tW, .ref mA, .ref mB, .ref mW, .ref mL, .int lS]))] := hD
          try dsimp only at wr_56
          subst wr_56
          refine lv_if_eq (tgt := 67) hx hb dX8_set_54 (by decide) (fun c_54_56 => ?_) (fun c_54_56 => ?_)
          · have t_54_56 := c_54_56
            try simp only [kb_eq0, kb_ne0, lg_cmp_lt, lg_cmp_le, lg_cmp_gt, lg_cmp_ge, lg_cmp_eq] at t_54_56
            try simp only [Int32.lt_iff_toInt_lt, Int32.le_iff_toInt_le, ← Int32.toInt_inj, Int64.lt_iff_toInt_lt, Int64.le_iff_toInt_le, ← Int64.toInt_inj, Int32.toInt_toInt64, Int32.reduceToInt, Int64.reduceToInt] at t_54_56
            omega
          · have t_54_56 := c_54_56
            try simp only [kb_eq0, kb_ne0, lg_cmp_lt, lg_cmp_le, lg_cmp_gt, lg_cmp_ge, lg_cmp_eq] at t_54_56
            try simp only [Int32.lt_iff_toInt_lt, Int32.le_iff_toInt_le, ← Int32.toInt_inj, Int64.lt_iff_toInt_lt, Int64.le_iff_toInt_le, ← Int64.toInt_inj, Int32.toInt_toInt64, Int32.reduceToInt, Int64.reduceToInt] at t_54_56
            refine lv_lload_n hx hb dX8_set_57 rfl (lv_at hl 3 rfl) ?_
            refine lv_lconst (v := 0) hx hb dX8_set_58 (by decide) ?_
            refine lv_lload hx hb dX8_set_59 (lv_at hl 0 rfl) ?_
            refine kCallI (wr := [(m0, .inr (8, [.ref mH, .int aM, .long aC, .int mM, .long mQ, .int oV, .int pL, .int lI, .int sW, .int dP, .int sT, .long aT, .int cH, .int iW, .ref mI, .ref mJ, .ref mS, .ref mD, .int iH, .int aE, .int mN, .long sZ, .ref mX, .int tS, .int tA, .int tW, .ref mA, .ref mB, .ref mW, .ref mL, .int lS]))]) (va_runS (As := [.long v, .long 0, .long 1]) (rest := []) ⟨hx, hb, hml, hown, hts⟩ (q_in l D cI cL cB cZ cT _ v 0 1) (va_cwS 3 hts gX8_set_X8_in rfl rfl rfl (by decide +kernel) ⟨Nat.le_of_ble_eq_true rfl, Nat.le_of_ble_eq_true rfl⟩) (kPreS hG hP hD [] rfl (by decide)) rfl rfl hl.1 rfl (lv_room (Nat.le_of_ble_eq_true rfl)) dX8_set_61 ⟨Nat.le_of_ble_eq_true rfl, Nat.le_of_ble_eq_true rfl⟩) hA hP hD hS [] [0] rfl rfl (by decide) (by decide) (fun r_58 u_r_58 H locs wr_58 hP hD hS => ?_)
            have hP : va_P D vwCl [(m0, .inr (8, [.ref mH, .int aM, .long aC, .int mM, .long mQ, .int oV, .int pL, .int lI, .int sW, .int dP, .int sT, .long aT, .int cH, .int iW, .ref mI, .ref mJ, .ref mS, .ref mD, .int iH, .int aE, .int mN, .long sZ, .ref mX, .int tS, .int tA, .int tW, .ref mA, .ref mB, .ref mW, .ref mL, .int lS]))] H := hP
            have hD : va_D A [(m0, .inr (8, [.ref mH, .int aM, .long aC, .int mM, .long mQ, .int oV, .int pL, .int lI, .int sW, .int dP, .int sT, .long aT, .int cH, .int iW, .ref mI, .ref mJ, .ref mS, .ref mD, .int iH, .int aE, .int mN, .long sZ, .ref mX, .int tS, .int tA, .int tW, .ref mA, .ref mB, .ref mW, .ref mL, .int lS]))] := hD
            try dsimp only at wr_58
            subst wr_58
            refine lv_if_ne (tgt := 69) hx hb dX8_set_64 (by decide) (fun c_64_58 => ?_) (fun c_64_58 => ?_)
            · have t_64_58 := c_64_58
              try simp only [kb_eq0, kb_ne0, lg_cmp_lt, lg_cmp_le, lg_cmp_gt, lg_cmp_ge, lg_cmp_eq] at t_64_58
              try simp only [Int32.lt_iff_toInt_lt, Int32.le_iff_toInt_le, ← Int32.toInt_inj, Int64.lt_iff_toInt_lt, Int64.le_iff_toInt_le, ← Int64.toInt_inj, Int32.toInt_toInt64, Int32.reduceToInt, Int64.reduceToInt] at t_64_58
              refine lv_iload_n hx hb dX8_set_69 rfl (lv_at hl 2 rfl) ?_
              refine lv_tableIn (tgt := 156) (off := 86) hx hb dX8_set_70 (by decide) (by decide) (by decide) (by decide) ?_
              refine lv_aload_n hx hb dX8_set_156 rfl (lv_at hl 1 rfl) ?_
              refine lv_lload_n hx hb dX8_set_157 rfl (lv_at hl 3 rfl) ?_
              refine lv_lconst (v := 1) hx hb dX8_set_158 (by decide) ?_
              refine W.lcmp hx hb dX8_set_159 ?_
              refine lv_if_ne (tgt := 167) hx hb dX8_set_160 (by decide) (fun c_160_59 => ?_) (fun c_160_59 => ?_)
              · have t_160_59 := c_160_59
                try simp only [kb_eq0, kb_ne0, lg_cmp_lt, lg_cmp_le, lg_cmp_gt, lg_cmp_ge, lg_cmp_eq] at t_160_59
                try simp only [Int32.lt_iff_toInt_lt, Int32.le_iff_toInt_le, ← Int32.toInt_inj, Int64.lt_iff_toInt_lt, Int64.le_iff_toInt_le, ← Int64.toInt_inj, Int32.toInt_toInt64, Int32.reduceToInt, Int64.reduceToInt] at t_160_59
                refine lv_iconst (v := 0) hx hb dX8_set_167 (by decide) ?_
                refine va_put (D := D) (ci := 8) (v := .int 0) (ty := .boolean) (C := RX8) (T := TX8) (N := 31) hx hb hts iX8_set_X8 tyX8 tyX8_ok nmX8 hown hK hP hD hS 0 rfl rfl 5 (by decide) (hts (.fieldLink RX8 75 "TapeCalculatorModel" "over" "Z") (List.mem_of_getElem? (i := 9) rfl)) (fun _ h9 => h9) rfl (by decide +kernel) rfl rfl (Nat.le_of_ble_eq_true rfl) dX8_set_168 (fun H locs hP hD hS => ?_)
                have hP : va_P D vwCl [(m0, .inr (8, [.ref mH, .int aM, .long aC, .int mM, .long mQ, .int 0, .int pL, .int lI, .int sW, .int dP, .int sT, .long aT, .int cH, .int iW, .ref mI, .ref mJ, .ref mS, .ref mD, .int iH, .int aE, .int mN, .long sZ, .ref mX, .int tS, .int tA, .int tW, .ref mA, .ref mB, .ref mW, .ref mL, .int lS]))] H := hP
                have hD : va_D A [(m0, .inr (8, [.ref mH, .int aM, .long aC, .int mM, .long mQ, .int 0, .int pL, .int lI, .int sW, .int dP, .int sT, .long aT, .int cH, .int iW, .ref mI, .ref mJ, .ref mS, .ref mD, .int iH, .int aE, .int mN, .long sZ, .ref mX, .int tS, .int tA, .int tW, .ref mA, .ref mB, .ref mW, .ref mL, .int lS]))] := hD
                refine lv_goto (tgt := 180) hx hb dX8_set_171 (by decide) ?_
                refine lv_iconst (v := 1) hx hb dX8_set_180 (by decide) ?_
                refine kIret (u := (aM, aC, mM, mQ, 0, pL)) hx hb hr rfl hlocks hS dX8_set_181 ?_ (hP.sub [0] rfl) (hD.sub [0] (by decide) rfl)
                have hm : (kMost 4).toInt = 1 := by decide
                refine ⟨?_, ?_⟩
                · first | exact (kif_t (by omega)).symm | exact (kif_f (by omega)).symm
                · try dsimp only
                  repeat' (with_reducible apply And.intro)
                  all_goals first | with_reducible assumption | ((try simp only [jT_, jP_, jD_, jC_, jB_, jW_, Int32.reduceToInt, Int64.reduceToInt, true_or, or_true, true_and, and_true]) <;> omega)
              · have t_160_59 := c_160_59
                try simp only [kb_eq0, kb_ne0, lg_cmp_lt, lg_cmp_le, lg_cmp_gt, lg_cmp_ge, lg_cmp_eq] at t_160_59
                try simp only [Int32.lt_iff_toInt_lt, Int32.le_iff_toInt_le, ← Int32.toInt_inj, Int64.lt_iff_toInt_lt, Int64.le_iff_toInt_le, ← Int64.toInt_inj, Int32.toInt_toInt64, Int32.reduceToInt, Int64.reduceToInt] at t_160_59
                refine lv_iconst (v := 1) hx hb dX8_set_163 (by decide) ?_
                refine lv_goto (tgt := 168) hx hb dX8_set_164 (by decide) ?_
                refine va_put (D := D) (ci := 8) (v := .int 1) (ty := .boolean) (C := RX8) (T := TX8) (N := 31) hx hb hts iX8_set_X8 tyX8 tyX8_ok nmX8 hown hK hP hD hS 0 rfl rfl 5 (by decide) (hts (.fieldLink RX8 75 "TapeCalculatorModel" "over" "Z") (List.mem_of_getElem? (i := 9) rfl)) (fun _ h9 => h9) rfl (by decide +kernel) rfl rfl (Nat.le_of_ble_eq_true rfl) dX8_set_168 (fun H locs hP hD hS => ?_)
                have hP : va_P D vwCl [(m0, .inr (8, [.ref mH, .int aM, .long aC, .int mM, .long mQ, .int 1, .int pL, .int lI, .int sW, .int dP, .int sT, .long aT, .int cH, .int iW, .ref mI, .ref mJ, .ref mS, .ref mD, .int iH, .int aE, .int mN, .long sZ, .ref mX, .int tS, .int tA, .int tW, .ref mA, .ref mB, .ref mW, .ref mL, .int lS]))] H := hP
                have hD : va_D A [(m0, .inr (8, [.ref mH, .int aM, .long aC, .int mM, .long mQ, .int 1, .int pL, .int lI, .int sW, .int dP, .int sT, .long aT, .int cH, .int iW, .ref mI, .ref mJ, .ref mS, .ref mD, .int iH, .int aE, .int mN, .long sZ, .ref mX, .int tS, .int tA, .int tW, .ref mA, .ref mB, .ref mW, .ref mL, .int lS]))] := hD
                refine lv_goto (tgt := 180) hx hb dX8_set_171 (by decide) ?_
                refine lv_iconst (v := 1) hx hb dX8_set_180 (by decide) ?_
                refine kIret (u := (aM, aC, mM, mQ, 1, pL)) hx hb hr rfl hlocks hS dX8_set_181 ?_ (hP.sub [0] rfl) (hD.sub [0] (by decide) rfl)
                have hm : (kMost 4).toInt = 1 := by decide
                refine ⟨?_, ?_⟩
                · first | exact (kif_t (by omega)).symm | exact (kif_f (by omega)).symm
                · try dsimp only
                  repeat' (with_reducible apply And.intro)
                  all_goals first | with_reducible assumption | ((try simp only [jT_, jP_, jD_, jC_, jB_, jW_, Int32.reduceToInt, Int64.reduceToInt, true_or, or_true, true_and, and_true]) <;> omega)
            · have t_64_58 := c_64_58
              try simp only [kb_eq0, kb_ne0, lg_cmp_lt, lg_cmp_le, lg_cmp_gt, lg_cmp_ge, lg_cmp_eq] at t_64_58
              try simp only [Int32.lt_iff_toInt_lt, Int32.le_iff_toInt_le, ← Int32.toInt_inj, Int64.lt_iff_toInt_lt, Int64.le_iff_toInt_le, ← Int64.toInt_inj, Int32.toInt_toInt64, Int32.reduceToInt, Int64.reduceToInt] at t_64_58
              refine lv_iconst (v := (-1)) hx hb dX8_set_67 (by decide) ?_
              refine kIret (u := (aM, aC, mM, mQ, oV, pL)) hx hb hr rfl hlocks hS dX8_set_68 ?_ (hP.sub [0] rfl) (hD.sub [0] (by decide) rfl)
              have hm : (kMost 4).toInt = 1 := by decide
              refine ⟨?_, ?_⟩
              · first | exact (kif_t (by omega)).symm | exact (kif_f (by omega)).symm
              · try dsimp only
                repeat' (with_reducible apply And.intro)
                all_goals first | with_reducible assumption | ((try simp only [jT_, jP_, jD_, jC_, jB_, jW_, Int32.reduceToInt, Int64.reduceToInt, true_or, or_true, true_and, and_true]) <;> omega)
  · refine lv_iload_n hx hb dX8_set_0 rfl (lv_at hl 1 rfl) ?_
    refine lv_if_eq (tgt := 14) hx hb dX8_set_1 (by decide) (fun c_1_60 => ?_) (fun c_1_60 => ?_)
    · exact absurd c_1_60 (by decide)
    · have t_1_60 := c_1_60
      try simp only [kb_eq0, kb_ne0, lg_cmp_lt, lg_cmp_le, lg_cmp_gt, lg_cmp_ge, lg_cmp_eq] at t_1_60
      try simp only [Int32.lt_iff_toInt_lt, Int32.le_iff_toInt_le, ← Int32.toInt_inj, Int64.lt_iff_toInt_lt, Int64.le_iff_toInt_le, ← Int64.toInt_inj, Int32.toInt_toInt64, Int32.reduceToInt, Int64.reduceToInt] at t_1_60
      refine lv_iload_n hx hb dX8_set_4 rfl (lv_at hl 1 rfl) ?_
      refine lv_iconst (v := 2) hx hb dX8_set_5 (by decide) ?_
      refine lv_icmp_eq (tgt := 14) hx hb dX8_set_6 (by decide) (fun c_6_61 => ?_) (fun c_6_61 => ?_)
      · exact absurd c_6_61 (by decide)
      · have t_6_61 := c_6_61
        try simp only [kb_eq0, kb_ne0, lg_cmp_lt, lg_cmp_le, lg_cmp_gt, lg_cmp_ge, lg_cmp_eq] at t_6_61
        try simp only [Int32.lt_iff_toInt_lt, Int32.le_iff_toInt_le, ← Int32.toInt_inj, Int64.lt_iff_toInt_lt, Int64.le_iff_toInt_le, ← Int64.toInt_inj, Int32.toInt_toInt64, Int32.reduceToInt, Int64.reduceToInt] at t_6_61
        refine lv_iload_n hx hb dX8_set_9 rfl (lv_at hl 1 rfl) ?_
        refine lv_iconst (v := 4) hx hb dX8_set_10 (by decide) ?_
        refine lv_icmp_ne (tgt := 18) hx hb dX8_set_11 (by decide) (fun c_11_62 => ?_) (fun c_11_62 => ?_)
        · have t_11_62 := c_11_62
          try simp only [kb_eq0, kb_ne0, lg_cmp_lt, lg_cmp_le, lg_cmp_gt, lg_cmp_ge, lg_cmp_eq] at t_11_62
          try simp only [Int32.lt_iff_toInt_lt, Int32.le_iff_toInt_le, ← Int32.toInt_inj, Int64.lt_iff_toInt_lt, Int64.le_iff_toInt_le, ← Int64.toInt_inj, Int32.toInt_toInt64, Int32.reduceToInt, Int64.reduceToInt] at t_11_62
          refine lv_iload_n hx hb dX8_set_18 rfl (lv_at hl 1 rfl) ?_
          refine lv_iconst (v := 1) hx hb dX8_set_19 (by decide) ?_
          refine lv_icmp_ne (tgt := 29) hx hb dX8_set_20 (by decide) (fun c_20_63 => ?_) (fun c_20_63 => ?_)
          · have t_20_63 := c_20_63
            try simp only [kb_eq0, kb_ne0, lg_cmp_lt, lg_cmp_le, lg_cmp_gt, lg_cmp_ge, lg_cmp_eq] at t_20_63
            try simp only [Int32.lt_iff_toInt_lt, Int32.le_iff_toInt_le, ← Int32.toInt_inj, Int64.lt_iff_toInt_lt, Int64.le_iff_toInt_le, ← Int64.toInt_inj, Int32.toInt_toInt64, Int32.reduceToInt, Int64.reduceToInt] at t_20_63
            refine lv_iload_n hx hb dX8_set_29 rfl (lv_at hl 1 rfl) ?_
            refine lv_iconst (v := 3) hx hb dX8_set_30 (by decide) ?_
            refine lv_icmp_ne (tgt := 40) hx hb dX8_set_31 (by decide) (fun c_31_64 => ?_) (fun c_31_64 => ?_)
            · have t_31_64 := c_31_64
              try simp only [kb_eq0, kb_ne0, lg_cmp_lt, lg_cmp_le, lg_cmp_gt, lg_cmp_ge, lg_cmp_eq] at t_31_64
              try simp only [Int32.lt_iff_toInt_lt, Int32.le_iff_toInt_le, ← Int32.toInt_inj, Int64.lt_iff_toInt_lt, Int64.le_iff_toInt_le, ← Int64.toInt_inj, Int32.toInt_toInt64, Int32.reduceToInt, Int64.reduceToInt] at t_31_64
              refine lv_ldc2 (v := 511) hx hb hown (hts (.constantLong RX8 47 (511)) (List.mem_of_getElem? (i := 3) rfl)) dX8_set_40 ?_
              refine lv_lstore (lv' := [(4, .long 511), (0, .ref m0), (1, .int 5), (2, .long v)]) hx hb dX8_set_43 hl (by decide) rfl (fun ls hl => ?_)
              refine lv_iload_n hx hb dX8_set_45 rfl (lv_at hl 2 rfl) ?_
              refine lv_i2l hx hb dX8_set_46 rfl ?_
              refine lv_topl (fun x_66 ex_66 => ?_)
              obtain rfl : x_66 = 5 := ex_66.trans (by decide)
              refine lv_lconst (v := 0) hx hb dX8_set_47 (by decide) ?_
              refine lv_ldc2 (v := 5) hx hb hown (hts (.constantLong RX8 94 (5)) (List.mem_of_getElem? (i := 4) rfl)) dX8_set_48 ?_
              refine kCallI (wr := [(m0, .inr (8, [.ref mH, .int aM, .long aC, .int mM, .long mQ, .int oV, .int pL, .int lI, .int sW, .int dP, .int sT, .long aT, .int cH, .int iW, .ref mI, .ref mJ, .ref mS, .ref mD, .int iH, .int aE, .int mN, .long sZ, .ref mX, .int tS, .int tA, .int tW, .ref mA, .ref mB, .ref mW, .ref mL, .int lS]))]) (va_runS (As := [.long 5, .long 0, .long 5]) (rest := []) ⟨hx, hb, hml, hown, hts⟩ (q_in l D cI cL cB cZ cT _ 5 0 5) (va_cwS 3 hts gX8_set_X8_in rfl rfl rfl (by decide +kernel) ⟨Nat.le_of_ble_eq_true rfl, Nat.le_of_ble_eq_true rfl⟩) (kPreS hG hP hD [] rfl (by decide)) rfl rfl hl.1 rfl (lv_room (Nat.le_of_ble_eq_true rfl)) dX8_set_51 ⟨Nat.le_of_ble_eq_true rfl, Nat.le_of_ble_eq_true rfl⟩) hA hP hD hS [] [0] rfl rfl (by decide) (by decide) (fun r_67 u_r_67 H locs wr_67 hP hD hS => ?_)
              have hP : va_P D vwCl [(m0, .inr (8, [.ref mH, .int aM, .long aC, .int mM, .long mQ, .int oV, .int pL, .int lI, .int sW, .int dP, .int sT, .long aT, .int cH, .int iW, .ref mI, .ref mJ, .ref mS, .ref mD, .int iH, .int aE, .int mN, .long sZ, .ref mX, .int tS, .int tA, .int tW, .ref mA, .ref mB, .ref mW, .ref mL, .int lS]))] H := hP
              have hD : va_D A [(m0, .inr (8, [.ref mH, .int aM, .long aC, .int mM, .long mQ, .int oV, .int pL, .int lI, .int sW, .int dP, .int sT, .long aT, .int cH, .int iW, .ref mI, .ref mJ, .ref mS, .ref mD, .int iH, .int aE, .int mN, .long sZ, .ref mX, .int tS, .int tA, .int tW, .ref mA, .ref mB, .ref mW, .ref mL, .int lS]))] := hD
              try dsimp only at wr_67
              subst wr_67
              refine lv_if_eq (tgt := 67) hx hb dX8_set_54 (by decide) (fun c_54_67 => ?_) (fun c_54_67 => ?_)
              · have t_54_67 := c_54_67
                try simp only [kb_eq0, kb_ne0, lg_cmp_lt, lg_cmp_le, lg_cmp_gt, lg_cmp_ge, lg_cmp_eq] at t_54_67
                try simp only [Int32.lt_iff_toInt_lt, Int32.le_iff_toInt_le, ← Int32.toInt_inj, Int64.lt_iff_toInt_lt, Int64.le_iff_toInt_le, ← Int64.toInt_inj, Int32.toInt_toInt64, Int32.reduceToInt, Int64.reduceToInt] at t_54_67
                omega
              · have t_54_67 := c_54_67
                try simp only [kb_eq0, kb_ne0, lg_cmp_lt, lg_cmp_le, lg_cmp_gt, lg_cmp_ge, lg_cmp_eq] at t_54_67
                try simp only [Int32.lt_iff_toInt_lt, Int32.le_iff_toInt_le, ← Int32.toInt_inj, Int64.lt_iff_toInt_lt, Int64.le_iff_toInt_le, ← Int64.toInt_inj, Int32.toInt_toInt64, Int32.reduceToInt, Int64.reduceToInt] at t_54_67
                refine lv_lload_n hx hb dX8_set_57 rfl (lv_at hl 3 rfl) ?_
                refine lv_lconst (v := 0) hx hb dX8_set_58 (by decide) ?_
                refine lv_lload hx hb dX8_set_59 (lv_at hl 0 rfl) ?_
                refine kCallI (wr := [(m0, .inr (8, [.ref mH, .int aM, .long aC, .int mM, .long mQ, .int oV, .int pL, .int lI, .int sW, .int dP, .int sT, .long aT, .int cH, .int iW, .ref mI, .ref mJ, .ref mS, .ref mD, .int iH, .int aE, .int mN, .long sZ, .ref mX, .int tS, .int tA, .int tW, .ref mA, .ref mB, .ref mW, .ref mL, .int lS]))]) (va_runS (As := [.long v, .long 0, .long 511]) (rest := []) ⟨hx, hb, hml, hown, hts⟩ (q_in l D cI cL cB cZ cT _ v 0 511) (va_cwS 3 hts gX8_set_X8_in rfl rfl rfl (by decide +kernel) ⟨Nat.le_of_ble_eq_true rfl, Nat.le_of_ble_eq_true rfl⟩) (kPreS hG hP hD [] rfl (by decide)) rfl rfl hl.1 rfl (lv_room (Nat.le_of_ble_eq_true rfl)) dX8_set_61 ⟨Nat.le_of_ble_eq_true rfl, Nat.le_of_ble_eq_true rfl⟩) hA hP hD hS [] [0] rfl rfl (by decide) (by decide) (fun r_69 u_r_69 H locs wr_69 hP hD hS => ?_)
                have hP : va_P D vwCl [(m0, .inr (8, [.ref mH, .int aM, .long aC, .int mM, .long mQ, .int oV, .int pL, .int lI, .int sW, .int dP, .int sT, .long aT, .int cH, .int iW, .ref mI, .ref mJ, .ref mS, .ref mD, .int iH, .int aE, .int mN, .long sZ, .ref mX, .int tS, .int tA, .int tW, .ref mA, .ref mB, .ref mW, .ref mL, .int lS]))] H := hP
                have hD : va_D A [(m0, .inr (8, [.ref mH, .int aM, .long aC, .int mM, .long mQ, .int oV, .int pL, .int lI, .int sW, .int dP, .int sT, .long aT, .int cH, .int iW, .ref mI, .ref mJ, .ref mS, .ref mD, .int iH, .int aE, .int mN, .long sZ, .ref mX, .int tS, .int tA, .int tW, .ref mA, .ref mB, .ref mW, .ref mL, .int lS]))] := hD
                try dsimp only at wr_69
                subst wr_69
                refine lv_if_ne (tgt := 69) hx hb dX8_set_64 (by decide) (fun c_64_69 => ?_) (fun c_64_69 => ?_)
                · have t_64_69 := c_64_69
                  try simp only [kb_eq0, kb_ne0, lg_cmp_lt, lg_cmp_le, lg_cmp_gt, lg_cmp_ge, lg_cmp_eq] at t_64_69
                  try simp only [Int32.lt_iff_toInt_lt, Int32.le_iff_toInt_le, ← Int32.toInt_inj, Int64.lt_iff_toInt_lt, Int64.le_iff_toInt_le, ← Int64.toInt_inj, Int32.toInt_toInt64, Int32.reduceToInt, Int64.reduceToInt] at t_64_69
                  refine lv_iload_n hx hb dX8_set_69 rfl (lv_at hl 2 rfl) ?_
                  refine lv_tableOut (tgt := 174) hx hb dX8_set_70 (by decide) (by decide) ?_
                  refine lv_aload_n hx hb dX8_set_174 rfl (lv_at hl 1 rfl) ?_
                  refine lv_lload_n hx hb dX8_set_175 rfl (lv_at hl 3 rfl) ?_
                  refine lv_l2i hx hb dX8_set_176 rfl ?_
                  refine va_put (D := D) (ci := 8) (v := .int v.toInt32) (ty := .int) (C := RX8) (T := TX8) (N := 31) hx hb hts iX8_set_X8 tyX8 tyX8_ok nmX8 hown hK hP hD hS 0 rfl rfl 6 (by decide) (hts (.fieldLink RX8 78 "TapeCalculatorModel" "place" "I") (List.mem_of_getElem? (i := 10) rfl)) (fun _ h9 => h9) rfl (by decide +kernel) rfl rfl (Nat.le_of_ble_eq_true rfl) dX8_set_177 (fun H locs hP hD hS => ?_)
                  have hP : va_P D vwCl [(m0, .inr (8, [.ref mH, .int aM, .long aC, .int mM, .long mQ, .int oV, .int v.toInt32, .int lI, .int sW, .int dP, .int sT, .long aT, .int cH, .int iW, .ref mI, .ref mJ, .ref mS, .ref mD, .int iH, .int aE, .int mN, .long sZ, .ref mX, .int tS, .int tA, .int tW, .ref mA, .ref mB, .ref mW, .ref mL, .int lS]))] H := hP
                  have hD : va_D A [(m0, .inr (8, [.ref mH, .int aM, .long aC, .int mM, .long mQ, .int oV, .int v.toInt32, .int lI, .int sW, .int dP, .int sT, .long aT, .int cH, .int iW, .ref mI, .ref mJ, .ref mS, .ref mD, .int iH, .int aE, .int mN, .long sZ, .ref mX, .int tS, .int tA, .int tW, .ref mA, .ref mB, .ref mW, .ref mL, .int lS]))] := hD
                  refine lv_iconst (v := 1) hx hb dX8_set_180 (by decide) ?_
                  refine kIret (u := (aM, aC, mM, mQ, oV, v.toInt32)) hx hb hr rfl hlocks hS dX8_set_181 ?_ (hP.sub [0] rfl) (hD.sub [0] (by decide) rfl)
                  have hm : (kMost 5).toInt = 511 := by decide
                  have hv5 := k_l2i (v := v) (by omega)
                  refine ⟨?_, ?_⟩
                  · first | exact (kif_t (by omega)).symm | exact (kif_f (by omega)).symm
                  · try dsimp only
                    repeat' (with_reducible apply And.intro)
                    all_goals first | with_reducible assumption | ((try simp only [jT_, jP_, jD_, jC_, jB_, jW_, Int32.reduceToInt, Int64.reduceToInt, true_or, or_true, true_and, and_true]) <;> omega)
                · have t_64_69 := c_64_69
                  try simp only [kb_eq0, kb_ne0, lg_cmp_lt, lg_cmp_le, lg_cmp_gt, lg_cmp_ge, lg_cmp_eq] at t_64_69
                  try simp only [Int32.lt_iff_toInt_lt, Int32.le_iff_toInt_le, ← Int32.toInt_inj, Int64.lt_iff_toInt_lt, Int64.le_iff_toInt_le, ← Int64.toInt_inj, Int32.toInt_toInt64, Int32.reduceToInt, Int64.reduceToInt] at t_64_69
                  refine lv_iconst (v := (-1)) hx hb dX8_set_67 (by decide) ?_
                  refine kIret (u := (aM, aC, mM, mQ, oV, pL)) hx hb hr rfl hlocks hS dX8_set_68 ?_ (hP.sub [0] rfl) (hD.sub [0] (by decide) rfl)
                  have hm : (kMost 5).toInt = 511 := by decide
                  refine ⟨?_, ?_⟩
                  · first | exact (kif_t (by omega)).symm | exact (kif_f (by omega)).symm
                  · try dsimp only
                    repeat' (with_reducible apply And.intro)
                    all_goals first | with_reducible assumption | ((try simp only [jT_, jP_, jD_, jC_, jB_, jW_, Int32.reduceToInt, Int64.reduceToInt, true_or, or_true, true_and, and_true]) <;> omega)
            · exact absurd c_31_64 (by decide)
          · exact absurd c_20_63 (by decide)
        · exact absurd c_11_62 (by decide)
theorem k_tr {sw : Int32} (h : 0 ≤ sw.toInt ∧ sw.toInt ≤ 15) : ∃ m : Nat, m < 16 ∧ sw = nI m := by
  obtain ⟨j, hj, rfl⟩ := nI_of (x := sw) (by rw [Int32.lt_iff_toInt_lt]; simp only [Int32.reduceToInt]; omega)
  rw [nI_toInt hj] at h
  exact ⟨j, by omega, rfl⟩
theorem k_trA {sw : Int32} (h : 0 ≤ sw.toInt ∧ sw.toInt ≤ 15) : ((sw >>> ((0 : Int32) &&& 31)) &&& 1) = kTrA sw 1 ∧ ((sw >>> ((1 : Int32) &&& 31)) &&& 1) = kTrA sw 2 ∧ ((sw >>> ((2 : Int32) &&& 31)) &&& 1) = kTrA sw 3 ∧ ((sw >>> ((3 : Int32) &&& 31)) &&& 1) = kTrA sw 4 := by
  obtain ⟨m, hm, rfl⟩ := k_tr h
  have d : ∀ m : Fin 16, ((nI m.val >>> ((0 : Int32) &&& 31)) &&& 1) = kTrA (nI m.val) 1 ∧ ((nI m.val >>> ((1 : Int32) &&& 31)) &&& 1) = kTrA (nI m.val) 2 ∧ ((nI m.val >>> ((2 : Int32) &&& 31)) &&& 1) = kTrA (nI m.val) 3 ∧ ((nI m.val >>> ((3 : Int32) &&& 31)) &&& 1) = kTrA (nI m.val) 4 := by unfold kTrA kif; decide +kernel
  exact d ⟨m, hm⟩
theorem k_trS {sw : Int32} (k z : Int32) (h : 0 ≤ sw.toInt ∧ sw.toInt ≤ 15) : 0 ≤ (kTrS sw k z).toInt ∧ (kTrS sw k z).toInt ≤ 15 := by
  obtain ⟨m, hm, rfl⟩ := k_tr h
  have d : ∀ m : Fin 16, ∀ b : Fin 5, (0 ≤ (nI m.val &&& (((1 : Int32) <<< ((nI b.val - 1) &&& 31)) ^^^ (-1))).toInt ∧ (nI m.val &&& (((1 : Int32) <<< ((nI b.val - 1) &&& 31)) ^^^ (-1))).toInt ≤ 15) ∧ (b.val = 0 ∨ (0 ≤ (nI m.val ||| ((1 : Int32) <<< ((nI b.val - 1) &&& 31))).toInt ∧ (nI m.val ||| ((1 : Int32) <<< ((nI b.val - 1) &&& 31))).toInt ≤ 15)) := by decide +kernel
  unfold kTrS
  by_cases hk : 1 ≤ k.toInt ∧ k.toInt ≤ 4
  · rw [kif_t hk]
    obtain ⟨b, hb, rfl⟩ : ∃ b : Nat, (1 ≤ b ∧ b ≤ 4) ∧ k = nI b := by
      rcases ksw_1_4 k with hq | rfl | rfl | rfl | rfl
      · omega
      · exact ⟨1, by omega, rfl⟩
      · exact ⟨2, by omega, rfl⟩
      · exact ⟨3, by omega, rfl⟩
      · exact ⟨4, by omega, rfl⟩
    have d2 := d ⟨m, hm⟩ ⟨b, by omega⟩
    by_cases hz : z = 0
    · rw [kif_t hz]; exact d2.1
    · rw [kif_f hz]; exact d2.2.resolve_left (by show ¬ b = 0; omega)
  · rw [kif_f hk]; exact h
set_option maxRecDepth 100000 in
theorem iX8_turn_X8 : ∀ w ∈ wsX80, w ∈ wsX8_turn := fun w h => (goodIn_r (big := wsX8_turn) wsX80 [7, 8, 9, 10, 11, 12, 13, 14, 15, 16, 17, 18, 19, 20, 21, 22, 23, 24, 25, 26, 27, 28, 29, 30, 31, 32, 33, 34, 35, 36, 37] rfl (by decide +kernel) w h).1
set_option maxRecDepth 100000 in
set_option maxHeartbeats 4000000 in
theorem q_turn (l : Launch) (D : va_G) (cI cL cB cZ cT : ClassId) (sz : Nat) (m0 mH mI mJ mS mD mX mA mB mW mL : Nat) (aM : Int32) (aC : Int64) (mM : Int32) (mQ : Int64) (oV pL lI sW dP sT : Int32) (aT : Int64) (cH iW iH aE mN : Int32) (sZ : Int64) (tS tA tW lS : Int32) (k z : Int32) (hsw : 0 ≤ sW.toInt ∧ sW.toInt ≤ 15) : kM (S := Unit) l yX8_turn wsX8_turn ({ frames := 1, cells := 0, slots := 0, locals := 25 }) D (kT cI cL cB cZ cT) [.ref m0, .int k, .int z] [(m0, .inr (8, [.ref mH, .int aM, .long aC, .int mM, .long mQ, .int oV, .int pL, .int lI, .int sW, .int dP, .int sT, .long aT, .int cH, .int iW, .ref mI, .ref mJ, .ref mS, .ref mD, .int iH, .int aE, .int mN, .long sZ, .ref mX, .int tS, .int tA, .int tW, .ref mA, .ref mB, .ref mW, .ref mL, .int lS]))] sz eI (fun r _ => r = (kTrA sW k)) (fun _ => [(m0, .inr (8, [.ref mH, .int aM, .long aC, .int mM, .long mQ, .int oV, .int pL, .int lI, .int (kTrS sW k z), .int dP, .int sT, .long aT, .int cH, .int iW, .ref mI, .ref mJ, .ref mS, .ref mD, .int iH, .int aE, .int mN, .long sZ, .ref mX, .int tS, .int tA, .int tW, .ref mA, .ref mB, .ref mW, .ref mL, .int lS]))]) 0 0 := by
  refine kStart (cc := cX8_turn) (maxL := 4) (ret := (some .int)) (own := RX8) (by decide) rfl rfl (Nat.le_of_ble_eq_true rfl) ?_
  intro p e s m args below meth c A ls hx hb hr hml hown hts hlocks hnm hsz hA hG hP hD hS hl
  have hK := hG.1
  have hl : lv_has ls 4 [(0, .ref m0), (1, .int k), (2, .int z)] := hl
  have hrg := hsw
  clear hsw
  rcases ksw_1_4 k with hsw | rfl | rfl | rfl | rfl
  · refine lv_iload_n hx hb dX8_turn_0 rfl (lv_at hl 1 rfl) ?_
    refine lv_i2l hx hb dX8_turn_1 rfl ?_
    refine lv_lconst (v := 1) hx hb dX8_turn_2 (by decide) ?_
    refine lv_ldc2 (v := 4) hx hb hown (hts (.constantLong RX8 96 (4)) (List.mem_of_getElem? (i := 1) rfl)) dX8_turn_3 ?_
    refine kCallI (wr := [(m0, .inr (8, [.ref mH, .int aM, .long aC, .int mM, .long mQ, .int oV, .int pL, .int lI, .int sW, .int dP, .int sT, .long aT, .int cH, .int iW, .ref mI, .ref mJ, .ref mS, .ref mD, .int iH, .int aE, .int mN, .long sZ, .ref mX, .int tS, .int tA, .int tW, .ref mA, .ref mB, .ref mW, .ref mL, .int lS]))]) (va_runS (As := [.long k.toInt64, .long 1, .long 4]) (rest := []) ⟨hx, hb, hml, hown, hts⟩ (q_in l D cI cL cB cZ cT _ (k.toInt64) 1 4) (va_cwS 3 hts gX8_turn_X8_in rfl rfl rfl (by decide +kernel) ⟨Nat.le_of_ble_eq_true rfl, Nat.le_of_ble_eq_true rfl⟩) (kPreS hG hP hD [] rfl (by decide)) rfl rfl hl.1 rfl (lv_room (Nat.le_of_ble_eq_true rfl)) dX8_turn_6 ⟨Nat.le_of_ble_eq_true rfl, Nat.le_of_ble_eq_true rfl⟩) hA hP hD hS [] [0] rfl rfl (by decide) (by decide) (fun r_1 u_r_1 H locs wr_1 hP hD hS => ?_)
    have hP : va_P D vwCl [(m0, .inr (8, [.ref mH, .int aM, .long aC, .int mM, .long mQ, .int oV, .int pL, .int lI, .int sW, .int dP, .int sT, .long aT, .int cH, .int iW, .ref mI, .ref mJ, .ref mS, .ref mD, .int iH, .int aE, .int mN, .long sZ, .ref mX, .int tS, .int tA, .int tW, .ref mA, .ref mB, .ref mW, .ref mL, .int lS]))] H := hP
    have hD : va_D A [(m0, .inr (8, [.ref mH, .int aM, .long aC, .int mM, .long mQ, .int oV, .int pL, .int lI, .int sW, .int dP, .int sT, .long aT, .int cH, .int iW, .ref mI, .ref mJ, .ref mS, .ref mD, .int iH, .int aE, .int mN, .long sZ, .ref mX, .int tS, .int tA, .int tW, .ref mA, .ref mB, .ref mW, .ref mL, .int lS]))] := hD
    try dsimp only at wr_1
    subst wr_1
    refine lv_if_ne (tgt := 14) hx hb dX8_turn_9 (by decide) (fun c_9_1 => ?_) (fun c_9_1 => ?_)
    · have t_9_1 := c_9_1
      try simp only [kb_eq0, kb_ne0, lg_cmp_lt, lg_cmp_le, lg_cmp_gt, lg_cmp_ge, lg_cmp_eq] at t_9_1
      try simp only [Int32.lt_iff_toInt_lt, Int32.le_iff_toInt_le, ← Int32.toInt_inj, Int64.lt_iff_toInt_lt, Int64.le_iff_toInt_le, ← Int64.toInt_inj, Int32.toInt_toInt64, Int32.reduceToInt, Int64.reduceToInt] at t_9_1
      omega
    · have t_9_1 := c_9_1
      try simp only [kb_eq0, kb_ne0, lg_cmp_lt, lg_cmp_le, lg_cmp_gt, lg_cmp_ge, lg_cmp_eq] at t_9_1
      try simp only [Int32.lt_iff_toInt_lt, Int32.le_iff_toInt_le, ← Int32.toInt_inj, Int64.lt_iff_toInt_lt, Int64.le_iff_toInt_le, ← Int64.toInt_inj, Int32.toInt_toInt64, Int32.reduceToInt, Int64.reduceToInt] at t_9_1
      refine lv_iconst (v := (-1)) hx hb dX8_turn_12 (by decide) ?_
      refine kIret (u := ()) hx hb hr rfl hlocks hS dX8_turn_13 ?_ (hP.sub [0] (by rw [show kTrS sW k z = sW from kif_f (by omega)]; rfl)) (hD.sub [0] (by decide) (by rw [show kTrS sW k z = sW from kif_f (by omega)]; rfl))
      unfold kTrA
      exact (kif_f (by omega)).symm
  · refine lv_iload_n hx hb dX8_turn_0 rfl (lv_at hl 1 rfl) ?_
    refine lv_i2l hx hb dX8_turn_1 rfl ?_
    refine lv_topl (fun x_3 ex_3 => ?_)
    obtain rfl : x_3 = 1 := ex_3.trans (by decide)
    refine lv_lconst (v := 1) hx hb dX8_turn_2 (by decide) ?_
    refine lv_ldc2 (v := 4) hx hb hown (hts (.constantLong RX8 96 (4)) (List.mem_of_getElem? (i := 1) rfl)) dX8_turn_3 ?_
    refine kCallI (wr := [(m0, .inr (8, [.ref mH, .int aM, .long aC, .int mM, .long mQ, .int oV, .int pL, .int lI, .int sW, .int dP, .int sT, .long aT, .int cH, .int iW, .ref mI, .ref mJ, .ref mS, .ref mD, .int iH, .int aE, .int mN, .long sZ, .ref mX, .int tS, .int tA, .int tW, .ref mA, .ref mB, .ref mW, .ref mL, .int lS]))]) (va_runS (As := [.long 1, .long 1, .long 4]) (rest := []) ⟨hx, hb, hml, hown, hts⟩ (q_in l D cI cL cB cZ cT _ 1 1 4) (va_cwS 3 hts gX8_turn_X8_in rfl rfl rfl (by decide +kernel) ⟨Nat.le_of_ble_eq_true rfl, Nat.le_of_ble_eq_true rfl⟩) (kPreS hG hP hD [] rfl (by decide)) rfl rfl hl.1 rfl (lv_room (Nat.le_of_ble_eq_true rfl)) dX8_turn_6 ⟨Nat.le_of_ble_eq_true rfl, Nat.le_of_ble_eq_true rfl⟩) hA hP hD hS [] [0] rfl rfl (by decide) (by decide) (fun r_4 u_r_4 H locs wr_4 hP hD hS => ?_)
    have hP : va_P D vwCl [(m0, .inr (8, [.ref mH, .int aM, .long aC, .int mM, .long mQ, .int oV, .int pL, .int lI, .int sW, .int dP, .int sT, .long aT, .int cH, .int iW, .ref mI, .ref mJ, .ref mS, .ref mD, .int iH, .int aE, .int mN, .long sZ, .ref mX, .int tS, .int tA, .int tW, .ref mA, .ref mB, .ref mW, .ref mL, .int lS]))] H := hP
    have hD : va_D A [(m0, .inr (8, [.ref mH, .int aM, .long aC, .int mM, .long mQ, .int oV, .int pL, .int lI, .int sW, .int dP, .int sT, .long aT, .int cH, .int iW, .ref mI, .ref mJ, .ref mS, .ref mD, .int iH, .int aE, .int mN, .long sZ, .ref mX, .int tS, .int tA, .int tW, .ref mA, .ref mB, .ref mW, .ref mL, .int lS]))] := hD
    try dsimp only at wr_4
    subst wr_4
    refine lv_if_ne (tgt := 14) hx hb dX8_turn_9 (by decide) (fun c_9_4 => ?_) (fun c_9_4 => ?_)
    · have t_9_4 := c_9_4
      try simp only [kb_eq0, kb_ne0, lg_cmp_lt, lg_cmp_le, lg_cmp_gt, lg_cmp_ge, lg_cmp_eq] at t_9_4
      try simp only [Int32.lt_iff_toInt_lt, Int32.le_iff_toInt_le, ← Int32.toInt_inj, Int64.lt_iff_toInt_lt, Int64.le_iff_toInt_le, ← Int64.toInt_inj, Int32.toInt_toInt64, Int32.reduceToInt, Int64.reduceToInt] at t_9_4
      refine lv_aload_n hx hb dX8_turn_14 rfl (lv_at hl 0 rfl) ?_
      refine va_get (D := D) (ci := 8) (v := .int sW) (C := RX8) (T := TX8) (N := 31) hx hb hts iX8_turn_X8 hown hK hP 0 rfl rfl 8 (by decide) (hts (.fieldLink RX8 98 "TapeCalculatorModel" "switches" "I") (List.mem_of_getElem? (i := 2) rfl)) (fun _ h9 => h9) rfl dX8_turn_15 ?_
      refine lv_iload_n hx hb dX8_turn_18 rfl (lv_at hl 1 rfl) ?_
      refine lv_iconst (v := 1) hx hb dX8_turn_19 (by decide) ?_
      refine lv_isub hx hb dX8_turn_20 ?_
      refine lv_topi (fun x_6 ex_6 => ?_)
      obtain rfl : x_6 = 0 := ex_6.trans (by decide)
      refine lv_ishr hx hb dX8_turn_21 ?_
      refine lv_iconst (v := 1) hx hb dX8_turn_22 (by decide) ?_
      refine lv_iand hx hb dX8_turn_23 ?_
      refine lv_topi (fun x_7 ex_7 => ?_)
      refine lv_istore_n (lv' := [(3, .int x_7), (0, .ref m0), (1, .int 1), (2, .int z)]) hx hb dX8_turn_24 rfl hl (by decide) rfl (fun ls hl => ?_)
      refine lv_aload_n hx hb dX8_turn_25 rfl (lv_at hl 1 rfl) ?_
      refine lv_iload_n hx hb dX8_turn_26 rfl (lv_at hl 3 rfl) ?_
      refine lv_if_eq (tgt := 43) hx hb dX8_turn_27 (by decide) (fun c_27_7 => ?_) (fun c_27_7 => ?_)
      · have t_27_7 := c_27_7
        try simp only [kb_eq0, kb_ne0, lg_cmp_lt, lg_cmp_le, lg_cmp_gt, lg_cmp_ge, lg_cmp_eq] at t_27_7
        try simp only [Int32.lt_iff_toInt_lt, Int32.le_iff_toInt_le, ← Int32.toInt_inj, Int64.lt_iff_toInt_lt, Int64.le_iff_toInt_le, ← Int64.toInt_inj, Int32.toInt_toInt64, Int32.reduceToInt, Int64.reduceToInt] at t_27_7
        refine lv_aload_n hx hb dX8_turn_43 rfl (lv_at hl 1 rfl) ?_
        refine va_get (D := D) (ci := 8) (v := .int sW) (C := RX8) (T := TX8) (N := 31) hx hb hts iX8_turn_X8 hown hK hP 0 rfl rfl 8 (by decide) (hts (.fieldLink RX8 98 "TapeCalculatorModel" "switches" "I") (List.mem_of_getElem? (i := 2) rfl)) (fun _ h9 => h9) rfl dX8_turn_44 ?_
        refine lv_iconst (v := 1) hx hb dX8_turn_47 (by decide) ?_
        refine lv_iload_n hx hb dX8_turn_48 rfl (lv_at hl 2 rfl) ?_
        refine lv_iconst (v := 1) hx hb dX8_turn_49 (by decide) ?_
        refine lv_isub hx hb dX8_turn_50 ?_
        refine lv_topi (fun x_9 ex_9 => ?_)
        obtain rfl : x_9 = 0 := ex_9.trans (by decide)
        refine lv_ishl hx hb dX8_turn_51 ?_
        refine lv_topi (fun x_10 ex_10 => ?_)
        obtain rfl : x_10 = 1 := ex_10.trans (by decide)
        refine lv_iconst (v := (-1)) hx hb dX8_turn_52 (by decide) ?_
        refine lv_ixor hx hb dX8_turn_53 ?_
        refine lv_topi (fun x_11 ex_11 => ?_)
        obtain rfl : x_11 = (-2) := ex_11.trans (by decide)
        refine lv_iand hx hb dX8_turn_54 ?_
        refine lv_topi (fun x_12 ex_12 => ?_)
        refine va_put (D := D) (ci := 8) (v := .int x_12) (ty := .int) (C := RX8) (T := TX8) (N := 31) hx hb hts iX8_turn_X8 tyX8 tyX8_ok nmX8 hown hK hP hD hS 0 rfl rfl 8 (by decide) (hts (.fieldLink RX8 98 "TapeCalculatorModel" "switches" "I") (List.mem_of_getElem? (i := 2) rfl)) (fun _ h9 => h9) rfl (by decide +kernel) rfl rfl (Nat.le_of_ble_eq_true rfl) dX8_turn_55 (fun H locs hP hD hS => ?_)
        have hP : va_P D vwCl [(m0, .inr (8, [.ref mH, .int aM, .long aC, .int mM, .long mQ, .int oV, .int pL, .int lI, .int x_12, .int dP, .int sT, .long aT, .int cH, .int iW, .ref mI, .ref mJ, .ref mS, .ref mD, .int iH, .int aE, .int mN, .long sZ, .ref mX, .int tS, .int tA, .int tW, .ref mA, .ref mB, .ref mW, .ref mL, .int lS]))] H := hP
        have hD : va_D A [(m0, .inr (8, [.ref mH, .int aM, .long aC, .int mM, .long mQ, .int oV, .int pL, .int lI, .int x_12, .int dP, .int sT, .long aT, .int cH, .int iW, .ref mI, .ref mJ, .ref mS, .ref mD, .int iH, .int aE, .int mN, .long sZ, .ref mX, .int tS, .int tA, .int tW, .ref mA, .ref mB, .ref mW, .ref mL, .int lS]))] := hD
        refine lv_iload_n hx hb dX8_turn_58 rfl (lv_at hl 0 rfl) ?_
        try subst ex_12
        try subst ex_7
        try subst ex_12
        try subst ex_7
        refine kIret (u := ()) hx hb hr rfl hlocks hS dX8_turn_59 ?_ (hP.sub [0] (by first | (rw [show kTrS sW 1 z = _ from (kif_t (by decide)).trans (kif_t (by assumption))]; rfl) | (rw [show kTrS sW 1 z = _ from (kif_t (by decide)).trans (kif_f (by assumption))]; rfl))) (hD.sub [0] (by decide) (by first | (rw [show kTrS sW 1 z = _ from (kif_t (by decide)).trans (kif_t (by assumption))]; rfl) | (rw [show kTrS sW 1 z = _ from (kif_t (by decide)).trans (kif_f (by assumption))]; rfl)))
        exact (k_trA hrg).1
      · have t_27_7 := c_27_7
        try simp only [kb_eq0, kb_ne0, lg_cmp_lt, lg_cmp_le, lg_cmp_gt, lg_cmp_ge, lg_cmp_eq] at t_27_7
        try simp only [Int32.lt_iff_toInt_lt, Int32.le_iff_toInt_le, ← Int32.toInt_inj, Int64.lt_iff_toInt_lt, Int64.le_iff_toInt_le, ← Int64.toInt_inj, Int32.toInt_toInt64, Int32.reduceToInt, Int64.reduceToInt] at t_27_7
        refine lv_aload_n hx hb dX8_turn_30 rfl (lv_at hl 1 rfl) ?_
        refine va_get (D := D) (ci := 8) (v := .int sW) (C := RX8) (T := TX8) (N := 31) hx hb hts iX8_turn_X8 hown hK hP 0 rfl rfl 8 (by decide) (hts (.fieldLink RX8 98 "TapeCalculatorModel" "switches" "I") (List.mem_of_getElem? (i := 2) rfl)) (fun _ h9 => h9) rfl dX8_turn_31 ?_
        refine lv_iconst (v := 1) hx hb dX8_turn_34 (by decide) ?_
        refine lv_iload_n hx hb dX8_turn_35 rfl (lv_at hl 2 rfl) ?_
        refine lv_iconst (v := 1) hx hb dX8_turn_36 (by decide) ?_
        refine lv_isub hx hb dX8_turn_37 ?_
        refine lv_topi (fun x_13 ex_13 => ?_)
        obtain rfl : x_13 = 0 := ex_13.trans (by decide)
        refine lv_ishl hx hb dX8_turn_38 ?_
        refine lv_topi (fun x_14 ex_14 => ?_)
        obtain rfl : x_14 = 1 := ex_14.trans (by decide)
        refine lv_ior hx hb dX8_turn_39 ?_
        refine lv_goto (tgt := 55) hx hb dX8_turn_40 (by decide) ?_
        refine lv_topi (fun x_15 ex_15 => ?_)
        refine va_put (D := D) (ci := 8) (v := .int x_15) (ty := .int) (C := RX8) (T := TX8) (N := 31) hx hb hts iX8_turn_X8 tyX8 tyX8_ok nmX8 hown hK hP hD hS 0 rfl rfl 8 (by decide) (hts (.fieldLink RX8 98 "TapeCalculatorModel" "switches" "I") (List.mem_of_getElem? (i := 2) rfl)) (fun _ h9 => h9) rfl (by decide +kernel) rfl rfl (Nat.le_of_ble_eq_true rfl) dX8_turn_55 (fun H locs hP hD hS => ?_)
        have hP : va_P D vwCl [(m0, .inr (8, [.ref mH, .int aM, .long aC, .int mM, .long mQ, .int oV, .int pL, .int lI, .int x_15, .int dP, .int sT, .long aT, .int cH, .int iW, .ref mI, .ref mJ, .ref mS, .ref mD, .int iH, .int aE, .int mN, .long sZ, .ref mX, .int tS, .int tA, .int tW, .ref mA, .ref mB, .ref mW, .ref mL, .int lS]))] H := hP
        have hD : va_D A [(m0, .inr (8, [.ref mH, .int aM, .long aC, .int mM, .long mQ, .int oV, .int pL, .int lI, .int x_15, .int dP, .int sT, .long aT, .int cH, .int iW, .ref mI, .ref mJ, .ref mS, .ref mD, .int iH, .int aE, .int mN, .long sZ, .ref mX, .int tS, .int tA, .int tW, .ref mA, .ref mB, .ref mW, .ref mL, .int lS]))] := hD
        refine lv_iload_n hx hb dX8_turn_58 rfl (lv_at hl 0 rfl) ?_
        try subst ex_15
        try subst ex_7
        try subst ex_15
        try subst ex_7
        refine kIret (u := ()) hx hb hr rfl hlocks hS dX8_turn_59 ?_ (hP.sub [0] (by first | (rw [show kTrS sW 1 z = _ from (kif_t (by decide)).trans (kif_t (by assumption))]; rfl) | (rw [show kTrS sW 1 z = _ from (kif_t (by decide)).trans (kif_f (by assumption))]; rfl))) (hD.sub [0] (by decide) (by first | (rw [show kTrS sW 1 z = _ from (kif_t (by decide)).trans (kif_t (by assumption))]; rfl) | (rw [show kTrS sW 1 z = _ from (kif_t (by decide)).trans (kif_f (by assumption))]; rfl)))
        exact (k_trA hrg).1
    · have t_9_4 := c_9_4
      try simp only [kb_eq0, kb_ne0, lg_cmp_lt, lg_cmp_le, lg_cmp_gt, lg_cmp_ge, lg_cmp_eq] at t_9_4
      try simp only [Int32.lt_iff_toInt_lt, Int32.le_iff_toInt_le, ← Int32.toInt_inj, Int64.lt_iff_toInt_lt, Int64.le_iff_toInt_le, ← Int64.toInt_inj, Int32.toInt_toInt64, Int32.reduceToInt, Int64.reduceToInt] at t_9_4
      omega
  · refine lv_iload_n hx hb dX8_turn_0 rfl (lv_at hl 1 rfl) ?_
    refine lv_i2l hx hb dX8_turn_1 rfl ?_
    refine lv_topl (fun x_16 ex_16 => ?_)
    obtain rfl : x_16 = 2 := ex_16.trans (by decide)
    refine lv_lconst (v := 1) hx hb dX8_turn_2 (by decide) ?_
    refine lv_ldc2 (v := 4) hx hb hown (hts (.constantLong RX8 96 (4)) (List.mem_of_getElem? (i := 1) rfl)) dX8_turn_3 ?_
    refine kCallI (wr := [(m0, .inr (8, [.ref mH, .int aM, .long aC, .int mM, .long mQ, .int oV, .int pL, .int lI, .int sW, .int dP, .int sT, .long aT, .int cH, .int iW, .ref mI, .ref mJ, .ref mS, .ref mD, .int iH, .int aE, .int mN, .long sZ, .ref mX, .int tS, .int tA, .int tW, .ref mA, .ref mB, .ref mW, .ref mL, .int lS]))]) (va_runS (As := [.long 2, .long 1, .long 4]) (rest := []) ⟨hx, hb, hml, hown, hts⟩ (q_in l D cI cL cB cZ cT _ 2 1 4) (va_cwS 3 hts gX8_turn_X8_in rfl rfl rfl (by decide +kernel) ⟨Nat.le_of_ble_eq_true rfl, Nat.le_of_ble_eq_true rfl⟩) (kPreS hG hP hD [] rfl (by decide)) rfl rfl hl.1 rfl (lv_room (Nat.le_of_ble_eq_true rfl)) dX8_turn_6 ⟨Nat.le_of_ble_eq_true rfl, Nat.le_of_ble_eq_true rfl⟩) hA hP hD hS [] [0] rfl rfl (by decide) (by decide) (fun r_17 u_r_17 H locs wr_17 hP hD hS => ?_)
    have hP : va_P D vwCl [(m0, .inr (8, [.ref mH, .int aM, .long aC, .int mM, .long mQ, .int oV, .int pL, .int lI, .int sW, .int dP, .int sT, .long aT, .int cH, .int iW, .ref mI, .ref mJ, .ref mS, .ref mD, .int iH, .int aE, .int mN, .long sZ, .ref mX, .int tS, .int tA, .int tW, .ref mA, .ref mB, .ref mW, .ref mL, .int lS]))] H := hP
    have hD : va_D A [(m0, .inr (8, [.ref mH, .int aM, .long aC, .int mM, .long mQ, .int oV, .int pL, .int lI, .int sW, .int dP, .int sT, .long aT, .int cH, .int iW, .ref mI, .ref mJ, .ref mS, .ref mD, .int iH, .int aE, .int mN, .long sZ, .ref mX, .int tS, .int tA, .int tW, .ref mA, .ref mB, .ref mW, .ref mL, .int lS]))] := hD
    try dsimp only at wr_17
    subst wr_17
    refine lv_if_ne (tgt := 14) hx hb dX8_turn_9 (by decide) (fun c_9_17 => ?_) (fun c_9_17 => ?_)
    · have t_9_17 := c_9_17
      try simp only [kb_eq0, kb_ne0, lg_cmp_lt, lg_cmp_le, lg_cmp_gt, lg_cmp_ge, lg_cmp_eq] at t_9_17
      try simp only [Int32.lt_iff_toInt_lt, Int32.le_iff_toInt_le, ← Int32.toInt_inj, Int64.lt_iff_toInt_lt, Int64.le_iff_toInt_le, ← Int64.toInt_inj, Int32.toInt_toInt64, Int32.reduceToInt, Int64.reduceToInt] at t_9_17
      refine lv_aload_n hx hb dX8_turn_14 rfl (lv_at hl 0 rfl) ?_
      refine va_get (D := D) (ci := 8) (v := .int sW) (C := RX8) (T := TX8) (N := 31) hx hb hts iX8_turn_X8 hown hK hP 0 rfl rfl 8 (by decide) (hts (.fieldLink RX8 98 "TapeCalculatorModel" "switches" "I") (List.mem_of_getElem? (i := 2) rfl)) (fun _ h9 => h9) rfl dX8_turn_15 ?_
      refine lv_iload_n hx hb dX8_turn_18 rfl (lv_at hl 1 rfl) ?_
      refine lv_iconst (v := 1) hx hb dX8_turn_19 (by decide) ?_
      refine lv_isub hx hb dX8_turn_20 ?_
      refine lv_topi (fun x_19 ex_19 => ?_)
      obtain rfl : x_19 = 1 := ex_19.trans (by decide)
      refine lv_ishr hx hb dX8_turn_21 ?_
      refine lv_iconst (v := 1) hx hb dX8_turn_22 (by decide) ?_
      refine lv_iand hx hb dX8_turn_23 ?_
      refine lv_topi (fun x_20 ex_20 => ?_)
      refine lv_istore_n (lv' := [(3, .int x_20), (0, .ref m0), (1, .int 2), (2, .int z)]) hx hb dX8_turn_24 rfl hl (by decide) rfl (fun ls hl => ?_)
      refine lv_aload_n hx hb dX8_turn_25 rfl (lv_at hl 1 rfl) ?_
      refine lv_iload_n hx hb dX8_turn_26 rfl (lv_at hl 3 rfl) ?_
      refine lv_if_eq (tgt := 43) hx hb dX8_turn_27 (by decide) (fun c_27_20 => ?_) (fun c_27_20 => ?_)
      · have t_27_20 := c_27_20
        try simp only [kb_eq0, kb_ne0, lg_cmp_lt, lg_cmp_le, lg_cmp_gt, lg_cmp_ge, lg_cmp_eq] at t_27_20
        try simp only [Int32.lt_iff_toInt_lt, Int32.le_iff_toInt_le, ← Int32.toInt_inj, Int64.lt_iff_toInt_lt, Int64.le_iff_toInt_le, ← Int64.toInt_inj, Int32.toInt_toInt64, Int32.reduceToInt, Int64.reduceToInt] at t_27_20
        refine lv_aload_n hx hb dX8_turn_43 rfl (lv_at hl 1 rfl) ?_
        refine va_get (D := D) (ci := 8) (v := .int sW) (C := RX8) (T := TX8) (N := 31) hx hb hts iX8_turn_X8 hown hK hP 0 rfl rfl 8 (by decide) (hts (.fieldLink RX8 98 "TapeCalculatorModel" "switches" "I") (List.mem_of_getElem? (i := 2) rfl)) (fun _ h9 => h9) rfl dX8_turn_44 ?_
        refine lv_iconst (v := 1) hx hb dX8_turn_47 (by decide) ?_
        refine lv_iload_n hx hb dX8_turn_48 rfl (lv_at hl 2 rfl) ?_
        refine lv_iconst (v := 1) hx hb dX8_turn_49 (by decide) ?_
        refine lv_isub hx hb dX8_turn_50 ?_
        refine lv_topi (fun x_22 ex_22 => ?_)
        obtain rfl : x_22 = 1 := ex_22.trans (by decide)
        refine lv_ishl hx hb dX8_turn_51 ?_
        refine lv_topi (fun x_23 ex_23 => ?_)
        obtain rfl : x_23 = 2 := ex_23.trans (by decide)
        refine lv_iconst (v := (-1)) hx hb dX8_turn_52 (by decide) ?_
        refine lv_ixor hx hb dX8_turn_53 ?_
        refine lv_topi (fun x_24 ex_24 => ?_)
        obtain rfl : x_24 = (-3) := ex_24.trans (by decide)
        refine lv_iand hx hb dX8_turn_54 ?_
        refine lv_topi (fun x_25 ex_25 => ?_)
        refine va_put (D := D) (ci := 8) (v := .int x_25) (ty := .int) (C := RX8) (T := TX8) (N := 31) hx hb hts iX8_turn_X8 tyX8 tyX8_ok nmX8 hown hK hP hD hS 0 rfl rfl 8 (by decide) (hts (.fieldLink RX8 98 "TapeCalculatorModel" "switches" "I") (List.mem_of_getElem? (i := 2) rfl)) (fun _ h9 => h9) rfl (by decide +kernel) rfl rfl (Nat.le_of_ble_eq_true rfl) dX8_turn_55 (fun H locs hP hD hS => ?_)
        have hP : va_P D vwCl [(m0, .inr (8, [.ref mH, .int aM, .long aC, .int mM, .long mQ, .int oV, .int pL, .int lI, .int x_25, .int dP, .int sT, .long aT, .int cH, .int iW, .ref mI, .ref mJ, .ref mS, .ref mD, .int iH, .int aE, .int mN, .long sZ, .ref mX, .int tS, .int tA, .int tW, .ref mA, .ref mB, .ref mW, .ref mL, .int lS]))] H := hP
        have hD : va_D A [(m0, .inr (8, [.ref mH, .int aM, .long aC, .int mM, .long mQ, .int oV, .int pL, .int lI, .int x_25, .int dP, .int sT, .long aT, .int cH, .int iW, .ref mI, .ref mJ, .ref mS, .ref mD, .int iH, .int aE, .int mN, .long sZ, .ref mX, .int tS, .int tA, .int tW, .ref mA, .ref mB, .ref mW, .ref mL, .int lS]))] := hD
        refine lv_iload_n hx hb dX8_turn_58 rfl (lv_at hl 0 rfl) ?_
        try subst ex_25
        try subst ex_20
        try subst ex_25
        try subst ex_20
        refine kIret (u := ()) hx hb hr rfl hlocks hS dX8_turn_59 ?_ (hP.sub [0] (by first | (rw [show kTrS sW 2 z = _ from (kif_t (by decide)).trans (kif_t (by assumption))]; rfl) | (rw [show kTrS sW 2 z = _ from (kif_t (by decide)).trans (kif_f (by assumption))]; rfl))) (hD.sub [0] (by decide) (by first | (rw [show kTrS sW 2 z = _ from (kif_t (by decide)).trans (kif_t (by assumption))]; rfl) | (rw [show kTrS sW 2 z = _ from (kif_t (by decide)).trans (kif_f (by assumption))]; rfl)))
        exact (k_trA hrg).2.1
      · have t_27_20 := c_27_20
        try simp only [kb_eq0, kb_ne0, lg_cmp_lt, lg_cmp_le, lg_cmp_gt, lg_cmp_ge, lg_cmp_eq] at t_27_20
        try simp only [Int32.lt_iff_toInt_lt, Int32.le_iff_toInt_le, ← Int32.toInt_inj, Int64.lt_iff_toInt_lt, Int64.le_iff_toInt_le, ← Int64.toInt_inj, Int32.toInt_toInt64, Int32.reduceToInt, Int64.reduceToInt] at t_27_20
        refine lv_aload_n hx hb dX8_turn_30 rfl (lv_at hl 1 rfl) ?_
        refine va_get (D := D) (ci := 8) (v := .int sW) (C := RX8) (T := TX8) (N := 31) hx hb hts iX8_turn_X8 hown hK hP 0 rfl rfl 8 (by decide) (hts (.fieldLink RX8 98 "TapeCalculatorModel" "switches" "I") (List.mem_of_getElem? (i := 2) rfl)) (fun _ h9 => h9) rfl dX8_turn_31 ?_
        refine lv_iconst (v := 1) hx hb dX8_turn_34 (by decide) ?_
        refine lv_iload_n hx hb dX8_turn_35 rfl (lv_at hl 2 rfl) ?_
        refine lv_iconst (v := 1) hx hb dX8_turn_36 (by decide) ?_
        refine lv_isub hx hb dX8_turn_37 ?_
        refine lv_topi (fun x_26 ex_26 => ?_)
        obtain rfl : x_26 = 1 := ex_26.trans (by decide)
        refine lv_ishl hx hb dX8_turn_38 ?_
        refine lv_topi (fun x_27 ex_27 => ?_)
        obtain rfl : x_27 = 2 := ex_27.trans (by decide)
        refine lv_ior hx hb dX8_turn_39 ?_
        refine lv_goto (tgt := 55) hx hb dX8_turn_40 (by decide) ?_
        refine lv_topi (fun x_28 ex_28 => ?_)
        refine va_put (D := D) (ci := 8) (v := .int x_28) (ty := .int) (C := RX8) (T := TX8) (N := 31) hx hb hts iX8_turn_X8 tyX8 tyX8_ok nmX8 hown hK hP hD hS 0 rfl rfl 8 (by decide) (hts (.fieldLink RX8 98 "TapeCalculatorModel" "switches" "I") (List.mem_of_getElem? (i := 2) rfl)) (fun _ h9 => h9) rfl (by decide +kernel) rfl rfl (Nat.le_of_ble_eq_true rfl) dX8_turn_55 (fun H locs hP hD hS => ?_)
        have hP : va_P D vwCl [(m0, .inr (8, [.ref mH, .int aM, .long aC, .int mM, .long mQ, .int oV, .int pL, .int lI, .int x_28, .int dP, .int sT, .long aT, .int cH, .int iW, .ref mI, .ref mJ, .ref mS, .ref mD, .int iH, .int aE, .int mN, .long sZ, .ref mX, .int tS, .int tA, .int tW, .ref mA, .ref mB, .ref mW, .ref mL, .int lS]))] H := hP
        have hD : va_D A [(m0, .inr (8, [.ref mH, .int aM, .long aC, .int mM, .long mQ, .int oV, .int pL, .int lI, .int x_28, .int dP, .int sT, .long aT, .int cH, .int iW, .ref mI, .ref mJ, .ref mS, .ref mD, .int iH, .int aE, .int mN, .long sZ, .ref mX, .int tS, .int tA, .int tW, .ref mA, .ref mB, .ref mW, .ref mL, .int lS]))] := hD
        refine lv_iload_n hx hb dX8_turn_58 rfl (lv_at hl 0 rfl) ?_
        try subst ex_28
        try subst ex_20
        try subst ex_28
        try subst ex_20
        refine kIret (u := ()) hx hb hr rfl hlocks hS dX8_turn_59 ?_ (hP.sub [0] (by first | (rw [show kTrS sW 2 z = _ from (kif_t (by decide)).trans (kif_t (by assumption))]; rfl) | (rw [show kTrS sW 2 z = _ from (kif_t (by decide)).trans (kif_f (by assumption))]; rfl))) (hD.sub [0] (by decide) (by first | (rw [show kTrS sW 2 z = _ from (kif_t (by decide)).trans (kif_t (by assumption))]; rfl) | (rw [show kTrS sW 2 z = _ from (kif_t (by decide)).trans (kif_f (by assumption))]; rfl)))
        exact (k_trA hrg).2.1
    · have t_9_17 := c_9_17
      try simp only [kb_eq0, kb_ne0, lg_cmp_lt, lg_cmp_le, lg_cmp_gt, lg_cmp_ge, lg_cmp_eq] at t_9_17
      try simp only [Int32.lt_iff_toInt_lt, Int32.le_iff_toInt_le, ← Int32.toInt_inj, Int64.lt_iff_toInt_lt, Int64.le_iff_toInt_le, ← Int64.toInt_inj, Int32.toInt_toInt64, Int32.reduceToInt, Int64.reduceToInt] at t_9_17
      omega
  · refine lv_iload_n hx hb dX8_turn_0 rfl (lv_at hl 1 rfl) ?_
    refine lv_i2l hx hb dX8_turn_1 rfl ?_
    refine lv_topl (fun x_29 ex_29 => ?_)
    obtain rfl : x_29 = 3 := ex_29.trans (by decide)
    refine lv_lconst (v := 1) hx hb dX8_turn_2 (by decide) ?_
    refine lv_ldc2 (v := 4) hx hb hown (hts (.constantLong RX8 96 (4)) (List.mem_of_getElem? (i := 1) rfl)) dX8_turn_3 ?_
    refine kCallI (wr := [(m0, .inr (8, [.ref mH, .int aM, .long aC, .int mM, .long mQ, .int oV, .int pL, .int lI, .int sW, .int dP, .int sT, .long aT, .int cH, .int iW, .ref mI, .ref mJ, .ref mS, .ref mD, .int iH, .int aE, .int mN, .long sZ, .ref mX, .int tS, .int tA, .int tW, .ref mA, .ref mB, .ref mW, .ref mL, .int lS]))]) (va_runS (As := [.long 3, .long 1, .long 4]) (rest := []) ⟨hx, hb, hml, hown, hts⟩ (q_in l D cI cL cB cZ cT _ 3 1 4) (va_cwS 3 hts gX8_turn_X8_in rfl rfl rfl (by decide +kernel) ⟨Nat.le_of_ble_eq_true rfl, Nat.le_of_ble_eq_true rfl⟩) (kPreS hG hP hD [] rfl (by decide)) rfl rfl hl.1 rfl (lv_room (Nat.le_of_ble_eq_true rfl)) dX8_turn_6 ⟨Nat.le_of_ble_eq_true rfl, Nat.le_of_ble_eq_true rfl⟩) hA hP hD hS [] [0] rfl rfl (by decide) (by decide) (fun r_30 u_r_30 H locs wr_30 hP hD hS => ?_)
    have hP : va_P D vwCl [(m0, .inr (8, [.ref mH, .int aM, .long aC, .int mM, .long mQ, .int oV, .int pL, .int lI, .int sW, .int dP, .int sT, .long aT, .int cH, .int iW, .ref mI, .ref mJ, .ref mS, .ref mD, .int iH, .int aE, .int mN, .long sZ, .ref mX, .int tS, .int tA, .int tW, .ref mA, .ref mB, .ref mW, .ref mL, .int lS]))] H := hP
    have hD : va_D A [(m0, .inr (8, [.ref mH, .int aM, .long aC, .int mM, .long mQ, .int oV, .int pL, .int lI, .int sW, .int dP, .int sT, .long aT, .int cH, .int iW, .ref mI, .ref mJ, .ref mS, .ref mD, .int iH, .int aE, .int mN, .long sZ, .ref mX, .int tS, .int tA, .int tW, .ref mA, .ref mB, .ref mW, .ref mL, .int lS]))] := hD
    try dsimp only at wr_30
    subst wr_30
    refine lv_if_ne (tgt := 14) hx hb dX8_turn_9 (by decide) (fun c_9_30 => ?_) (fun c_9_30 => ?_)
    · have t_9_30 := c_9_30
      try simp only [kb_eq0, kb_ne0, lg_cmp_lt, lg_cmp_le, lg_cmp_gt, lg_cmp_ge, lg_cmp_eq] at t_9_30
      try simp only [Int32.lt_iff_toInt_lt, Int32.le_iff_toInt_le, ← Int32.toInt_inj, Int64.lt_iff_toInt_lt, Int64.le_iff_toInt_le, ← Int64.toInt_inj, Int32.toInt_toInt64, Int32.reduceToInt, Int64.reduceToInt] at t_9_30
      refine lv_aload_n hx hb dX8_turn_14 rfl (lv_at hl 0 rfl) ?_
      refine va_get (D := D) (ci := 8) (v := .int sW) (C := RX8) (T := TX8) (N := 31) hx hb hts iX8_turn_X8 hown hK hP 0 rfl rfl 8 (by decide) (hts (.fieldLink RX8 98 "TapeCalculatorModel" "switches" "I") (List.mem_of_getElem? (i := 2) rfl)) (fun _ h9 => h9) rfl dX8_turn_15 ?_
      refine lv_iload_n hx hb dX8_turn_18 rfl (lv_at hl 1 rfl) ?_
      refine lv_iconst (v := 1) hx hb dX8_turn_19 (by decide) ?_
      refine lv_isub hx hb dX8_turn_20 ?_
      refine lv_topi (fun x_32 ex_32 => ?_)
      obtain rfl : x_32 = 2 := ex_32.trans (by decide)
      refine lv_ishr hx hb dX8_turn_21 ?_
      refine lv_iconst (v := 1) hx hb dX8_turn_22 (by decide) ?_
      refine lv_iand hx hb dX8_turn_23 ?_
      refine lv_topi (fun x_33 ex_33 => ?_)
      refine lv_istore_n (lv' := [(3, .int x_33), (0, .ref m0), (1, .int 3), (2, .int z)]) hx hb dX8_turn_24 rfl hl (by decide) rfl (fun ls hl => ?_)
      refine lv_aload_n hx hb dX8_turn_25 rfl (lv_at hl 1 rfl) ?_
      refine lv_iload_n hx hb dX8_turn_26 rfl (lv_at hl 3 rfl) ?_
      refine lv_if_eq (tgt := 43) hx hb dX8_turn_27 (by decide) (fun c_27_33 => ?_) (fun c_27_33 => ?_)
      · have t_27_33 := c_27_33
        try simp only [kb_eq0, kb_ne0, lg_cmp_lt, lg_cmp_le, lg_cmp_gt, lg_cmp_ge, lg_cmp_eq] at t_27_33
        try simp only [Int32.lt_iff_toInt_lt, Int32.le_iff_toInt_le, ← Int32.toInt_inj, Int64.lt_iff_toInt_lt, Int64.le_iff_toInt_le, ← Int64.toInt_inj, Int32.toInt_toInt64, Int32.reduceToInt, Int64.reduceToInt] at t_27_33
        refine lv_aload_n hx hb dX8_turn_43 rfl (lv_at hl 1 rfl) ?_
        refine va_get (D := D) (ci := 8) (v := .int sW) (C := RX8) (T := TX8) (N := 31) hx hb hts iX8_turn_X8 hown hK hP 0 rfl rfl 8 (by decide) (hts (.fieldLink RX8 98 "TapeCalculatorModel" "switches" "I") (List.mem_of_getElem? (i := 2) rfl)) (fun _ h9 => h9) rfl dX8_turn_44 ?_
        refine lv_iconst (v := 1) hx hb dX8_turn_47 (by decide) ?_
        refine lv_iload_n hx hb dX8_turn_48 rfl (lv_at hl 2 rfl) ?_
        refine lv_iconst (v := 1) hx hb dX8_turn_49 (by decide) ?_
        refine lv_isub hx hb dX8_turn_50 ?_
        refine lv_topi (fun x_35 ex_35 => ?_)
        obtain rfl : x_35 = 2 := ex_35.trans (by decide)
        refine lv_ishl hx hb dX8_turn_51 ?_
        refine lv_topi (fun x_36 ex_36 => ?_)
        obtain rfl : x_36 = 4 := ex_36.trans (by decide)
        refine lv_iconst (v := (-1)) hx hb dX8_turn_52 (by decide) ?_
        refine lv_ixor hx hb dX8_turn_53 ?_
        refine lv_topi (fun x_37 ex_37 => ?_)
        obtain rfl : x_37 = (-5) := ex_37.trans (by decide)
        refine lv_iand hx hb dX8_turn_54 ?_
        refine lv_topi (fun x_38 ex_38 => ?_)
        refine va_put (D := D) (ci := 8) (v := .int x_38) (ty := .int) (C := RX8) (T := TX8) (N := 31) hx hb hts iX8_turn_X8 tyX8 tyX8_ok nmX8 hown hK hP hD hS 0 rfl rfl 8 (by decide) (hts (.fieldLink RX8 98 "TapeCalculatorModel" "switches" "I") (List.mem_of_getElem? (i := 2) rfl)) (fun _ h9 => h9) rfl (by decide +kernel) rfl rfl (Nat.le_of_ble_eq_true rfl) dX8_turn_55 (fun H locs hP hD hS => ?_)
        have hP : va_P D vwCl [(m0, .inr (8, [.ref mH, .int aM, .long aC, .int mM, .long mQ, .int oV, .int pL, .int lI, .int x_38, .int dP, .int sT, .long aT, .int cH, .int iW, .ref mI, .ref mJ, .ref mS, .ref mD, .int iH, .int aE, .int mN, .long sZ, .ref mX, .int tS, .int tA, .int tW, .ref mA, .ref mB, .ref mW, .ref mL, .int lS]))] H := hP
        have hD : va_D A [(m0, .inr (8, [.ref mH, .int aM, .long aC, .int mM, .long mQ, .int oV, .int pL, .int lI, .int x_38, .int dP, .int sT, .long aT, .int cH, .int iW, .ref mI, .ref mJ, .ref mS, .ref mD, .int iH, .int aE, .int mN, .long sZ, .ref mX, .int tS, .int tA, .int tW, .ref mA, .ref mB, .ref mW, .ref mL, .int lS]))] := hD
        refine lv_iload_n hx hb dX8_turn_58 rfl (lv_at hl 0 rfl) ?_
        try subst ex_38
        try subst ex_33
        try subst ex_38
        try subst ex_33
        refine kIret (u := ()) hx hb hr rfl hlocks hS dX8_turn_59 ?_ (hP.sub [0] (by first | (rw [show kTrS sW 3 z = _ from (kif_t (by decide)).trans (kif_t (by assumption))]; rfl) | (rw [show kTrS sW 3 z = _ from (kif_t (by decide)).trans (kif_f (by assumption))]; rfl))) (hD.sub [0] (by decide) (by first | (rw [show kTrS sW 3 z = _ from (kif_t (by decide)).trans (kif_t (by assumption))]; rfl) | (rw [show kTrS sW 3 z = _ from (kif_t (by decide)).trans (kif_f (by assumption))]; rfl)))
        exact (k_trA hrg).2.2.1
      · have t_27_33 := c_27_33
        try simp only [kb_eq0, kb_ne0, lg_cmp_lt, lg_cmp_le, lg_cmp_gt, lg_cmp_ge, lg_cmp_eq] at t_27_33
        try simp only [Int32.lt_iff_toInt_lt, Int32.le_iff_toInt_le, ← Int32.toInt_inj, Int64.lt_iff_toInt_lt, Int64.le_iff_toInt_le, ← Int64.toInt_inj, Int32.toInt_toInt64, Int32.reduceToInt, Int64.reduceToInt] at t_27_33
        refine lv_aload_n hx hb dX8_turn_30 rfl (lv_at hl 1 rfl) ?_
        refine va_get (D := D) (ci := 8) (v := .int sW) (C := RX8) (T := TX8) (N := 31) hx hb hts iX8_turn_X8 hown hK hP 0 rfl rfl 8 (by decide) (hts (.fieldLink RX8 98 "TapeCalculatorModel" "switches" "I") (List.mem_of_getElem? (i := 2) rfl)) (fun _ h9 => h9) rfl dX8_turn_31 ?_
        refine lv_iconst (v := 1) hx hb dX8_turn_34 (by decide) ?_
        refine lv_iload_n hx hb dX8_turn_35 rfl (lv_at hl 2 rfl) ?_
        refine lv_iconst (v := 1) hx hb dX8_turn_36 (by decide) ?_
        refine lv_isub hx hb dX8_turn_37 ?_
        refine lv_topi (fun x_39 ex_39 => ?_)
        obtain rfl : x_39 = 2 := ex_39.trans (by decide)
        refine lv_ishl hx hb dX8_turn_38 ?_
        refine lv_topi (fun x_40 ex_40 => ?_)
        obtain rfl : x_40 = 4 := ex_40.trans (by decide)
        refine lv_ior hx hb dX8_turn_39 ?_
        refine lv_goto (tgt := 55) hx hb dX8_turn_40 (by decide) ?_
        refine lv_topi (fun x_41 ex_41 => ?_)
        refine va_put (D := D) (ci := 8) (v := .int x_41) (ty := .int) (C := RX8) (T := TX8) (N := 31) hx hb hts iX8_turn_X8 tyX8 tyX8_ok nmX8 hown hK hP hD hS 0 rfl rfl 8 (by decide) (hts (.fieldLink RX8 98 "TapeCalculatorModel" "switches" "I") (List.mem_of_getElem? (i := 2) rfl)) (fun _ h9 => h9) rfl (by decide +kernel) rfl rfl (Nat.le_of_ble_eq_true rfl) dX8_turn_55 (fun H locs hP hD hS => ?_)
        have hP : va_P D vwCl [(m0, .inr (8, [.ref mH, .int aM, .long aC, .int mM, .long mQ, .int oV, .int pL, .int lI, .int x_41, .int dP, .int sT, .long aT, .int cH, .int iW, .ref mI, .ref mJ, .ref mS, .ref mD, .int iH, .int aE, .int mN, .long sZ, .ref mX, .int tS, .int tA, .int tW, .ref mA, .ref mB, .ref mW, .ref mL, .int lS]))] H := hP
        have hD : va_D A [(m0, .inr (8, [.ref mH, .int aM, .long aC, .int mM, .long mQ, .int oV, .int pL, .int lI, .int x_41, .int dP, .int sT, .long aT, .int cH, .int iW, .ref mI, .ref mJ, .ref mS, .ref mD, .int iH, .int aE, .int mN, .long sZ, .ref mX, .int tS, .int tA, .int tW, .ref mA, .ref mB, .ref mW, .ref mL, .int lS]))] := hD
        refine lv_iload_n hx hb dX8_turn_58 rfl (lv_at hl 0 rfl) ?_
        try subst ex_41
        try subst ex_33
        try subst ex_41
        try subst ex_33
        refine kIret (u := ()) hx hb hr rfl hlocks hS dX8_turn_59 ?_ (hP.sub [0] (by first | (rw [show kTrS sW 3 z = _ from (kif_t (by decide)).trans (kif_t (by assumption))]; rfl) | (rw [show kTrS sW 3 z = _ from (kif_t (by decide)).trans (kif_f (by assumption))]; rfl))) (hD.sub [0] (by decide) (by first | (rw [show kTrS sW 3 z = _ from (kif_t (by decide)).trans (kif_t (by assumption))]; rfl) | (rw [show kTrS sW 3 z = _ from (kif_t (by decide)).trans (kif_f (by assumption))]; rfl)))
        exact (k_trA hrg).2.2.1
    · have t_9_30 := c_9_30
      try simp only [kb_eq0, kb_ne0, lg_cmp_lt, lg_cmp_le, lg_cmp_gt, lg_cmp_ge, lg_cmp_eq] at t_9_30
      try simp only [Int32.lt_iff_toInt_lt, Int32.le_iff_toInt_le, ← Int32.toInt_inj, Int64.lt_iff_toInt_lt, Int64.le_iff_toInt_le, ← Int64.toInt_inj, Int32.toInt_toInt64, Int32.reduceToInt, Int64.reduceToInt] at t_9_30
      omega
  · refine lv_iload_n hx hb dX8_turn_0 rfl (lv_at hl 1 rfl) ?_
    refine lv_i2l hx hb dX8_turn_1 rfl ?_
    refine lv_topl (fun x_42 ex_42 => ?_)
    obtain rfl : x_42 = 4 := ex_42.trans (by decide)
    refine lv_lconst (v := 1) hx hb dX8_turn_2 (by decide) ?_
    refine lv_ldc2 (v := 4) hx hb hown (hts (.constantLong RX8 96 (4)) (List.mem_of_getElem? (i := 1) rfl)) dX8_turn_3 ?_
    refine kCallI (wr := [(m0, .inr (8, [.ref mH, .int aM, .long aC, .int mM, .long mQ, .int oV, .int pL, .int lI, .int sW, .int dP, .int sT, .long aT, .int cH, .int iW, .ref mI, .ref mJ, .ref mS, .ref mD, .int iH, .int aE, .int mN, .long sZ, .ref mX, .int tS, .int tA, .int tW, .ref mA, .ref mB, .ref mW, .ref mL, .int lS]))]) (va_runS (As := [.long 4, .long 1, .long 4]) (rest := []) ⟨hx, hb, hml, hown, hts⟩ (q_in l D cI cL cB cZ cT _ 4 1 4) (va_cwS 3 hts gX8_turn_X8_in rfl rfl rfl (by decide +kernel) ⟨Nat.le_of_ble_eq_true rfl, Nat.le_of_ble_eq_true rfl⟩) (kPreS hG hP hD [] rfl (by decide)) rfl rfl hl.1 rfl (lv_room (Nat.le_of_ble_eq_true rfl)) dX8_turn_6 ⟨Nat.le_of_ble_eq_true rfl, Nat.le_of_ble_eq_true rfl⟩) hA hP hD hS [] [0] rfl rfl (by decide) (by decide) (fun r_43 u_r_43 H locs wr_43 hP hD hS => ?_)
    have hP : va_P D vwCl [(m0, .inr (8, [.ref mH, .int aM, .long aC, .int mM, .long mQ, .int oV, .int pL, .int lI, .int sW, .int dP, .int sT, .long aT, .int cH, .int iW, .ref mI, .ref mJ, .ref mS, .ref mD, .int iH, .int aE, .int mN, .long sZ, .ref mX, .int tS, .int tA, .int tW, .ref mA, .ref mB, .ref mW, .ref mL, .int lS]))] H := hP
    have hD : va_D A [(m0, .inr (8, [.ref mH, .int aM, .long aC, .int mM, .long mQ, .int oV, .int pL, .int lI, .int sW, .int dP, .int sT, .long aT, .int cH, .int iW, .ref mI, .ref mJ, .ref mS, .ref mD, .int iH, .int aE, .int mN, .long sZ, .ref mX, .int tS, .int tA, .int tW, .ref mA, .ref mB, .ref mW, .ref mL, .int lS]))] := hD
    try dsimp only at wr_43
    subst wr_43
    refine lv_if_ne (tgt := 14) hx hb dX8_turn_9 (by decide) (fun c_9_43 => ?_) (fun c_9_43 => ?_)
    · have t_9_43 := c_9_43
      try simp only [kb_eq0, kb_ne0, lg_cmp_lt, lg_cmp_le, lg_cmp_gt, lg_cmp_ge, lg_cmp_eq] at t_9_43
      try simp only [Int32.lt_iff_toInt_lt, Int32.le_iff_toInt_le, ← Int32.toInt_inj, Int64.lt_iff_toInt_lt, Int64.le_iff_toInt_le, ← Int64.toInt_inj, Int32.toInt_toInt64, Int32.reduceToInt, Int64.reduceToInt] at t_9_43
      refine lv_aload_n hx hb dX8_turn_14 rfl (lv_at hl 0 rfl) ?_
      refine va_get (D := D) (ci := 8) (v := .int sW) (C := RX8) (T := TX8) (N := 31) hx hb hts iX8_turn_X8 hown hK hP 0 rfl rfl 8 (by decide) (hts (.fieldLink RX8 98 "TapeCalculatorModel" "switches" "I") (List.mem_of_getElem? (i := 2) rfl)) (fun _ h9 => h9) rfl dX8_turn_15 ?_
      refine lv_iload_n hx hb dX8_turn_18 rfl (lv_at hl 1 rfl) ?_
      refine lv_iconst (v := 1) hx hb dX8_turn_19 (by decide) ?_
      refine lv_isub hx hb dX8_turn_20 ?_
      refine lv_topi (fun x_45 ex_45 => ?_)
      obtain rfl : x_45 = 3 := ex_45.trans (by decide)
      refine lv_ishr hx hb dX8_turn_21 ?_
      refine lv_iconst (v := 1) hx hb dX8_turn_22 (by decide) ?_
      refine lv_iand hx hb dX8_turn_23 ?_
      refine lv_topi (fun x_46 ex_46 => ?_)
      refine lv_istore_n (lv' := [(3, .int x_46), (0, .ref m0), (1, .int 4), (2, .int z)]) hx hb dX8_turn_24 rfl hl (by decide) rfl (fun ls hl => ?_)
      refine lv_aload_n hx hb dX8_turn_25 rfl (lv_at hl 1 rfl) ?_
      refine lv_iload_n hx hb dX8_turn_26 rfl (lv_at hl 3 rfl) ?_
      refine lv_if_eq (tgt := 43) hx hb dX8_turn_27 (by decide) (fun c_27_46 => ?_) (fun c_27_46 => ?_)
      · have t_27_46 := c_27_46
        try simp only [kb_eq0, kb_ne0, lg_cmp_lt, lg_cmp_le, lg_cmp_gt, lg_cmp_ge, lg_cmp_eq] at t_27_46
        try simp only [Int32.lt_iff_toInt_lt, Int32.le_iff_toInt_le, ← Int32.toInt_inj, Int64.lt_iff_toInt_lt, Int64.le_iff_toInt_le, ← Int64.toInt_inj, Int32.toInt_toInt64, Int32.reduceToInt, Int64.reduceToInt] at t_27_46
        refine lv_aload_n hx hb dX8_turn_43 rfl (lv_at hl 1 rfl) ?_
        refine va_get (D := D) (ci := 8) (v := .int sW) (C := RX8) (T := TX8) (N := 31) hx hb hts iX8_turn_X8 hown hK hP 0 rfl rfl 8 (by decide) (hts (.fieldLink RX8 98 "TapeCalculatorModel" "switches" "I") (List.mem_of_getElem? (i := 2) rfl)) (fun _ h9 => h9) rfl dX8_turn_44 ?_
        refine lv_iconst (v := 1) hx hb dX8_turn_47 (by decide) ?_
        refine lv_iload_n hx hb dX8_turn_48 rfl (lv_at hl 2 rfl) ?_
        refine lv_iconst (v := 1) hx hb dX8_turn_49 (by decide) ?_
        refine lv_isub hx hb dX8_turn_50 ?_
        refine lv_topi (fun x_48 ex_48 => ?_)
        obtain rfl : x_48 = 3 := ex_48.trans (by decide)
        refine lv_ishl hx hb dX8_turn_51 ?_
        refine lv_topi (fun x_49 ex_49 => ?_)
        obtain rfl : x_49 = 8 := ex_49.trans (by decide)
        refine lv_iconst (v := (-1)) hx hb dX8_turn_52 (by decide) ?_
        refine lv_ixor hx hb dX8_turn_53 ?_
        refine lv_topi (fun x_50 ex_50 => ?_)
        obtain rfl : x_50 = (-9) := ex_50.trans (by decide)
        refine lv_iand hx hb dX8_turn_54 ?_
        refine lv_topi (fun x_51 ex_51 => ?_)
        refine va_put (D := D) (ci := 8) (v := .int x_51) (ty := .int) (C := RX8) (T := TX8) (N := 31) hx hb hts iX8_turn_X8 tyX8 tyX8_ok nmX8 hown hK hP hD hS 0 rfl rfl 8 (by decide) (hts (.fieldLink RX8 98 "TapeCalculatorModel" "switches" "I") (List.mem_of_getElem? (i := 2) rfl)) (fun _ h9 => h9) rfl (by decide +kernel) rfl rfl (Nat.le_of_ble_eq_true rfl) dX8_turn_55 (fun H locs hP hD hS => ?_)
        have hP : va_P D vwCl [(m0, .inr (8, [.ref mH, .int aM, .long aC, .int mM, .long mQ, .int oV, .int pL, .int lI, .int x_51, .int dP, .int sT, .long aT, .int cH, .int iW, .ref mI, .ref mJ, .ref mS, .ref mD, .int iH, .int aE, .int mN, .long sZ, .ref mX, .int tS, .int tA, .int tW, .ref mA, .ref mB, .ref mW, .ref mL, .int lS]))] H := hP
        have hD : va_D A [(m0, .inr (8, [.ref mH, .int aM, .long aC, .int mM, .long mQ, .int oV, .int pL, .int lI, .int x_51, .int dP, .int sT, .long aT, .int cH, .int iW, .ref mI, .ref mJ, .ref mS, .ref mD, .int iH, .int aE, .int mN, .long sZ, .ref mX, .int tS, .int tA, .int tW, .ref mA, .ref mB, .ref mW, .ref mL, .int lS]))] := hD
        refine lv_iload_n hx hb dX8_turn_58 rfl (lv_at hl 0 rfl) ?_
        try subst ex_51
        try subst ex_46
        try subst ex_51
        try subst ex_46
        refine kIret (u := ()) hx hb hr rfl hlocks hS dX8_turn_59 ?_ (hP.sub [0] (by first | (rw [show kTrS sW 4 z = _ from (kif_t (by decide)).trans (kif_t (by assumption))]; rfl) | (rw [show kTrS sW 4 z = _ from (kif_t (by decide)).trans (kif_f (by assumption))]; rfl))) (hD.sub [0] (by decide) (by first | (rw [show kTrS sW 4 z = _ from (kif_t (by decide)).trans (kif_t (by assumption))]; rfl) | (rw [show kTrS sW 4 z = _ from (kif_t (by decide)).trans (kif_f (by assumption))]; rfl)))
        exact (k_trA hrg).2.2.2
      · have t_27_46 := c_27_46
        try simp only [kb_eq0, kb_ne0, lg_cmp_lt, lg_cmp_le, lg_cmp_gt, lg_cmp_ge, lg_cmp_eq] at t_27_46
        try simp only [Int32.lt_iff_toInt_lt, Int32.le_iff_toInt_le, ← Int32.toInt_inj, Int64.lt_iff_toInt_lt, Int64.le_iff_toInt_le, ← Int64.toInt_inj, Int32.toInt_toInt64, Int32.reduceToInt, Int64.reduceToInt] at t_27_46
        refine lv_aload_n hx hb dX8_turn_30 rfl (lv_at hl 1 rfl) ?_
        refine va_get (D := D) (ci := 8) (v := .int sW) (C := RX8) (T := TX8) (N := 31) hx hb hts iX8_turn_X8 hown hK hP 0 rfl rfl 8 (by decide) (hts (.fieldLink RX8 98 "TapeCalculatorModel" "switches" "I") (List.mem_of_getElem? (i := 2) rfl)) (fun _ h9 => h9) rfl dX8_turn_31 ?_
        refine lv_iconst (v := 1) hx hb dX8_turn_34 (by decide) ?_
        refine lv_iload_n hx hb dX8_turn_35 rfl (lv_at hl 2 rfl) ?_
        refine lv_iconst (v := 1) hx hb dX8_turn_36 (by decide) ?_
        refine lv_isub hx hb dX8_turn_37 ?_
        refine lv_topi (fun x_52 ex_52 => ?_)
        obtain rfl : x_52 = 3 := ex_52.trans (by decide)
        refine lv_ishl hx hb dX8_turn_38 ?_
        refine lv_topi (fun x_53 ex_53 => ?_)
        obtain rfl : x_53 = 8 := ex_53.trans (by decide)
        refine lv_ior hx hb dX8_turn_39 ?_
        refine lv_goto (tgt := 55) hx hb dX8_turn_40 (by decide) ?_
        refine lv_topi (fun x_54 ex_54 => ?_)
        refine va_put (D := D) (ci := 8) (v := .int x_54) (ty := .int) (C := RX8) (T := TX8) (N := 31) hx hb hts iX8_turn_X8 tyX8 tyX8_ok nmX8 hown hK hP hD hS 0 rfl rfl 8 (by decide) (hts (.fieldLink RX8 98 "TapeCalculatorModel" "switches" "I") (List.mem_of_getElem? (i := 2) rfl)) (fun _ h9 => h9) rfl (by decide +kernel) rfl rfl (Nat.le_of_ble_eq_true rfl) dX8_turn_55 (fun H locs hP hD hS => ?_)
        have hP : va_P D vwCl [(m0, .inr (8, [.ref mH, .int aM, .long aC, .int mM, .long mQ, .int oV, .int pL, .int lI, .int x_54, .int dP, .int sT, .long aT, .int cH, .int iW, .ref mI, .ref mJ, .ref mS, .ref mD, .int iH, .int aE, .int mN, .long sZ, .ref mX, .int tS, .int tA, .int tW, .ref mA, .ref mB, .ref mW, .ref mL, .int lS]))] H := hP
        have hD : va_D A [(m0, .inr (8, [.ref mH, .int aM, .long aC, .int mM, .long mQ, .int oV, .int pL, .int lI, .int x_54, .int dP, .int sT, .long aT, .int cH, .int iW, .ref mI, .ref mJ, .ref mS, .ref mD, .int iH, .int aE, .int mN, .long sZ, .ref mX, .int tS, .int tA, .int tW, .ref mA, .ref mB, .ref mW, .ref mL, .int lS]))] := hD
        refine lv_iload_n hx hb dX8_turn_58 rfl (lv_at hl 0 rfl) ?_
        try subst ex_54
        try subst ex_46
        try subst ex_54
        try subst ex_46
        refine kIret (u := ()) hx hb hr rfl hlocks hS dX8_turn_59 ?_ (hP.sub [0] (by first | (rw [show kTrS sW 4 z = _ from (kif_t (by decide)).trans (kif_t (by assumption))]; rfl) | (rw [show kTrS sW 4 z = _ from (kif_t (by decide)).trans (kif_f (by assumption))]; rfl))) (hD.sub [0] (by decide) (by first | (rw [show kTrS sW 4 z = _ from (kif_t (by decide)).trans (kif_t (by assumption))]; rfl) | (rw [show kTrS sW 4 z = _ from (kif_t (by decide)).trans (kif_f (by assumption))]; rfl)))
        exact (k_trA hrg).2.2.2
    · have t_9_43 := c_9_43
      try simp only [kb_eq0, kb_ne0, lg_cmp_lt, lg_cmp_le, lg_cmp_gt, lg_cmp_ge, lg_cmp_eq] at t_9_43
      try simp only [Int32.lt_iff_toInt_lt, Int32.le_iff_toInt_le, ← Int32.toInt_inj, Int64.lt_iff_toInt_lt, Int64.le_iff_toInt_le, ← Int64.toInt_inj, Int32.toInt_toInt64, Int32.reduceToInt, Int64.reduceToInt] at t_9_43
      omega
set_option maxRecDepth 100000 in
theorem iX8_acts_X8 : ∀ w ∈ wsX80, w ∈ wsX8_acts := fun w h => (goodIn_r (big := wsX8_acts) wsX80 [2, 3, 4, 5, 6, 7, 8, 9, 10, 11, 12, 13, 14, 15, 16, 17, 18, 19, 20, 21, 22, 23, 24, 25, 26, 27, 28, 29, 30, 31, 32] rfl (by decide +kernel) w h).1
set_option maxRecDepth 100000 in
set_option maxHeartbeats 4000000 in
theorem q_acts (l : Launch) (D : va_G) (cI cL cB cZ cT : ClassId) (sz : Nat) (m0 mH mI mJ mS mD mX mA mB mW mL : Nat) (aM : Int32) (aC : Int64) (mM : Int32) (mQ : Int64) (oV pL lI sW dP sT : Int32) (aT : Int64) (cH iW iH aE mN : Int32) (sZ : Int64) (tS tA tW lS : Int32) : kM (S := Unit) l yX8_acts wsX8_acts ({ frames := 0, cells := 0, slots := 0, locals := 0 }) D (kT cI cL cB cZ cT) [.ref m0] [(m0, .inr (8, [.ref mH, .int aM, .long aC, .int mM, .long mQ, .int oV, .int pL, .int lI, .int sW, .int dP, .int sT, .long aT, .int cH, .int iW, .ref mI, .ref mJ, .ref mS, .ref mD, .int iH, .int aE, .int mN, .long sZ, .ref mX, .int tS, .int tA, .int tW, .ref mA, .ref mB, .ref mW, .ref mL, .int lS]))] sz eL (fun _ _ => True) (fun _ => [(m0, .inr (8, [.ref mH, .int aM, .long aC, .int mM, .long mQ, .int oV, .int pL, .int lI, .int sW, .int dP, .int sT, .long aT, .int cH, .int iW, .ref mI, .ref mJ, .ref mS, .ref mD, .int iH, .int aE, .int mN, .long sZ, .ref mX, .int tS, .int tA, .int tW, .ref mA, .ref mB, .ref mW, .ref mL, .int lS]))]) 0 0 := by
  refine kStart (cc := cX8_acts) (maxL := 1) (ret := (some .long)) (own := RX8) (by decide) rfl rfl (Nat.le_of_ble_eq_true rfl) ?_
  intro p e s m args below meth c A ls hx hb hr hml hown hts hlocks hnm hsz hA hG hP hD hS hl
  have hK := hG.1
  have hl : lv_has ls 1 [(0, .ref m0)] := hl
  refine lv_aload_n hx hb dX8_acts_0 rfl (lv_at hl 0 rfl) ?_
  refine va_get (D := D) (ci := 8) (v := .long aT) (C := RX8) (T := TX8) (N := 31) hx hb hts iX8_acts_X8 hown hK hP 0 rfl rfl 11 (by decide) (hts (.fieldLink RX8 158 "TapeCalculatorModel" "acts" "J") (List.mem_of_getElem? (i := 1) rfl)) (fun _ h9 => h9) rfl dX8_acts_1 ?_
  refine kLret (u := ()) hx hb hr hlocks hS dX8_acts_4 ?_ (hP.sub [0] rfl) (hD.sub [0] (by decide) rfl)
  exact trivial
