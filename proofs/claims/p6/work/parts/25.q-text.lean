def kHere (a t : Int32) (f : Nat → Int32) : Int32 := kif (a.toInt < t.toInt) (f a.toNatClampNeg &&& 255) (-1)
def kp : Nat → Int
  | 0 => 1
  | n + 1 => 10 * kp n
theorem kp_le {g : Nat} (h : g ≤ 10) : kp g ≤ 10000000000 := by
  have d : ∀ m : Fin 11, kp m.val ≤ 10000000000 := by decide
  exact d ⟨g, by omega⟩
theorem k_dig {v : Int64} {d : Int32} (hv : 0 ≤ v.toInt ∧ v.toInt ≤ 100000000000) (hd : 0 ≤ d.toInt ∧ d.toInt ≤ 255) : (10 * v + d.toInt64 - 48).toInt = 10 * v.toInt + d.toInt - 48 := by
  have e1 : (10 * v).toInt = 10 * v.toInt := by
    rw [Int64.toInt_mul, show (10 : Int64).toInt = 10 from rfl]
    exact Int.bmod_eq_of_le (by omega) (by omega)
  have e2 : (10 * v + d.toInt64).toInt = 10 * v.toInt + d.toInt := by
    rw [Int64.toInt_add, e1, Int32.toInt_toInt64]
    exact Int.bmod_eq_of_le (by omega) (by omega)
  rw [Int64.toInt_sub, e2, show (48 : Int64).toInt = 48 from rfl]
  exact Int.bmod_eq_of_le (by omega) (by omega)
theorem k_cl {k : Int32} (h : 0 ≤ k.toInt) : (k.toNatClampNeg : Int) = k.toInt := by
  obtain ⟨j, hj, rfl⟩ := nI_of (x := k) (by rw [Int32.lt_iff_toInt_lt]; simp only [Int32.reduceToInt]; omega)
  rw [nI_toInt hj, nI_clamp hj]
def LAok (x w : Int32) : Prop := (0 ≤ x.toInt ∧ x.toInt ≤ 511) ∧ (w = 0 ∨ vp_in (x + 1) 512)
def kw (x : Int32) : Int := if x.toInt < 0 then 1 else 0
theorem kw_n {x : Int32} (h : x.toInt < 0) : kw x = 1 := if_pos h
theorem kw_p {x : Int32} (h : ¬ x.toInt < 0) : kw x = 0 := if_neg h
theorem kw_r (x : Int32) : 0 ≤ kw x ∧ kw x ≤ 1 := by
  unfold kw; split <;> decide
set_option maxRecDepth 100000 in
theorem iX8_feed_X8 : ∀ w ∈ wsX80, w ∈ wsX8_feed := fun w h => (goodIn_r (big := wsX8_feed) wsX80 [8, 9, 10, 11, 12, 13, 14, 15, 16, 17, 18, 19, 20, 21, 22, 23, 24, 25, 26, 27, 28, 29, 30, 31, 32, 33, 34, 35, 36, 37, 38] rfl (by decide +kernel) w h).1
set_option maxRecDepth 100000 in
set_option maxHeartbeats 4000000 in
theorem q_feed (l : Launch) (D : va_G) (cI cL cB cZ cT : ClassId) (sz : Nat) (m0 mH mI mJ mS mD mX mA mB mW mL : Nat) (aM : Int32) (aC : Int64) (mM : Int32) (mQ : Int64) (oV pL lI sW dP sT : Int32) (aT : Int64) (cH iW iH aE mN : Int32) (sZ : Int64) (tS tA tW lS : Int32) (fX : Nat → Int32) (v : Int64) (n : Int32) (ht : 0 ≤ tS.toInt ∧ tS.toInt ≤ 2000) : kM (S := (Int32 × (Nat → Int32))) l yX8_feed wsX8_feed ({ frames := 1, cells := 0, slots := 0, locals := 25 }) D (kT cI cL cB cZ cT) [.ref m0, .long v, .int n] [(m0, .inr (8, [.ref mH, .int aM, .long aC, .int mM, .long mQ, .int oV, .int pL, .int lI, .int sW, .int dP, .int sT, .long aT, .int cH, .int iW, .ref mI, .ref mJ, .ref mS, .ref mD, .int iH, .int aE, .int mN, .long sZ, .ref mX, .int tS, .int tA, .int tW, .ref mA, .ref mB, .ref mW, .ref mL, .int lS])), (mX, .inl (cB, 2000, .inl fX))] sz eI (fun r u => r.toInt = kFdA tS.toInt n.toInt ∧ ((u.1)).toInt = kFdS tS.toInt n.toInt) (fun u => [(m0, .inr (8, [.ref mH, .int aM, .long aC, .int mM, .long mQ, .int oV, .int pL, .int lI, .int sW, .int dP, .int sT, .long aT, .int cH, .int iW, .ref mI, .ref mJ, .ref mS, .ref mD, .int iH, .int aE, .int mN, .long sZ, .ref mX, .int u.1, .int tA, .int tW, .ref mA, .ref mB, .ref mW, .ref mL, .int lS])), (mX, .inl (cB, 2000, .inl u.2))]) 0 0 := by
  refine kStart (cc := cX8_feed) (maxL := 5) (ret := (some .int)) (own := RX8) (by decide) rfl rfl (Nat.le_of_ble_eq_true rfl) ?_
  intro p e s m args below meth c A ls hx hb hr hml hown hts hlocks hnm hsz hA hG hP hD hS hl
  have hK := hG.1
  have hl : lv_has ls 5 [(0, .ref m0), (1, .long v), (3, .int n)] := hl
  refine lv_iload_n hx hb dX8_feed_0 rfl (lv_at hl 2 rfl) ?_
  refine lv_i2l hx hb dX8_feed_1 rfl ?_
  refine lv_lconst (v := 1) hx hb dX8_feed_2 (by decide) ?_
  refine lv_ldc2 (v := 8) hx hb hown (hts (.constantLong RX8 241 (8)) (List.mem_of_getElem? (i := 1) rfl)) dX8_feed_3 ?_
  refine kCallI (wr := [(m0, .inr (8, [.ref mH, .int aM, .long aC, .int mM, .long mQ, .int oV, .int pL, .int lI, .int sW, .int dP, .int sT, .long aT, .int cH, .int iW, .ref mI, .ref mJ, .ref mS, .ref mD, .int iH, .int aE, .int mN, .long sZ, .ref mX, .int tS, .int tA, .int tW, .ref mA, .ref mB, .ref mW, .ref mL, .int lS])), (mX, .inl (cB, 2000, .inl fX))]) (va_runS (As := [.long n.toInt64, .long 1, .long 8]) (rest := []) ⟨hx, hb, hml, hown, hts⟩ (q_in l D cI cL cB cZ cT _ (n.toInt64) 1 8) (va_cwS 3 hts gX8_feed_X8_in rfl rfl rfl (by decide +kernel) ⟨Nat.le_of_ble_eq_true rfl, Nat.le_of_ble_eq_true rfl⟩) (kPreS hG hP hD [] rfl (by decide)) rfl rfl hl.1 rfl (lv_room (Nat.le_of_ble_eq_true rfl)) dX8_feed_6 ⟨Nat.le_of_ble_eq_true rfl, Nat.le_of_ble_eq_true rfl⟩) hA hP hD hS [] [0, 1] rfl rfl (by decide) (by decide) (fun r_1 u_r_1 H locs wr_1 hP hD hS => ?_)
  have hP : va_P D vwCl [(m0, .inr (8, [.ref mH, .int aM, .long aC, .int mM, .long mQ, .int oV, .int pL, .int lI, .int sW, .int dP, .int sT, .long aT, .int cH, .int iW, .ref mI, .ref mJ, .ref mS, .ref mD, .int iH, .int aE, .int mN, .long sZ, .ref mX, .int tS, .int tA, .int tW, .ref mA, .ref mB, .ref mW, .ref mL, .int lS])), (mX, .inl (cB, 2000, .inl fX))] H := hP
  have hD : va_D A [(m0, .inr (8, [.ref mH, .int aM, .long aC, .int mM, .long mQ, .int oV, .int pL, .int lI, .int sW, .int dP, .int sT, .long aT, .int cH, .int iW, .ref mI, .ref mJ, .ref mS, .ref mD, .int iH, .int aE, .int mN, .long sZ, .ref mX, .int tS, .int tA, .int tW, .ref mA, .ref mB, .ref mW, .ref mL, .int lS])), (mX, .inl (cB, 2000, .inl fX))] := hD
  try dsimp only at wr_1
  subst wr_1
  refine lv_if_ne (tgt := 14) hx hb dX8_feed_9 (by decide) (fun c_9_1 => ?_) (fun c_9_1 => ?_)
  · have t_9_1 := c_9_1
    try simp only [kb_eq0, kb_ne0, lg_cmp_lt, lg_cmp_le, lg_cmp_gt, lg_cmp_ge, lg_cmp_eq] at t_9_1
    try simp only [Int32.lt_iff_toInt_lt, Int32.le_iff_toInt_le, ← Int32.toInt_inj, Int64.lt_iff_toInt_lt, Int64.le_iff_toInt_le, ← Int64.toInt_inj, Int32.toInt_toInt64, Int32.reduceToInt, Int64.reduceToInt] at t_9_1
    have ha0 := k_addg (a := tS) (b := n) (by omega) (by omega)
    refine lv_aload_n hx hb dX8_feed_14 rfl (lv_at hl 0 rfl) ?_
    refine va_get (D := D) (ci := 8) (v := .int tS) (C := RX8) (T := TX8) (N := 31) hx hb hts iX8_feed_X8 hown hK hP 0 rfl rfl 23 (by decide) (hts (.fieldLink RX8 243 "TapeCalculatorModel" "textSize" "I") (List.mem_of_getElem? (i := 2) rfl)) (fun _ h9 => h9) rfl dX8_feed_15 ?_
    refine lv_iload_n hx hb dX8_feed_18 rfl (lv_at hl 2 rfl) ?_
    refine lv_iadd hx hb dX8_feed_19 ?_
    refine lv_sipush (v := 2000) hx hb dX8_feed_20 (by decide) ?_
    refine lv_icmp_le (tgt := 29) hx hb dX8_feed_23 (by decide) (fun c_23_2 => ?_) (fun c_23_2 => ?_)
    · have t_23_2 := c_23_2
      try simp only [kb_eq0, kb_ne0, lg_cmp_lt, lg_cmp_le, lg_cmp_gt, lg_cmp_ge, lg_cmp_eq] at t_23_2
      try simp only [Int32.lt_iff_toInt_lt, Int32.le_iff_toInt_le, ← Int32.toInt_inj, Int64.lt_iff_toInt_lt, Int64.le_iff_toInt_le, ← Int64.toInt_inj, Int32.toInt_toInt64, Int32.reduceToInt, Int64.reduceToInt] at t_23_2
      refine lv_iconst (v := 0) hx hb dX8_feed_29 (by decide) ?_
      refine lv_istore (lv' := [(4, .int 0), (0, .ref m0), (1, .long v), (3, .int n)]) hx hb dX8_feed_30 hl (by decide) rfl (fun ls hl => ?_)
      have J32 : ∀ (k : Nat) (j : Int32) (lj : Int32) (fj : Nat → Int32), (n.toInt - j.toInt).toNat < k → lj.toInt = tS.toInt + j.toInt ∧ 0 ≤ j.toInt ∧ j.toInt ≤ n.toInt → ∀ (H : Heap) (locs : List Loc), va_P D vwCl [(m0, .inr (8, [.ref mH, .int aM, .long aC, .int mM, .long mQ, .int oV, .int pL, .int lI, .int sW, .int dP, .int sT, .long aT, .int cH, .int iW, .ref mI, .ref mJ, .ref mS, .ref mD, .int iH, .int aE, .int mN, .long sZ, .ref mX, .int lj, .int tA, .int tW, .ref mA, .ref mB, .ref mW, .ref mL, .int lS])), (mX, .inl (cB, 2000, .inl fj))] H → va_D A [(m0, .inr (8, [.ref mH, .int aM, .long aC, .int mM, .long mQ, .int oV, .int pL, .int lI, .int sW, .int dP, .int sT, .long aT, .int cH, .int iW, .ref mI, .ref mJ, .ref mS, .ref mD, .int iH, .int aE, .int mN, .long sZ, .ref mX, .int lj, .int tA, .int tW, .ref mA, .ref mB, .ref mW, .ref mL, .int lS])), (mX, .inl (cB, 2000, .inl fj))] → va_S A s.heap H locs → ∀ ls : Array Slot, lv_has ls 5 [(4, .int j), (0, .ref m0), (1, .long v), (3, .int n)] → W p l e ({ frames := 1, cells := 0, slots := 0, locals := 25 }) s m args below meth c H locs 0 0 (MQ below (kQ (S := (Int32 × (Nat → Int32))) eI (fun r u => r.toInt = kFdA tS.toInt n.toInt ∧ ((u.1)).toInt = kFdS tS.toInt n.toInt) D (fun u => [(m0, .inr (8, [.ref mH, .int aM, .long aC, .int mM, .long mQ, .int oV, .int pL, .int lI, .int sW, .int dP, .int sT, .long aT, .int cH, .int iW, .ref mI, .ref mJ, .ref mS, .ref mD, .int iH, .int aE, .int mN, .long sZ, .ref mX, .int u.1, .int tA, .int tW, .ref mA, .ref mB, .ref mW, .ref mL, .int lS])), (mX, .inl (cB, 2000, .inl u.2))]) A) args s 0 0 A) (F0 m 32 ls []) := by
        intro k
        induction k with
        | zero =>
          intro j lj fj hm
          exact absurd hm (Nat.not_lt_zero _)
        | succ k ih =>
          intro j lj fj hm hj H locs hP hD hS ls hl
          refine lv_iload hx hb dX8_feed_32 (lv_at hl 0 rfl) ?_
          refine lv_iload_n hx hb dX8_feed_34 rfl (lv_at hl 3 rfl) ?_
          refine lv_icmp_ge (tgt := 72) hx hb dX8_feed_35 (by decide) (fun c_35_3 => ?_) (fun c_35_3 => ?_)
          · have t_35_3 := c_35_3
            try simp only [kb_eq0, kb_ne0, lg_cmp_lt, lg_cmp_le, lg_cmp_gt, lg_cmp_ge, lg_cmp_eq] at t_35_3
            try simp only [Int32.lt_iff_toInt_lt, Int32.le_iff_toInt_le, ← Int32.toInt_inj, Int64.lt_iff_toInt_lt, Int64.le_iff_toInt_le, ← Int64.toInt_inj, Int32.toInt_toInt64, Int32.reduceToInt, Int64.reduceToInt] at t_35_3
            refine lv_aload_n hx hb dX8_feed_72 rfl (lv_at hl 1 rfl) ?_
            refine va_get (D := D) (ci := 8) (v := .int lj) (C := RX8) (T := TX8) (N := 31) hx hb hts iX8_feed_X8 hown hK hP 0 rfl rfl 23 (by decide) (hts (.fieldLink RX8 243 "TapeCalculatorModel" "textSize" "I") (List.mem_of_getElem? (i := 2) rfl)) (fun _ h9 => h9) rfl dX8_feed_73 ?_
            refine kIret (u := (lj, fj)) hx hb hr rfl hlocks hS dX8_feed_76 ?_ (hP.sub [0, 1] rfl) (hD.sub [0, 1] (by decide) rfl)
            try dsimp only
            unfold kFdA kFdS
            refine ⟨?_, ?_⟩ <;> (repeat split) <;> first | omega | rfl | (exfalso; omega)
          · have t_35_3 := c_35_3
            try simp only [kb_eq0, kb_ne0, lg_cmp_lt, lg_cmp_le, lg_cmp_gt, lg_cmp_ge, lg_cmp_eq] at t_35_3
            try simp only [Int32.lt_iff_toInt_lt, Int32.le_iff_toInt_le, ← Int32.toInt_inj, Int64.lt_iff_toInt_lt, Int64.le_iff_toInt_le, ← Int64.toInt_inj, Int32.toInt_toInt64, Int32.reduceToInt, Int64.reduceToInt] at t_35_3
            refine lv_aload_n hx hb dX8_feed_38 rfl (lv_at hl 1 rfl) ?_
            refine va_get (D := D) (ci := 8) (v := .ref mX) (C := RX8) (T := TX8) (N := 31) hx hb hts iX8_feed_X8 hown hK hP 0 rfl rfl 22 (by decide) (hts (.fieldLink RX8 26 "TapeCalculatorModel" "text" "[B") (List.mem_of_getElem? (i := 3) rfl)) (fun _ h9 => h9) rfl dX8_feed_39 ?_
            refine lv_aload_n hx hb dX8_feed_42 rfl (lv_at hl 1 rfl) ?_
            refine va_get (D := D) (ci := 8) (v := .int lj) (C := RX8) (T := TX8) (N := 31) hx hb hts iX8_feed_X8 hown hK hP 0 rfl rfl 23 (by decide) (hts (.fieldLink RX8 243 "TapeCalculatorModel" "textSize" "I") (List.mem_of_getElem? (i := 2) rfl)) (fun _ h9 => h9) rfl dX8_feed_43 ?_
            refine lv_lload_n hx hb dX8_feed_46 rfl (lv_at hl 2 rfl) ?_
            refine lv_bipush (v := 8) hx hb dX8_feed_47 (by decide) ?_
            refine lv_iload hx hb dX8_feed_49 (lv_at hl 0 rfl) ?_
            refine lv_imul hx hb dX8_feed_51 ?_
            refine lv_lshr hx hb dX8_feed_52 rfl ?_
            refine lv_l2i hx hb dX8_feed_53 rfl ?_
            refine lv_i2b hx hb dX8_feed_54 rfl ?_
            refine va_bast hx hb hK hP hD hS 1 2 rfl rfl (vp_in_iff.mpr (by omega)) dX8_feed_55 (fun H locs hP hD hS => ?_)
            have hP : va_P D vwCl [(m0, .inr (8, [.ref mH, .int aM, .long aC, .int mM, .long mQ, .int oV, .int pL, .int lI, .int sW, .int dP, .int sT, .long aT, .int cH, .int iW, .ref mI, .ref mJ, .ref mS, .ref mD, .int iH, .int aE, .int mN, .long sZ, .ref mX, .int lj, .int tA, .int tW, .ref mA, .ref mB, .ref mW, .ref mL, .int lS])), (mX, .inl (cB, 2000, .inl (upd fj lj.toNatClampNeg (vp_nar .byte (v >>> (((8 * j) : Int32).toInt64 &&& 63)).toInt32.toInt8.toInt32))))] H := hP
            have hD : va_D A [(m0, .inr (8, [.ref mH, .int aM, .long aC, .int mM, .long mQ, .int oV, .int pL, .int lI, .int sW, .int dP, .int sT, .long aT, .int cH, .int iW, .ref mI, .ref mJ, .ref mS, .ref mD, .int iH, .int aE, .int mN, .long sZ, .ref mX, .int lj, .int tA, .int tW, .ref mA, .ref mB, .ref mW, .ref mL, .int lS])), (mX, .inl (cB, 2000, .inl (upd fj lj.toNatClampNeg (vp_nar .byte (v >>> (((8 * j) : Int32).toInt64 &&& 63)).toInt32.toInt8.toInt32))))] := hD
            refine lv_aload_n hx hb dX8_feed_56 rfl (lv_at hl 1 rfl) ?_
            refine lv_dup hx hb dX8_feed_57 rfl ?_
            refine va_get (D := D) (ci := 8) (v := .int lj) (C := RX8) (T := TX8) (N := 31) hx hb hts iX8_feed_X8 hown hK hP 0 rfl rfl 23 (by decide) (hts (.fieldLink RX8 243 "TapeCalculatorModel" "textSize" "I") (List.mem_of_getElem? (i := 2) rfl)) (fun _ h9 => h9) rfl dX8_feed_58 ?_
            refine lv_iconst (v := 1) hx hb dX8_feed_61 (by decide) ?_
            refine lv_iadd hx hb dX8_feed_62 ?_
            refine lv_topi (fun x_5 ex_5 => ?_)
            refine va_put (D := D) (ci := 8) (v := .int x_5) (ty := .int) (C := RX8) (T := TX8) (N := 31) hx hb hts iX8_feed_X8 tyX8 tyX8_ok nmX8 hown hK hP hD hS 0 rfl rfl 23 (by decide) (hts (.fieldLink RX8 243 "TapeCalculatorModel" "textSize" "I") (List.mem_of_getElem? (i := 2) rfl)) (fun _ h9 => h9) rfl (by decide +kernel) rfl rfl (Nat.le_of_ble_eq_true rfl) dX8_feed_63 (fun H locs hP hD hS => ?_)
            have hP : va_P D vwCl [(m0, .inr (8, [.ref mH, .int aM, .long aC, .int mM, .long mQ, .int oV, .int pL, .int lI, .int sW, .int dP, .int sT, .long aT, .int cH, .int iW, .ref mI, .ref mJ, .ref mS, .ref mD, .int iH, .int aE, .int mN, .long sZ, .ref mX, .int x_5, .int tA, .int tW, .ref mA, .ref mB, .ref mW, .ref mL, .int lS])), (mX, .inl (cB, 2000, .inl (upd fj lj.toNatClampNeg (vp_nar .byte (v >>> (((8 * j) : Int32).toInt64 &&& 63)).toInt32.toInt8.toInt32))))] H := hP
            have hD : va_D A [(m0, .inr (8, [.ref mH, .int aM, .long aC, .int mM, .long mQ, .int oV, .int pL, .int lI, .int sW, .int dP, .int sT, .long aT, .int cH, .int iW, .ref mI, .ref mJ, .ref mS, .ref mD, .int iH, .int aE, .int mN, .long sZ, .ref mX, .int x_5, .int tA, .int tW, .ref mA, .ref mB, .ref mW, .ref mL, .int lS])), (mX, .inl (cB, 2000, .inl (upd fj lj.toNatClampNeg (vp_nar .byte (v >>> (((8 * j) : Int32).toInt64 &&& 63)).toInt32.toInt8.toInt32))))] := hD
            obtain ⟨x_6, ex_6⟩ : ∃ y : Int32, y = j + 1 := ⟨_, rfl⟩
            refine lv_iinc (v := x_6) (lv' := [(4, .int x_6), (0, .ref m0), (1, .long v), (3, .int n)]) hx hb dX8_feed_66 hl (k := 0) rfl (by rw [ex_6]; rfl) (by decide) rfl (fun ls hl => ?_)
            refine lv_goto (tgt := 32) hx hb dX8_feed_69 (by decide) ?_
            have hd := k_inc (i := j) (n := n) (by omega)
            rw [← ex_6] at hd
            have hd2 := k_addg (a := lj) (b := 1) (by omega) (by decide)
            simp only [Int32.reduceToInt] at hd2
            rw [← ex_5] at hd2
            exact ih x_6 x_5 (upd fj lj.toNatClampNeg (vp_nar .byte (v >>> (((8 * j) : Int32).toInt64 &&& 63)).toInt32.toInt8.toInt32)) (by omega) (by omega) _ _ (hP.sub [0, 1] rfl) (hD.sub [0, 1] (by decide) rfl) hS ls (lv_sub hl [0, 1, 2, 3] rfl)
      have hz0 : (0 : Int32).toInt = 0 := by decide
      exact J32 _ 0 tS fX (Nat.lt_succ_self _) (by omega) _ _ (hP.sub [0, 1] rfl) (hD.sub [0, 1] (by decide) rfl) hS ls (lv_sub hl [0, 1, 2, 3] rfl)
    · have t_23_2 := c_23_2
      try simp only [kb_eq0, kb_ne0, lg_cmp_lt, lg_cmp_le, lg_cmp_gt, lg_cmp_ge, lg_cmp_eq] at t_23_2
      try simp only [Int32.lt_iff_toInt_lt, Int32.le_iff_toInt_le, ← Int32.toInt_inj, Int64.lt_iff_toInt_lt, Int64.le_iff_toInt_le, ← Int64.toInt_inj, Int32.toInt_toInt64, Int32.reduceToInt, Int64.reduceToInt] at t_23_2
      refine lv_bipush (v := (-2)) hx hb dX8_feed_26 (by decide) ?_
      refine kIret (u := (tS, fX)) hx hb hr rfl hlocks hS dX8_feed_28 ?_ (hP.sub [0, 1] rfl) (hD.sub [0, 1] (by decide) rfl)
      have hrv : ((-2) : Int32).toInt = -2 := by decide
      try dsimp only
      unfold kFdA kFdS
      refine ⟨?_, ?_⟩ <;> (repeat split) <;> first | omega | rfl | (exfalso; omega)
  · have t_9_1 := c_9_1
    try simp only [kb_eq0, kb_ne0, lg_cmp_lt, lg_cmp_le, lg_cmp_gt, lg_cmp_ge, lg_cmp_eq] at t_9_1
    try simp only [Int32.lt_iff_toInt_lt, Int32.le_iff_toInt_le, ← Int32.toInt_inj, Int64.lt_iff_toInt_lt, Int64.le_iff_toInt_le, ← Int64.toInt_inj, Int32.toInt_toInt64, Int32.reduceToInt, Int64.reduceToInt] at t_9_1
    refine lv_iconst (v := (-1)) hx hb dX8_feed_12 (by decide) ?_
    refine kIret (u := (tS, fX)) hx hb hr rfl hlocks hS dX8_feed_13 ?_ (hP.sub [0, 1] rfl) (hD.sub [0, 1] (by decide) rfl)
    have hrv : ((-1) : Int32).toInt = -1 := by decide
    try dsimp only
    unfold kFdA kFdS
    refine ⟨?_, ?_⟩ <;> (repeat split) <;> first | omega | rfl | (exfalso; omega)
set_option maxRecDepth 100000 in
theorem iX8_here_X8 : ∀ w ∈ wsX80, w ∈ wsX8_here := fun w h => (goodIn_r (big := wsX8_here) wsX80 [4, 5, 6, 7, 8, 9, 10, 11, 12, 13, 14, 15, 16, 17, 18, 19, 20, 21, 22, 23, 24, 25, 26, 27, 28, 29, 30, 31, 32, 33, 34] rfl (by decide +kernel) w h).1
set_option maxRecDepth 100000 in
set_option maxHeartbeats 4000000 in
theorem q_here (l : Launch) (D : va_G) (cI cL cB cZ cT : ClassId) (sz : Nat) (m0 mH mI mJ mS mD mX mA mB mW mL : Nat) (aM : Int32) (aC : Int64) (mM : Int32) (mQ : Int64) (oV pL lI sW dP sT : Int32) (aT : Int64) (cH iW iH aE mN : Int32) (sZ : Int64) (tS tA tW lS : Int32) (fX : Nat → Int32) (hta : 0 ≤ tA.toInt ∧ tA.toInt ≤ 100000) (hts2 : tS.toInt ≤ 2000) : kM (S := Unit) l yX8_here wsX8_here ({ frames := 0, cells := 0, slots := 0, locals := 0 }) D (kT cI cL cB cZ cT) [.ref m0] [(m0, .inr (8, [.ref mH, .int aM, .long aC, .int mM, .long mQ, .int oV, .int pL, .int lI, .int sW, .int dP, .int sT, .long aT, .int cH, .int iW, .ref mI, .ref mJ, .ref mS, .ref mD, .int iH, .int aE, .int mN, .long sZ, .ref mX, .int tS, .int tA, .int tW, .ref mA, .ref mB, .ref mW, .ref mL, .int lS])), (mX, .inl (cB, 2000, .inl fX))] sz eI (fun r _ => r = (kHere tA tS fX)) (fun _ => [(m0, .inr (8, [.ref mH, .int aM, .long aC, .int mM, .long mQ, .int oV, .int pL, .int lI, .int sW, .int dP, .int sT, .long aT, .int cH, .int iW, .ref mI, .ref mJ, .ref mS, .ref mD, .int iH, .int aE, .int mN, .long sZ, .ref mX, .int tS, .int tA, .int tW, .ref mA, .ref mB, .ref mW, .ref mL, .int lS])), (mX, .inl (cB, 2000, .inl fX))]) 0 0 := by
  refine kStart (cc := cX8_here) (maxL := 1) (ret := (some .int)) (own := RX8) (by decide) rfl rfl (Nat.le_of_ble_eq_true rfl) ?_
  intro p e s m args below meth c A ls hx hb hr hml hown hts hlocks hnm hsz hA hG hP hD hS hl
  have hK := hG.1
  have hl : lv_has ls 1 [(0, .ref m0)] := hl
  refine lv_aload_n hx hb dX8_here_0 rfl (lv_at hl 0 rfl) ?_
  refine va_get (D := D) (ci := 8) (v := .int tA) (C := RX8) (T := TX8) (N := 31) hx hb hts iX8_here_X8 hown hK hP 0 rfl rfl 24 (by decide) (hts (.fieldLink RX8 246 "TapeCalculatorModel" "at" "I") (List.mem_of_getElem? (i := 1) rfl)) (fun _ h9 => h9) rfl dX8_here_1 ?_
  refine lv_aload_n hx hb dX8_here_4 rfl (lv_at hl 0 rfl) ?_
  refine va_get (D := D) (ci := 8) (v := .int tS) (C := RX8) (T := TX8) (N := 31) hx hb hts iX8_here_X8 hown hK hP 0 rfl rfl 23 (by decide) (hts (.fieldLink RX8 243 "TapeCalculatorModel" "textSize" "I") (List.mem_of_getElem? (i := 2) rfl)) (fun _ h9 => h9) rfl dX8_here_5 ?_
  refine lv_icmp_ge (tgt := 27) hx hb dX8_here_8 (by decide) (fun c_8_0 => ?_) (fun c_8_0 => ?_)
  · have t_8_0 := c_8_0
    try simp only [kb_eq0, kb_ne0, lg_cmp_lt, lg_cmp_le, lg_cmp_gt, lg_cmp_ge, lg_cmp_eq] at t_8_0
    try simp only [Int32.lt_iff_toInt_lt, Int32.le_iff_toInt_le, ← Int32.toInt_inj, Int64.lt_iff_toInt_lt, Int64.le_iff_toInt_le, ← Int64.toInt_inj, Int32.toInt_toInt64, Int32.reduceToInt, Int64.reduceToInt] at t_8_0
    refine lv_iconst (v := (-1)) hx hb dX8_here_27 (by decide) ?_
    refine kIret (u := ()) hx hb hr rfl hlocks hS dX8_here_28 ?_ (hP.sub [0, 1] rfl) (hD.sub [0, 1] (by decide) rfl)
    unfold kHere
    first | exact (kif_t (by omega)).symm | exact (kif_f (by omega)).symm
  · have t_8_0 := c_8_0
    try simp only [kb_eq0, kb_ne0, lg_cmp_lt, lg_cmp_le, lg_cmp_gt, lg_cmp_ge, lg_cmp_eq] at t_8_0
    try simp only [Int32.lt_iff_toInt_lt, Int32.le_iff_toInt_le, ← Int32.toInt_inj, Int64.lt_iff_toInt_lt, Int64.le_iff_toInt_le, ← Int64.toInt_inj, Int32.toInt_toInt64, Int32.reduceToInt, Int64.reduceToInt] at t_8_0
    refine lv_aload_n hx hb dX8_here_11 rfl (lv_at hl 0 rfl) ?_
    refine va_get (D := D) (ci := 8) (v := .ref mX) (C := RX8) (T := TX8) (N := 31) hx hb hts iX8_here_X8 hown hK hP 0 rfl rfl 22 (by decide) (hts (.fieldLink RX8 26 "TapeCalculatorModel" "text" "[B") (List.mem_of_getElem? (i := 3) rfl)) (fun _ h9 => h9) rfl dX8_here_12 ?_
    refine lv_aload_n hx hb dX8_here_15 rfl (lv_at hl 0 rfl) ?_
    refine va_get (D := D) (ci := 8) (v := .int tA) (C := RX8) (T := TX8) (N := 31) hx hb hts iX8_here_X8 hown hK hP 0 rfl rfl 24 (by decide) (hts (.fieldLink RX8 246 "TapeCalculatorModel" "at" "I") (List.mem_of_getElem? (i := 1) rfl)) (fun _ h9 => h9) rfl dX8_here_16 ?_
    refine va_bald hx hb hK hP 1 2 rfl rfl (vp_in_iff.mpr (by omega)) dX8_here_19 ?_
    refine lv_sipush (v := 255) hx hb dX8_here_20 (by decide) ?_
    refine lv_iand hx hb dX8_here_23 ?_
    refine lv_goto (tgt := 28) hx hb dX8_here_24 (by decide) ?_
    refine kIret (u := ()) hx hb hr rfl hlocks hS dX8_here_28 ?_ (hP.sub [0, 1] rfl) (hD.sub [0, 1] (by decide) rfl)
    unfold kHere
    first | exact (kif_t (by omega)).symm | exact (kif_f (by omega)).symm
set_option maxRecDepth 100000 in
set_option maxHeartbeats 4000000 in
theorem q_isFigure (l : Launch) (D : va_G) (cI cL cB cZ cT : ClassId) (sz : Nat) (m0 mH mI mJ mS mD mX mA mB mW mL : Nat) (aM : Int32) (aC : Int64) (mM : Int32) (mQ : Int64) (oV pL lI sW dP sT : Int32) (aT : Int64) (cH iW iH aE mN : Int32) (sZ : Int64) (tS tA tW lS : Int32) (fX : Nat → Int32) (hta : 0 ≤ tA.toInt ∧ tA.toInt ≤ 100000) (hts2 : tS.toInt ≤ 2000) : kM (S := Unit) l yX8_isFigure wsX8_isFigure ({ frames := 1, cells := 0, slots := 0, locals := 25 }) D (kT cI cL cB cZ cT) [.ref m0] [(m0, .inr (8, [.ref mH, .int aM, .long aC, .int mM, .long mQ, .int oV, .int pL, .int lI, .int sW, .int dP, .int sT, .long aT, .int cH, .int iW, .ref mI, .ref mJ, .ref mS, .ref mD, .int iH, .int aE, .int mN, .long sZ, .ref mX, .int tS, .int tA, .int tW, .ref mA, .ref mB, .ref mW, .ref mL, .int lS])), (mX, .inl (cB, 2000, .inl fX))] sz eI (fun r _ => r = (kb (48 ≤ (kHere tA tS fX).toInt ∧ (kHere tA tS fX).toInt ≤ 57))) (fun _ => [(m0, .inr (8, [.ref mH, .int aM, .long aC, .int mM, .long mQ, .int oV, .int pL, .int lI, .int sW, .int dP, .int sT, .long aT, .int cH, .int iW, .ref mI, .ref mJ, .ref mS, .ref mD, .int iH, .int aE, .int mN, .long sZ, .ref mX, .int tS, .int tA, .int tW, .ref mA, .ref mB, .ref mW, .ref mL, .int lS])), (mX, .inl (cB, 2000, .inl fX))]) 0 0 := by
  refine kStart (cc := cX8_isFigure) (maxL := 1) (ret := (some .boolean)) (own := RX8) (by decide) rfl rfl (Nat.le_of_ble_eq_true rfl) ?_
  intro p e s m args below meth c A ls hx hb hr hml hown hts hlocks hnm hsz hA hG hP hD hS hl
  have hK := hG.1
  have hl : lv_has ls 1 [(0, .ref m0)] := hl
  refine lv_aload_n hx hb dX8_isFigure_0 rfl (lv_at hl 0 rfl) ?_
  refine kCallI (wr := []) (va_runV (As := []) (rest := []) ⟨hx, hb, hml, hown, hts⟩ (q_here l D cI cL cB cZ cT _ m0 mH mI mJ mS mD mX mA mB mW mL aM aC mM mQ oV pL lI sW dP sT aT cH iW iH aE mN sZ tS tA tW lS fX (by omega) (by omega)) (cwV 0 hts gX8_isFigure_X8_here rfl rfl rfl (by decide +kernel) ⟨Nat.le_of_ble_eq_true rfl, Nat.le_of_ble_eq_true rfl⟩) (kPreV hG hP hD [0, 1] rfl (by decide) 0 8 rfl rfl rfl) rfl rfl hl.1 rfl (lv_room (Nat.le_of_ble_eq_true rfl)) dX8_isFigure_1 ⟨Nat.le_of_ble_eq_true rfl, Nat.le_of_ble_eq_true rfl⟩) hA hP hD hS [0, 1] [] rfl rfl (by decide) (by decide) (fun r_1 u_r_1 H locs wr_1 hP hD hS => ?_)
  have hP : va_P D vwCl [(m0, .inr (8, [.ref mH, .int aM, .long aC, .int mM, .long mQ, .int oV, .int pL, .int lI, .int sW, .int dP, .int sT, .long aT, .int cH, .int iW, .ref mI, .ref mJ, .ref mS, .ref mD, .int iH, .int aE, .int mN, .long sZ, .ref mX, .int tS, .int tA, .int tW, .ref mA, .ref mB, .ref mW, .ref mL, .int lS])), (mX, .inl (cB, 2000, .inl fX))] H := hP
  have hD : va_D A [(m0, .inr (8, [.ref mH, .int aM, .long aC, .int mM, .long mQ, .int oV, .int pL, .int lI, .int sW, .int dP, .int sT, .long aT, .int cH, .int iW, .ref mI, .ref mJ, .ref mS, .ref mD, .int iH, .int aE, .int mN, .long sZ, .ref mX, .int tS, .int tA, .int tW, .ref mA, .ref mB, .ref mW, .ref mL, .int lS])), (mX, .inl (cB, 2000, .inl fX))] := hD
  try dsimp only at wr_1
  subst wr_1
  refine lv_i2l hx hb dX8_isFigure_4 rfl ?_
  refine lv_ldc2 (v := 48) hx hb hown (hts (.constantLong RX8 252 (48)) (List.mem_of_getElem? (i := 1) rfl)) dX8_isFigure_5 ?_
  refine lv_ldc2 (v := 57) hx hb hown (hts (.constantLong RX8 254 (57)) (List.mem_of_getElem? (i := 2) rfl)) dX8_isFigure_8 ?_
  refine kCallI (wr := [(m0, .inr (8, [.ref mH, .int aM, .long aC, .int mM, .long mQ, .int oV, .int pL, .int lI, .int sW, .int dP, .int sT, .long aT, .int cH, .int iW, .ref mI, .ref mJ, .ref mS, .ref mD, .int iH, .int aE, .int mN, .long sZ, .ref mX, .int tS, .int tA, .int tW, .ref mA, .ref mB, .ref mW, .ref mL, .int lS])), (mX, .inl (cB, 2000, .inl fX))]) (va_runS (As := [.long (kHere tA tS fX).toInt64, .long 48, .long 57]) (rest := []) ⟨hx, hb, hml, hown, hts⟩ (q_in l D cI cL cB cZ cT _ (kHere tA tS fX).toInt64 48 57) (va_cwS 3 hts gX8_isFigure_X8_in rfl rfl rfl (by decide +kernel) ⟨Nat.le_of_ble_eq_true rfl, Nat.le_of_ble_eq_true rfl⟩) (kPreS hG hP hD [] rfl (by decide)) rfl rfl hl.1 rfl (lv_room (Nat.le_of_ble_eq_true rfl)) dX8_isFigure_11 ⟨Nat.le_of_ble_eq_true rfl, Nat.le_of_ble_eq_true rfl⟩) hA hP hD hS [] [0, 1] rfl rfl (by decide) (by decide) (fun r_2 u_r_2 H locs wr_2 hP hD hS => ?_)
  have hP : va_P D vwCl [(m0, .inr (8, [.ref mH, .int aM, .long aC, .int mM, .long mQ, .int oV, .int pL, .int lI, .int sW, .int dP, .int sT, .long aT, .int cH, .int iW, .ref mI, .ref mJ, .ref mS, .ref mD, .int iH, .int aE, .int mN, .long sZ, .ref mX, .int tS, .int tA, .int tW, .ref mA, .ref mB, .ref mW, .ref mL, .int lS])), (mX, .inl (cB, 2000, .inl fX))] H := hP
  have hD : va_D A [(m0, .inr (8, [.ref mH, .int aM, .long aC, .int mM, .long mQ, .int oV, .int pL, .int lI, .int sW, .int dP, .int sT, .long aT, .int cH, .int iW, .ref mI, .ref mJ, .ref mS, .ref mD, .int iH, .int aE, .int mN, .long sZ, .ref mX, .int tS, .int tA, .int tW, .ref mA, .ref mB, .ref mW, .ref mL, .int lS])), (mX, .inl (cB, 2000, .inl fX))] := hD
  try dsimp only at wr_2
  subst wr_2
  refine kIret (u := ()) hx hb hr (kz_n (kb_z _)) hlocks hS dX8_isFigure_14 ?_ (hP.sub [0, 1] rfl) (hD.sub [0, 1] (by decide) rfl)
  simp only [Int64.reduceToInt, Int32.toInt_toInt64]
set_option maxRecDepth 100000 in
theorem iX8_figures_X8 : ∀ w ∈ wsX80, w ∈ wsX8_figures := fun w h => (goodIn_r (big := wsX8_figures) wsX80 [20, 21, 22, 23, 24, 25, 26, 27, 28, 29, 30, 31, 32, 33, 34, 35, 36, 37, 38, 39, 40, 41, 42, 43, 44, 45, 46, 47, 48, 49, 50] rfl (by decide +kernel) w h).1
set_option maxRecDepth 100000 in
set_option maxHeartbeats 4000000 in
theorem q_figures (l : Launch) (D : va_G) (cI cL cB cZ cT : ClassId) (sz : Nat) (m0 mH mI mJ mS mD mX mA mB mW mL : Nat) (aM : Int32) (aC : Int64) (mM : Int32) (mQ : Int64) (oV pL lI sW dP sT : Int32) (aT : Int64) (cH iW iH aE mN : Int32) (sZ : Int64) (tS tA tW lS : Int32) (fX : Nat → Int32) (mo : Int32) (be : Int64) (hmo : 1 ≤ mo.toInt ∧ mo.toInt ≤ 11) (hta : 0 ≤ tA.toInt ∧ tA.toInt ≤ 100000) (hts2 : tS.toInt ≤ 2000) : kM (S := (Int32 × Int32)) l yX8_figures wsX8_figures ({ frames := 2, cells := 0, slots := 0, locals := 45 }) D (kT cI cL cB cZ cT) [.ref m0, .int mo, .long be] [(m0, .inr (8, [.ref mH, .int aM, .long aC, .int mM, .long mQ, .int oV, .int pL, .int lI, .int sW, .int dP, .int sT, .long aT, .int cH, .int iW, .ref mI, .ref mJ, .ref mS, .ref mD, .int iH, .int aE, .int mN, .long sZ, .ref mX, .int tS, .int tA, .int tW, .ref mA, .ref mB, .ref mW, .ref mL, .int lS])), (mX, .inl (cB, 2000, .inl fX))] sz eL (fun r u => tA.toInt ≤ ((u.1)).toInt ∧ ((u.1)).toInt ≤ tA.toInt + 11 ∧ ((((u.2)).toInt = tW.toInt ∧ 0 ≤ r.toInt ∧ r.toInt < be.toInt) ∨ 0 ≤ ((u.2)).toInt)) (fun u => [(m0, .inr (8, [.ref mH, .int aM, .long aC, .int mM, .long mQ, .int oV, .int pL, .int lI, .int sW, .int dP, .int sT, .long aT, .int cH, .int iW, .ref mI, .ref mJ, .ref mS, .ref mD, .int iH, .int aE, .int mN, .long sZ, .ref mX, .int tS, .int u.1, .int u.2, .ref mA, .ref mB, .ref mW, .ref mL, .int lS])), (mX, .inl (cB, 2000, .inl fX))]) 0 0 := by
  refine kStart (cc := cX8_figures) (maxL := 7) (ret := (some .long)) (own := RX8) (by decide) rfl rfl (Nat.le_of_ble_eq_true rfl) ?_
  intro p e s m args below meth c A ls hx hb hr hml hown hts hlocks hnm hsz hA hG hP hD hS hl
  have hK := hG.1
  have hl : lv_has ls 7 [(0, .ref m0), (1, .int mo), (2, .long be)] := hl
  have hbm := k_addg (a := tA) (b := mo) (by omega) (by omega)
  refine lv_aload_n hx hb dX8_figures_0 rfl (lv_at hl 0 rfl) ?_
  refine va_get (D := D) (ci := 8) (v := .int tA) (C := RX8) (T := TX8) (N := 31) hx hb hts iX8_figures_X8 hown hK hP 0 rfl rfl 24 (by decide) (hts (.fieldLink RX8 246 "TapeCalculatorModel" "at" "I") (List.mem_of_getElem? (i := 1) rfl)) (fun _ h9 => h9) rfl dX8_figures_1 ?_
  refine lv_istore (lv' := [(4, .int tA), (0, .ref m0), (1, .int mo), (2, .long be)]) hx hb dX8_figures_4 hl (by decide) rfl (fun ls hl => ?_)
  refine lv_aload_n hx hb dX8_figures_6 rfl (lv_at hl 1 rfl) ?_
  refine kCallI (wr := []) (va_runV (As := []) (rest := []) ⟨hx, hb, hml, hown, hts⟩ (q_isFigure l D cI cL cB cZ cT _ m0 mH mI mJ mS mD mX mA mB mW mL aM aC mM mQ oV pL lI sW dP sT aT cH iW iH aE mN sZ tS tA tW lS fX (by omega) (by omega)) (cwV 0 hts gX8_figures_X8_isFigure rfl rfl rfl (by decide +kernel) ⟨Nat.le_of_ble_eq_true rfl, Nat.le_of_ble_eq_true rfl⟩) (kPreV hG hP hD [0, 1] rfl (by decide) 0 8 rfl rfl rfl) rfl rfl hl.1 rfl (lv_room (Nat.le_of_ble_eq_true rfl)) dX8_figures_7 ⟨Nat.le_of_ble_eq_true rfl, Nat.le_of_ble_eq_true rfl⟩) hA hP hD hS [0, 1] [] rfl rfl (by decide) (by decide) (fun r_1 u_r_1 H locs wr_1 hP hD hS => ?_)
  have hP : va_P D vwCl [(m0, .inr (8, [.ref mH, .int aM, .long aC, .int mM, .long mQ, .int oV, .int pL, .int lI, .int sW, .int dP, .int sT, .long aT, .int cH, .int iW, .ref mI, .ref mJ, .ref mS, .ref mD, .int iH, .int aE, .int mN, .long sZ, .ref mX, .int tS, .int tA, .int tW, .ref mA, .ref mB, .ref mW, .ref mL, .int lS])), (mX, .inl (cB, 2000, .inl fX))] H := hP
  have hD : va_D A [(m0, .inr (8, [.ref mH, .int aM, .long aC, .int mM, .long mQ, .int oV, .int pL, .int lI, .int sW, .int dP, .int sT, .long aT, .int cH, .int iW, .ref mI, .ref mJ, .ref mS, .ref mD, .int iH, .int aE, .int mN, .long sZ, .ref mX, .int tS, .int tA, .int tW, .ref mA, .ref mB, .ref mW, .ref mL, .int lS])), (mX, .inl (cB, 2000, .inl fX))] := hD
  try dsimp only at wr_1
  subst wr_1
  refine lv_if_ne (tgt := 23) hx hb dX8_figures_10 (by decide) (fun c_10_1 => ?_) (fun c_10_1 => ?_)
  · have t_10_1 := c_10_1
    try simp only [kb_eq0, kb_ne0, lg_cmp_lt, lg_cmp_le, lg_cmp_gt, lg_cmp_ge, lg_cmp_eq] at t_10_1
    try simp only [Int32.lt_iff_toInt_lt, Int32.le_iff_toInt_le, ← Int32.toInt_inj, Int64.lt_iff_toInt_lt, Int64.le_iff_toInt_le, ← Int64.toInt_inj, Int32.toInt_toInt64, Int32.reduceToInt, Int64.reduceToInt] at t_10_1
    refine lv_lconst (v := 0) hx hb dX8_figures_23 (by decide) ?_
    refine lv_lstore (lv' := [(5, .long 0), (4, .int tA), (0, .ref m0), (1, .int mo), (2, .long be)]) hx hb dX8_figures_24 hl (by decide) rfl (fun ls hl => ?_)
    have J26 : ∀ (k : Nat) (va : Int32) (v : Int64), (tA.toInt + mo.toInt - va.toInt).toNat < k → ∃ g : Nat, va.toInt = tA.toInt + g ∧ (g : Int) ≤ mo.toInt ∧ 0 ≤ v.toInt ∧ v.toInt < kp g → ∀ (H : Heap) (locs : List Loc), va_P D vwCl [(m0, .inr (8, [.ref mH, .int aM, .long aC, .int mM, .long mQ, .int oV, .int pL, .int lI, .int sW, .int dP, .int sT, .long aT, .int cH, .int iW, .ref mI, .ref mJ, .ref mS, .ref mD, .int iH, .int aE, .int mN, .long sZ, .ref mX, .int tS, .int va, .int tW, .ref mA, .ref mB, .ref mW, .ref mL, .int lS])), (mX, .inl (cB, 2000, .inl fX))] H → va_D A [(m0, .inr (8, [.ref mH, .int aM, .long aC, .int mM, .long mQ, .int oV, .int pL, .int lI, .int sW, .int dP, .int sT, .long aT, .int cH, .int iW, .ref mI, .ref mJ, .ref mS, .ref mD, .int iH, .int aE, .int mN, .long sZ, .ref mX, .int tS, .int va, .int tW, .ref mA, .ref mB, .ref mW, .ref mL, .int lS])), (mX, .inl (cB, 2000, .inl fX))] → va_S A s.heap H locs → ∀ ls : Array Slot, lv_has ls 7 [(5, .long v), (4, .int tA), (0, .ref m0), (1, .int mo), (2, .long be)] → W p l e ({ frames := 2, cells := 0, slots := 0, locals := 45 }) s m args below meth c H locs 0 0 (MQ below (kQ (S := (Int32 × Int32)) eL (fun r u => tA.toInt ≤ ((u.1)).toInt ∧ ((u.1)).toInt ≤ tA.toInt + 11 ∧ ((((u.2)).toInt = tW.toInt ∧ 0 ≤ r.toInt ∧ r.toInt < be.toInt) ∨ 0 ≤ ((u.2)).toInt)) D (fun u => [(m0, .inr (8, [.ref mH, .int aM, .long aC, .int mM, .long mQ, .int oV, .int pL, .int lI, .int sW, .int dP, .int sT, .long aT, .int cH, .int iW, .ref mI, .ref mJ, .ref mS, .ref mD, .int iH, .int aE, .int mN, .long sZ, .ref mX, .int tS, .int u.1, .int u.2, .ref mA, .ref mB, .ref mW, .ref mL, .int lS])), (mX, .inl (cB, 2000, .inl fX))]) A) args s 0 0 A) (F0 m 26 ls []) := by
      intro k
      induction k with
      | zero =>
        intro va v hm
        exact absurd hm (Nat.not_lt_zero _)
      | succ k ih =>
        intro va v hm hj H locs hP hD hS ls hl
        refine lv_aload_n hx hb dX8_figures_26 rfl (lv_at hl 2 rfl) ?_
        refine va_get (D := D) (ci := 8) (v := .int va) (C := RX8) (T := TX8) (N := 31) hx hb hts iX8_figures_X8 hown hK hP 0 rfl rfl 24 (by decide) (hts (.fieldLink RX8 246 "TapeCalculatorModel" "at" "I") (List.mem_of_getElem? (i := 1) rfl)) (fun _ h9 => h9) rfl dX8_figures_27 ?_
        refine lv_iload hx hb dX8_figures_30 (lv_at hl 1 rfl) ?_
        refine lv_iload_n hx hb dX8_figures_32 rfl (lv_at hl 3 rfl) ?_
        refine lv_iadd hx hb dX8_figures_33 ?_
        refine lv_icmp_ge (tgt := 75) hx hb dX8_figures_34 (by decide) (fun c_34_2 => ?_) (fun c_34_2 => ?_)
        · have t_34_2 := c_34_2
          try simp only [kb_eq0, kb_ne0, lg_cmp_lt, lg_cmp_le, lg_cmp_gt, lg_cmp_ge, lg_cmp_eq] at t_34_2
          try simp only [Int32.lt_iff_toInt_lt, Int32.le_iff_toInt_le, ← Int32.toInt_inj, Int64.lt_iff_toInt_lt, Int64.le_iff_toInt_le, ← Int64.toInt_inj, Int32.toInt_toInt64, Int32.reduceToInt, Int64.reduceToInt] at t_34_2
          refine lv_lload hx hb dX8_figures_75 (lv_at hl 0 rfl) ?_
          refine lv_lload_n hx hb dX8_figures_77 rfl (lv_at hl 4 rfl) ?_
          refine W.lcmp hx hb dX8_figures_78 ?_
          refine lv_if_lt (tgt := 88) hx hb dX8_figures_79 (by decide) (fun c_79_3 => ?_) (fun c_79_3 => ?_)
          · have t_79_3 := c_79_3
            try simp only [kb_eq0, kb_ne0, lg_cmp_lt, lg_cmp_le, lg_cmp_gt, lg_cmp_ge, lg_cmp_eq] at t_79_3
            try simp only [Int32.lt_iff_toInt_lt, Int32.le_iff_toInt_le, ← Int32.toInt_inj, Int64.lt_iff_toInt_lt, Int64.le_iff_toInt_le, ← Int64.toInt_inj, Int32.toInt_toInt64, Int32.reduceToInt, Int64.reduceToInt] at t_79_3
            refine lv_lload hx hb dX8_figures_88 (lv_at hl 0 rfl) ?_
            refine kLret (u := (va, tW)) hx hb hr hlocks hS dX8_figures_90 ?_ (hP.sub [0, 1] rfl) (hD.sub [0, 1] (by decide) rfl)
            obtain ⟨g, g1, g2, g3, g4⟩ := hj
            try dsimp only
            first | exact ⟨by omega, by omega, Or.inl ⟨rfl, by omega, by omega⟩⟩ | exact ⟨by omega, by omega, Or.inr (by omega)⟩
          · have t_79_3 := c_79_3
            try simp only [kb_eq0, kb_ne0, lg_cmp_lt, lg_cmp_le, lg_cmp_gt, lg_cmp_ge, lg_cmp_eq] at t_79_3
            try simp only [Int32.lt_iff_toInt_lt, Int32.le_iff_toInt_le, ← Int32.toInt_inj, Int64.lt_iff_toInt_lt, Int64.le_iff_toInt_le, ← Int64.toInt_inj, Int32.toInt_toInt64, Int32.reduceToInt, Int64.reduceToInt] at t_79_3
            refine lv_aload_n hx hb dX8_figures_82 rfl (lv_at hl 2 rfl) ?_
            refine lv_iload hx hb dX8_figures_83 (lv_at hl 1 rfl) ?_
            refine va_put (D := D) (ci := 8) (v := .int tA) (ty := .int) (C := RX8) (T := TX8) (N := 31) hx hb hts iX8_figures_X8 tyX8 tyX8_ok nmX8 hown hK hP hD hS 0 rfl rfl 25 (by decide) (hts (.fieldLink RX8 259 "TapeCalculatorModel" "wrong" "I") (List.mem_of_getElem? (i := 2) rfl)) (fun _ h9 => h9) rfl (by decide +kernel) rfl rfl (Nat.le_of_ble_eq_true rfl) dX8_figures_85 (fun H locs hP hD hS => ?_)
            have hP : va_P D vwCl [(m0, .inr (8, [.ref mH, .int aM, .long aC, .int mM, .long mQ, .int oV, .int pL, .int lI, .int sW, .int dP, .int sT, .long aT, .int cH, .int iW, .ref mI, .ref mJ, .ref mS, .ref mD, .int iH, .int aE, .int mN, .long sZ, .ref mX, .int tS, .int va, .int tA, .ref mA, .ref mB, .ref mW, .ref mL, .int lS])), (mX, .inl (cB, 2000, .inl fX))] H := hP
            have hD : va_D A [(m0, .inr (8, [.ref mH, .int aM, .long aC, .int mM, .long mQ, .int oV, .int pL, .int lI, .int sW, .int dP, .int sT, .long aT, .int cH, .int iW, .ref mI, .ref mJ, .ref mS, .ref mD, .int iH, .int aE, .int mN, .long sZ, .ref mX, .int tS, .int va, .int tA, .ref mA, .ref mB, .ref mW, .ref mL, .int lS])), (mX, .inl (cB, 2000, .inl fX))] := hD
            refine lv_lload hx hb dX8_figures_88 (lv_at hl 0 rfl) ?_
            refine kLret (u := (va, tA)) hx hb hr hlocks hS dX8_figures_90 ?_ (hP.sub [0, 1] rfl) (hD.sub [0, 1] (by decide) rfl)
            obtain ⟨g, g1, g2, g3, g4⟩ := hj
            try dsimp only
            first | exact ⟨by omega, by omega, Or.inl ⟨rfl, by omega, by omega⟩⟩ | exact ⟨by omega, by omega, Or.inr (by omega)⟩
        · have t_34_2 := c_34_2
          try simp only [kb_eq0, kb_ne0, lg_cmp_lt, lg_cmp_le, lg_cmp_gt, lg_cmp_ge, lg_cmp_eq] at t_34_2
          try simp only [Int32.lt_iff_toInt_lt, Int32.le_iff_toInt_le, ← Int32.toInt_inj, Int64.lt_iff_toInt_lt, Int64.le_iff_toInt_le, ← Int64.toInt_inj, Int32.toInt_toInt64, Int32.reduceToInt, Int64.reduceToInt] at t_34_2
          obtain ⟨g, g1, g2, g3, g4⟩ := hj
          have g5 := kp_le (g := g) (by omega)
          refine lv_aload_n hx hb dX8_figures_37 rfl (lv_at hl 2 rfl) ?_
          refine kCallI (wr := []) (va_runV (As := []) (rest := []) ⟨hx, hb, hml, hown, hts⟩ (q_isFigure l D cI cL cB cZ cT _ m0 mH mI mJ mS mD mX mA mB mW mL aM aC mM mQ oV pL lI sW dP sT aT cH iW iH aE mN sZ tS va tW lS fX (by omega) (by omega)) (cwV 0 hts gX8_figures_X8_isFigure rfl rfl rfl (by decide +kernel) ⟨Nat.le_of_ble_eq_true rfl, Nat.le_of_ble_eq_true rfl⟩) (kPreV hG hP hD [0, 1] rfl (by decide) 0 8 rfl rfl rfl) rfl rfl hl.1 rfl (lv_room (Nat.le_of_ble_eq_true rfl)) dX8_figures_38 ⟨Nat.le_of_ble_eq_true rfl, Nat.le_of_ble_eq_true rfl⟩) hA hP hD hS [0, 1] [] rfl rfl (by decide) (by decide) (fun r_5 u_r_5 H locs wr_5 hP hD hS => ?_)
          have hP : va_P D vwCl [(m0, .inr (8, [.ref mH, .int aM, .long aC, .int mM, .long mQ, .int oV, .int pL, .int lI, .int sW, .int dP, .int sT, .long aT, .int cH, .int iW, .ref mI, .ref mJ, .ref mS, .ref mD, .int iH, .int aE, .int mN, .long sZ, .ref mX, .int tS, .int va, .int tW, .ref mA, .ref mB, .ref mW, .ref mL, .int lS])), (mX, .inl (cB, 2000, .inl fX))] H := hP
          have hD : va_D A [(m0, .inr (8, [.ref mH, .int aM, .long aC, .int mM, .long mQ, .int oV, .int pL, .int lI, .int sW, .int dP, .int sT, .long aT, .int cH, .int iW, .ref mI, .ref mJ, .ref mS, .ref mD, .int iH, .int aE, .int mN, .long sZ, .ref mX, .int tS, .int va, .int tW, .ref mA, .ref mB, .ref mW, .ref mL, .int lS])), (mX, .inl (cB, 2000, .inl fX))] := hD
          try dsimp only at wr_5
          subst wr_5
          refine lv_if_eq (tgt := 75) hx hb dX8_figures_41 (by decide) (fun c_41_5 => ?_) (fun c_41_5 => ?_)
          · have t_41_5 := c_41_5
            try simp only [kb_eq0, kb_ne0, lg_cmp_lt, lg_cmp_le, lg_cmp_gt, lg_cmp_ge, lg_cmp_eq] at t_41_5
            try simp only [Int32.lt_iff_toInt_lt, Int32.le_iff_toInt_le, ← Int32.toInt_inj, Int64.lt_iff_toInt_lt, Int64.le_iff_toInt_le, ← Int64.toInt_inj, Int32.toInt_toInt64, Int32.reduceToInt, Int64.reduceToInt] at t_41_5
            refine lv_lload hx hb dX8_figures_75 (lv_at hl 0 rfl) ?_
            refine lv_lload_n hx hb dX8_figures_77 rfl (lv_at hl 4 rfl) ?_
            refine W.lcmp hx hb dX8_figures_78 ?_
            refine lv_if_lt (tgt := 88) hx hb dX8_figures_79 (by decide) (fun c_79_6 => ?_) (fun c_79_6 => ?_)
            · have t_79_6 := c_79_6
              try simp only [kb_eq0, kb_ne0, lg_cmp_lt, lg_cmp_le, lg_cmp_gt, lg_cmp_ge, lg_cmp_eq] at t_79_6
              try simp only [Int32.lt_iff_toInt_lt, Int32.le_iff_toInt_le, ← Int32.toInt_inj, Int64.lt_iff_toInt_lt, Int64.le_iff_toInt_le, ← Int64.toInt_inj, Int32.toInt_toInt64, Int32.reduceToInt, Int64.reduceToInt] at t_79_6
              refine lv_lload hx hb dX8_figures_88 (lv_at hl 0 rfl) ?_
              refine kLret (u := (va, tW)) hx hb hr hlocks hS dX8_figures_90 ?_ (hP.sub [0, 1] rfl) (hD.sub [0, 1] (by decide) rfl)
              obtain ⟨g, g1, g2, g3, g4⟩ := hj
              try dsimp only
              first | exact ⟨by omega, by omega, Or.inl ⟨rfl, by omega, by omega⟩⟩ | exact ⟨by omega, by omega, Or.inr (by omega)⟩
            · have t_79_6 := c_79_6
              try simp only [kb_eq0, kb_ne0, lg_cmp_lt, lg_cmp_le, lg_cmp_gt, lg_cmp_ge, lg_cmp_eq] at t_79_6
              try simp only [Int32.lt_iff_toInt_lt, Int32.le_iff_toInt_le, ← Int32.toInt_inj, Int64.lt_iff_toInt_lt, Int64.le_iff_toInt_le, ← Int64.toInt_inj, Int32.toInt_toInt64, Int32.reduceToInt, Int64.reduceToInt] at t_79_6
              refine lv_aload_n hx hb dX8_figures_82 rfl (lv_at hl 2 rfl) ?_
              refine lv_iload hx hb dX8_figures_83 (lv_at hl 1 rfl) ?_
              refine va_put (D := D) (ci := 8) (v := .int tA) (ty := .int) (C := RX8) (T := TX8) (N := 31) hx hb hts iX8_figures_X8 tyX8 tyX8_ok nmX8 hown hK hP hD hS 0 rfl rfl 25 (by decide) (hts (.fieldLink RX8 259 "TapeCalculatorModel" "wrong" "I") (List.mem_of_getElem? (i := 2) rfl)) (fun _ h9 => h9) rfl (by decide +kernel) rfl rfl (Nat.le_of_ble_eq_true rfl) dX8_figures_85 (fun H locs hP hD hS => ?_)
              have hP : va_P D vwCl [(m0, .inr (8, [.ref mH, .int aM, .long aC, .int mM, .long mQ, .int oV, .int pL, .int lI, .int sW, .int dP, .int sT, .long aT, .int cH, .int iW, .ref mI, .ref mJ, .ref mS, .ref mD, .int iH, .int aE, .int mN, .long sZ, .ref mX, .int tS, .int va, .int tA, .ref mA, .ref mB, .ref mW, .ref mL, .int lS])), (mX, .inl (cB, 2000, .inl fX))] H := hP
              have hD : va_D A [(m0, .inr (8, [.ref mH, .int aM, .long aC, .int mM, .long mQ, .int oV, .int pL, .int lI, .int sW, .int dP, .int sT, .long aT, .int cH, .int iW, .ref mI, .ref mJ, .ref mS, .ref mD, .int iH, .int aE, .int mN, .long sZ, .ref mX, .int tS, .int va, .int tA, .ref mA, .ref mB, .ref mW, .ref mL, .int lS])), (mX, .inl (cB, 2000, .inl fX))] := hD
              refine lv_lload hx hb dX8_figures_88 (lv_at hl 0 rfl) ?_
              refine kLret (u := (va, tA)) hx hb hr hlocks hS dX8_figures_90 ?_ (hP.sub [0, 1] rfl) (hD.sub [0, 1] (by decide) rfl)
              obtain ⟨g, g1, g2, g3, g4⟩ := hj
              try dsimp only
              first | exact ⟨by omega, by omega, Or.inl ⟨rfl, by omega, by omega⟩⟩ | exact ⟨by omega, by omega, Or.inr (by omega)⟩
          · have t_41_5 := c_41_5
            try simp only [kb_eq0, kb_ne0, lg_cmp_lt, lg_cmp_le, lg_cmp_gt, lg_cmp_ge, lg_cmp_eq] at t_41_5
            try simp only [Int32.lt_iff_toInt_lt, Int32.le_iff_toInt_le, ← Int32.toInt_inj, Int64.lt_iff_toInt_lt, Int64.le_iff_toInt_le, ← Int64.toInt_inj, Int32.toInt_toInt64, Int32.reduceToInt, Int64.reduceToInt] at t_41_5
            refine lv_ldc2 (v := 10) hx hb hown (hts (.constantLong RX8 262 (10)) (List.mem_of_getElem? (i := 3) rfl)) dX8_figures_44 ?_
            refine lv_lload hx hb dX8_figures_47 (lv_at hl 0 rfl) ?_
            refine lv_lmul hx hb dX8_figures_49 ?_
            refine lv_aload_n hx hb dX8_figures_50 rfl (lv_at hl 2 rfl) ?_
            refine kCallI (wr := []) (va_runV (As := []) (rest := [.long (10 * v)]) ⟨hx, hb, hml, hown, hts⟩ (q_here l D cI cL cB cZ cT _ m0 mH mI mJ mS mD mX mA mB mW mL aM aC mM mQ oV pL lI sW dP sT aT cH iW iH aE mN sZ tS va tW lS fX (by omega) (by omega)) (cwV 0 hts gX8_figures_X8_here rfl rfl rfl (by decide +kernel) ⟨Nat.le_of_ble_eq_true rfl, Nat.le_of_ble_eq_true rfl⟩) (kPreV hG hP hD [0, 1] rfl (by decide) 0 8 rfl rfl rfl) rfl rfl hl.1 rfl (lv_room (Nat.le_of_ble_eq_true rfl)) dX8_figures_51 ⟨Nat.le_of_ble_eq_true rfl, Nat.le_of_ble_eq_true rfl⟩) hA hP hD hS [0, 1] [] rfl rfl (by decide) (by decide) (fun r_8 u_r_8 H locs wr_8 hP hD hS => ?_)
            have hP : va_P D vwCl [(m0, .inr (8, [.ref mH, .int aM, .long aC, .int mM, .long mQ, .int oV, .int pL, .int lI, .int sW, .int dP, .int sT, .long aT, .int cH, .int iW, .ref mI, .ref mJ, .ref mS, .ref mD, .int iH, .int aE, .int mN, .long sZ, .ref mX, .int tS, .int va, .int tW, .ref mA, .ref mB, .ref mW, .ref mL, .int lS])), (mX, .inl (cB, 2000, .inl fX))] H := hP
            have hD : va_D A [(m0, .inr (8, [.ref mH, .int aM, .long aC, .int mM, .long mQ, .int oV, .int pL, .int lI, .int sW, .int dP, .int sT, .long aT, .int cH, .int iW, .ref mI, .ref mJ, .ref mS, .ref mD, .int iH, .int aE, .int mN, .long sZ, .ref mX, .int tS, .int va, .int tW, .ref mA, .ref mB, .ref mW, .ref mL, .int lS])), (mX, .inl (cB, 2000, .inl fX))] := hD
            try dsimp only at wr_8
            subst wr_8
            refine lv_i2l hx hb dX8_figures_54 rfl ?_
            refine lv_ladd hx hb dX8_figures_55 ?_
            refine lv_ldc2 (v := 48) hx hb hown (hts (.constantLong RX8 252 (48)) (List.mem_of_getElem? (i := 4) rfl)) dX8_figures_56 ?_
            refine lv_lsub hx hb dX8_figures_59 ?_
            refine lv_topl (fun x_9 ex_9 => ?_)
            refine lv_lstore (lv' := [(5, .long x_9), (4, .int tA), (0, .ref m0), (1, .int mo), (2, .long be)]) hx hb dX8_figures_60 hl (by decide) rfl (fun ls hl => ?_)
            refine lv_aload_n hx hb dX8_figures_62 rfl (lv_at hl 2 rfl) ?_
            refine lv_dup hx hb dX8_figures_63 rfl ?_
            refine va_get (D := D) (ci := 8) (v := .int va) (C := RX8) (T := TX8) (N := 31) hx hb hts iX8_figures_X8 hown hK hP 0 rfl rfl 24 (by decide) (hts (.fieldLink RX8 246 "TapeCalculatorModel" "at" "I") (List.mem_of_getElem? (i := 1) rfl)) (fun _ h9 => h9) rfl dX8_figures_64 ?_
            refine lv_iconst (v := 1) hx hb dX8_figures_67 (by decide) ?_
            refine lv_iadd hx hb dX8_figures_68 ?_
            refine lv_topi (fun x_10 ex_10 => ?_)
            refine va_put (D := D) (ci := 8) (v := .int x_10) (ty := .int) (C := RX8) (T := TX8) (N := 31) hx hb hts iX8_figures_X8 tyX8 tyX8_ok nmX8 hown hK hP hD hS 0 rfl rfl 24 (by decide) (hts (.fieldLink RX8 246 "TapeCalculatorModel" "at" "I") (List.mem_of_getElem? (i := 1) rfl)) (fun _ h9 => h9) rfl (by decide +kernel) rfl rfl (Nat.le_of_ble_eq_true rfl) dX8_figures_69 (fun H locs hP hD hS => ?_)
            have hP : va_P D vwCl [(m0, .inr (8, [.ref mH, .int aM, .long aC, .int mM, .long mQ, .int oV, .int pL, .int lI, .int sW, .int dP, .int sT, .long aT, .int cH, .int iW, .ref mI, .ref mJ, .ref mS, .ref mD, .int iH, .int aE, .int mN, .long sZ, .ref mX, .int tS, .int x_10, .int tW, .ref mA, .ref mB, .ref mW, .ref mL, .int lS])), (mX, .inl (cB, 2000, .inl fX))] H := hP
            have hD : va_D A [(m0, .inr (8, [.ref mH, .int aM, .long aC, .int mM, .long mQ, .int oV, .int pL, .int lI, .int sW, .int dP, .int sT, .long aT, .int cH, .int iW, .ref mI, .ref mJ, .ref mS, .ref mD, .int iH, .int aE, .int mN, .long sZ, .ref mX, .int tS, .int x_10, .int tW, .ref mA, .ref mB, .ref mW, .ref mL, .int lS])), (mX, .inl (cB, 2000, .inl fX))] := hD
            refine lv_goto (tgt := 26) hx hb dX8_figures_72 (by decide) ?_
            have hd := k_addg (a := va) (b := 1) (by omega) (by decide)
            simp only [Int32.reduceToInt] at hd
            rw [← ex_10] at hd
            have hdg := k_dig (v := v) (d := kHere va tS fX) (by omega) (by omega)
            rw [← ex_9] at hdg
            have hkp : kp (g + 1) = 10 * kp g := rfl
            exact ih x_10 x_9 (by omega) ⟨g + 1, by omega, by omega, by omega, by omega⟩ _ _ (hP.sub [0, 1] rfl) (hD.sub [0, 1] (by decide) rfl) hS ls (lv_sub hl [0, 1, 2, 3, 4] rfl)
    have hz0 : (0 : Int64).toInt = 0 := by decide
    exact J26 _ tA 0 (Nat.lt_succ_self _) ⟨0, by omega, by omega, by omega, by show (0 : Int64).toInt < 1; decide⟩ _ _ (hP.sub [0, 1] rfl) (hD.sub [0, 1] (by decide) rfl) hS ls (lv_sub hl [0, 1, 2, 3, 4] rfl)
  · have t_10_1 := c_10_1
    try simp only [kb_eq0, kb_ne0, lg_cmp_lt, lg_cmp_le, lg_cmp_gt, lg_cmp_ge, lg_cmp_eq] at t_10_1
    try simp only [Int32.lt_iff_toInt_lt, Int32.le_iff_toInt_le, ← Int32.toInt_inj, Int64.lt_iff_toInt_lt, Int64.le_iff_toInt_le, ← Int64.toInt_inj, Int32.toInt_toInt64, Int32.reduceToInt, Int64.reduceToInt] at t_10_1
    refine lv_aload_n hx hb dX8_figures_13 rfl (lv_at hl 1 rfl) ?_
    refine lv_aload_n hx hb dX8_figures_14 rfl (lv_at hl 1 rfl) ?_
    refine va_get (D := D) (ci := 8) (v := .int tA) (C := RX8) (T := TX8) (N := 31) hx hb hts iX8_figures_X8 hown hK hP 0 rfl rfl 24 (by decide) (hts (.fieldLink RX8 246 "TapeCalculatorModel" "at" "I") (List.mem_of_getElem? (i := 1) rfl)) (fun _ h9 => h9) rfl dX8_figures_15 ?_
    refine va_put (D := D) (ci := 8) (v := .int tA) (ty := .int) (C := RX8) (T := TX8) (N := 31) hx hb hts iX8_figures_X8 tyX8 tyX8_ok nmX8 hown hK hP hD hS 0 rfl rfl 25 (by decide) (hts (.fieldLink RX8 259 "TapeCalculatorModel" "wrong" "I") (List.mem_of_getElem? (i := 2) rfl)) (fun _ h9 => h9) rfl (by decide +kernel) rfl rfl (Nat.le_of_ble_eq_true rfl) dX8_figures_18 (fun H locs hP hD hS => ?_)
    have hP : va_P D vwCl [(m0, .inr (8, [.ref mH, .int aM, .long aC, .int mM, .long mQ, .int oV, .int pL, .int lI, .int sW, .int dP, .int sT, .long aT, .int cH, .int iW, .ref mI, .ref mJ, .ref mS, .ref mD, .int iH, .int aE, .int mN, .long sZ, .ref mX, .int tS, .int tA, .int tA, .ref mA, .ref mB, .ref mW, .ref mL, .int lS])), (mX, .inl (cB, 2000, .inl fX))] H := hP
    have hD : va_D A [(m0, .inr (8, [.ref mH, .int aM, .long aC, .int mM, .long mQ, .int oV, .int pL, .int lI, .int sW, .int dP, .int sT, .long aT, .int cH, .int iW, .ref mI, .ref mJ, .ref mS, .ref mD, .int iH, .int aE, .int mN, .long sZ, .ref mX, .int tS, .int tA, .int tA, .ref mA, .ref mB, .ref mW, .ref mL, .int lS])), (mX, .inl (cB, 2000, .inl fX))] := hD
    refine lv_lconst (v := 0) hx hb dX8_figures_21 (by decide) ?_
    refine kLret (u := (tA, tA)) hx hb hr hlocks hS dX8_figures_22 ?_ (hP.sub [0, 1] rfl) (hD.sub [0, 1] (by decide) rfl)
    try dsimp only
    refine ⟨by omega, by omega, Or.inr (by omega)⟩
set_option maxRecDepth 100000 in
theorem iX8_sign_X8 : ∀ w ∈ wsX80, w ∈ wsX8_sign := fun w h => (goodIn_r (big := wsX8_sign) wsX80 [10, 11, 12, 13, 14, 15, 16, 17, 18, 19, 20, 21, 22, 23, 24, 25, 26, 27, 28, 29, 30, 31, 32, 33, 34, 35, 36, 37, 38, 39, 40] rfl (by decide +kernel) w h).1
set_option maxRecDepth 100000 in
set_option maxHeartbeats 4000000 in
theorem q_sign (l : Launch) (D : va_G) (cI cL cB cZ cT : ClassId) (sz : Nat) (m0 mH mI mJ mS mD mX mA mB mW mL : Nat) (aM : Int32) (aC : Int64) (mM : Int32) (mQ : Int64) (oV pL lI sW dP sT : Int32) (aT : Int64) (cH iW iH aE mN : Int32) (sZ : Int64) (tS tA tW lS : Int32) (fX : Nat → Int32) (hta : 0 ≤ tA.toInt ∧ tA.toInt ≤ 100000) (hts2 : tS.toInt ≤ 2000) : kM (S := (Int32 × Int32)) l yX8_sign wsX8_sign ({ frames := 1, cells := 0, slots := 0, locals := 20 }) D (kT cI cL cB cZ cT) [.ref m0] [(m0, .inr (8, [.ref mH, .int aM, .long aC, .int mM, .long mQ, .int oV, .int pL, .int lI, .int sW, .int dP, .int sT, .long aT, .int cH, .int iW, .ref mI, .ref mJ, .ref mS, .ref mD, .int iH, .int aE, .int mN, .long sZ, .ref mX, .int tS, .int tA, .int tW, .ref mA, .ref mB, .ref mW, .ref mL, .int lS])), (mX, .inl (cB, 2000, .inl fX))] sz eI (fun r u => (r.toInt = 0 ∨ r.toInt = 1) ∧ tA.toInt ≤ ((u.1)).toInt ∧ ((u.1)).toInt ≤ tA.toInt + 1 ∧ (((u.2)).toInt = tW.toInt ∨ 0 ≤ ((u.2)).toInt)) (fun u => [(m0, .inr (8, [.ref mH, .int aM, .long aC, .int mM, .long mQ, .int oV, .int pL, .int lI, .int sW, .int dP, .int sT, .long aT, .int cH, .int iW, .ref mI, .ref mJ, .ref mS, .ref mD, .int iH, .int aE, .int mN, .long sZ, .ref mX, .int tS, .int u.1, .int u.2, .ref mA, .ref mB, .ref mW, .ref mL, .int lS])), (mX, .inl (cB, 2000, .inl fX))]) 0 0 := by
  refine kStart (cc := cX8_sign) (maxL := 2) (ret := (some .boolean)) (own := RX8) (by decide) rfl rfl (Nat.le_of_ble_eq_true rfl) ?_
  intro p e s m args below meth c A ls hx hb hr hml hown hts hlocks hnm hsz hA hG hP hD hS hl
  have hK := hG.1
  have hl : lv_has ls 2 [(0, .ref m0)] := hl
  have hd := k_addg (a := tA) (b := 1) (by omega) (by decide)
  simp only [Int32.reduceToInt] at hd
  refine lv_aload_n hx hb dX8_sign_0 rfl (lv_at hl 0 rfl) ?_
  refine kCallI (wr := []) (va_runV (As := []) (rest := []) ⟨hx, hb, hml, hown, hts⟩ (q_here l D cI cL cB cZ cT _ m0 mH mI mJ mS mD mX mA mB mW mL aM aC mM mQ oV pL lI sW dP sT aT cH iW iH aE mN sZ tS tA tW lS fX (by omega) (by omega)) (cwV 0 hts gX8_sign_X8_here rfl rfl rfl (by decide +kernel) ⟨Nat.le_of_ble_eq_true rfl, Nat.le_of_ble_eq_true rfl⟩) (kPreV hG hP hD [0, 1] rfl (by decide) 0 8 rfl rfl rfl) rfl rfl hl.1 rfl (lv_room (Nat.le_of_ble_eq_true rfl)) dX8_sign_1 ⟨Nat.le_of_ble_eq_true rfl, Nat.le_of_ble_eq_true rfl⟩) hA hP hD hS [0, 1] [] rfl rfl (by decide) (by decide) (fun r_1 u_r_1 H locs wr_1 hP hD hS => ?_)
  have hP : va_P D vwCl [(m0, .inr (8, [.ref mH, .int aM, .long aC, .int mM, .long mQ, .int oV, .int pL, .int lI, .int sW, .int dP, .int sT, .long aT, .int cH, .int iW, .ref mI, .ref mJ, .ref mS, .ref mD, .int iH, .int aE, .int mN, .long sZ, .ref mX, .int tS, .int tA, .int tW, .ref mA, .ref mB, .ref mW, .ref mL, .int lS])), (mX, .inl (cB, 2000, .inl fX))] H := hP
  have hD : va_D A [(m0, .inr (8, [.ref mH, .int aM, .long aC, .int mM, .long mQ, .int oV, .int pL, .int lI, .int sW, .int dP, .int sT, .long aT, .int cH, .int iW, .ref mI, .ref mJ, .ref mS, .ref mD, .int iH, .int aE, .int mN, .long sZ, .ref mX, .int tS, .int tA, .int tW, .ref mA, .ref mB, .ref mW, .ref mL, .int lS])), (mX, .inl (cB, 2000, .inl fX))] := hD
  try dsimp only at wr_1
  subst wr_1
  refine lv_bipush (v := 45) hx hb dX8_sign_4 (by decide) ?_
  refine lv_icmp_ne (tgt := 13) hx hb dX8_sign_6 (by decide) (fun c_6_1 => ?_) (fun c_6_1 => ?_)
  · have t_6_1 := c_6_1
    try simp only [kb_eq0, kb_ne0, lg_cmp_lt, lg_cmp_le, lg_cmp_gt, lg_cmp_ge, lg_cmp_eq] at t_6_1
    try simp only [Int32.lt_iff_toInt_lt, Int32.le_iff_toInt_le, ← Int32.toInt_inj, Int64.lt_iff_toInt_lt, Int64.le_iff_toInt_le, ← Int64.toInt_inj, Int32.toInt_toInt64, Int32.reduceToInt, Int64.reduceToInt] at t_6_1
    refine lv_iconst (v := 0) hx hb dX8_sign_13 (by decide) ?_
    refine lv_istore_n (lv' := [(1, .int 0), (0, .ref m0)]) hx hb dX8_sign_14 rfl hl (by decide) rfl (fun ls hl => ?_)
    refine lv_iload_n hx hb dX8_sign_15 rfl (lv_at hl 0 rfl) ?_
    refine lv_if_ne (tgt := 39) hx hb dX8_sign_16 (by decide) (fun c_16_2 => ?_) (fun c_16_2 => ?_)
    · exact absurd (by decide) c_16_2
    · have t_16_2 := c_16_2
      try simp only [kb_eq0, kb_ne0, lg_cmp_lt, lg_cmp_le, lg_cmp_gt, lg_cmp_ge, lg_cmp_eq] at t_16_2
      try simp only [Int32.lt_iff_toInt_lt, Int32.le_iff_toInt_le, ← Int32.toInt_inj, Int64.lt_iff_toInt_lt, Int64.le_iff_toInt_le, ← Int64.toInt_inj, Int32.toInt_toInt64, Int32.reduceToInt, Int64.reduceToInt] at t_16_2
      refine lv_aload_n hx hb dX8_sign_19 rfl (lv_at hl 1 rfl) ?_
      refine kCallI (wr := []) (va_runV (As := []) (rest := []) ⟨hx, hb, hml, hown, hts⟩ (q_here l D cI cL cB cZ cT _ m0 mH mI mJ mS mD mX mA mB mW mL aM aC mM mQ oV pL lI sW dP sT aT cH iW iH aE mN sZ tS tA tW lS fX (by omega) (by omega)) (cwV 0 hts gX8_sign_X8_here rfl rfl rfl (by decide +kernel) ⟨Nat.le_of_ble_eq_true rfl, Nat.le_of_ble_eq_true rfl⟩) (kPreV hG hP hD [0, 1] rfl (by decide) 0 8 rfl rfl rfl) rfl rfl hl.1 rfl (lv_room (Nat.le_of_ble_eq_true rfl)) dX8_sign_20 ⟨Nat.le_of_ble_eq_true rfl, Nat.le_of_ble_eq_true rfl⟩) hA hP hD hS [0, 1] [] rfl rfl (by decide) (by decide) (fun r_4 u_r_4 H locs wr_4 hP hD hS => ?_)
      have hP : va_P D vwCl [(m0, .inr (8, [.ref mH, .int aM, .long aC, .int mM, .long mQ, .int oV, .int pL, .int lI, .int sW, .int dP, .int sT, .long aT, .int cH, .int iW, .ref mI, .ref mJ, .ref mS, .ref mD, .int iH, .int aE, .int mN, .long sZ, .ref mX, .int tS, .int tA, .int tW, .ref mA, .ref mB, .ref mW, .ref mL, .int lS])), (mX, .inl (cB, 2000, .inl fX))] H := hP
      have hD : va_D A [(m0, .inr (8, [.ref mH, .int aM, .long aC, .int mM, .long mQ, .int oV, .int pL, .int lI, .int sW, .int dP, .int sT, .long aT, .int cH, .int iW, .ref mI, .ref mJ, .ref mS, .ref mD, .int iH, .int aE, .int mN, .long sZ, .ref mX, .int tS, .int tA, .int tW, .ref mA, .ref mB, .ref mW, .ref mL, .int lS])), (mX, .inl (cB, 2000, .inl fX))] := hD
      try dsimp only at wr_4
      subst wr_4
      refine lv_bipush (v := 43) hx hb dX8_sign_23 (by decide) ?_
      refine lv_icmp_eq (tgt := 39) hx hb dX8_sign_25 (by decide) (fun c_25_4 => ?_) (fun c_25_4 => ?_)
      · have t_25_4 := c_25_4
        try simp only [kb_eq0, kb_ne0, lg_cmp_lt, lg_cmp_le, lg_cmp_gt, lg_cmp_ge, lg_cmp_eq] at t_25_4
        try simp only [Int32.lt_iff_toInt_lt, Int32.le_iff_toInt_le, ← Int32.toInt_inj, Int64.lt_iff_toInt_lt, Int64.le_iff_toInt_le, ← Int64.toInt_inj, Int32.toInt_toInt64, Int32.reduceToInt, Int64.reduceToInt] at t_25_4
        refine lv_aload_n hx hb dX8_sign_39 rfl (lv_at hl 1 rfl) ?_
        refine lv_dup hx hb dX8_sign_40 rfl ?_
        refine va_get (D := D) (ci := 8) (v := .int tA) (C := RX8) (T := TX8) (N := 31) hx hb hts iX8_sign_X8 hown hK hP 0 rfl rfl 24 (by decide) (hts (.fieldLink RX8 246 "TapeCalculatorModel" "at" "I") (List.mem_of_getElem? (i := 1) rfl)) (fun _ h9 => h9) rfl dX8_sign_41 ?_
        refine lv_iconst (v := 1) hx hb dX8_sign_44 (by decide) ?_
        refine lv_iadd hx hb dX8_sign_45 ?_
        refine lv_topi (fun x_6 ex_6 => ?_)
        refine va_put (D := D) (ci := 8) (v := .int x_6) (ty := .int) (C := RX8) (T := TX8) (N := 31) hx hb hts iX8_sign_X8 tyX8 tyX8_ok nmX8 hown hK hP hD hS 0 rfl rfl 24 (by decide) (hts (.fieldLink RX8 246 "TapeCalculatorModel" "at" "I") (List.mem_of_getElem? (i := 1) rfl)) (fun _ h9 => h9) rfl (by decide +kernel) rfl rfl (Nat.le_of_ble_eq_true rfl) dX8_sign_46 (fun H locs hP hD hS => ?_)
        have hP : va_P D vwCl [(m0, .inr (8, [.ref mH, .int aM, .long aC, .int mM, .long mQ, .int oV, .int pL, .int lI, .int sW, .int dP, .int sT, .long aT, .int cH, .int iW, .ref mI, .ref mJ, .ref mS, .ref mD, .int iH, .int aE, .int mN, .long sZ, .ref mX, .int tS, .int x_6, .int tW, .ref mA, .ref mB, .ref mW, .ref mL, .int lS])), (mX, .inl (cB, 2000, .inl fX))] H := hP
        have hD : va_D A [(m0, .inr (8, [.ref mH, .int aM, .long aC, .int mM, .long mQ, .int oV, .int pL, .int lI, .int sW, .int dP, .int sT, .long aT, .int cH, .int iW, .ref mI, .ref mJ, .ref mS, .ref mD, .int iH, .int aE, .int mN, .long sZ, .ref mX, .int tS, .int x_6, .int tW, .ref mA, .ref mB, .ref mW, .ref mL, .int lS])), (mX, .inl (cB, 2000, .inl fX))] := hD
        refine lv_iload_n hx hb dX8_sign_49 rfl (lv_at hl 0 rfl) ?_
        refine kIret (u := (x_6, tW)) hx hb hr rfl hlocks hS dX8_sign_50 ?_ (hP.sub [0, 1] rfl) (hD.sub [0, 1] (by decide) rfl)
        try rw [← ex_6] at hd
        try dsimp only
        try simp only [Int32.reduceToInt]
        first | exact ⟨by omega, by omega, Or.inl rfl⟩ | exact ⟨by omega, by omega, Or.inr (by omega)⟩ | exact ⟨by omega, by omega, by omega, Or.inl rfl⟩ | exact ⟨by omega, by omega, by omega, Or.inr (by omega)⟩
      · have t_25_4 := c_25_4
        try simp only [kb_eq0, kb_ne0, lg_cmp_lt, lg_cmp_le, lg_cmp_gt, lg_cmp_ge, lg_cmp_eq] at t_25_4
        try simp only [Int32.lt_iff_toInt_lt, Int32.le_iff_toInt_le, ← Int32.toInt_inj, Int64.lt_iff_toInt_lt, Int64.le_iff_toInt_le, ← Int64.toInt_inj, Int32.toInt_toInt64, Int32.reduceToInt, Int64.reduceToInt] at t_25_4
        refine lv_aload_n hx hb dX8_sign_28 rfl (lv_at hl 1 rfl) ?_
        refine lv_aload_n hx hb dX8_sign_29 rfl (lv_at hl 1 rfl) ?_
        refine va_get (D := D) (ci := 8) (v := .int tA) (C := RX8) (T := TX8) (N := 31) hx hb hts iX8_sign_X8 hown hK hP 0 rfl rfl 24 (by decide) (hts (.fieldLink RX8 246 "TapeCalculatorModel" "at" "I") (List.mem_of_getElem? (i := 1) rfl)) (fun _ h9 => h9) rfl dX8_sign_30 ?_
        refine va_put (D := D) (ci := 8) (v := .int tA) (ty := .int) (C := RX8) (T := TX8) (N := 31) hx hb hts iX8_sign_X8 tyX8 tyX8_ok nmX8 hown hK hP hD hS 0 rfl rfl 25 (by decide) (hts (.fieldLink RX8 259 "TapeCalculatorModel" "wrong" "I") (List.mem_of_getElem? (i := 2) rfl)) (fun _ h9 => h9) rfl (by decide +kernel) rfl rfl (Nat.le_of_ble_eq_true rfl) dX8_sign_33 (fun H locs hP hD hS => ?_)
        have hP : va_P D vwCl [(m0, .inr (8, [.ref mH, .int aM, .long aC, .int mM, .long mQ, .int oV, .int pL, .int lI, .int sW, .int dP, .int sT, .long aT, .int cH, .int iW, .ref mI, .ref mJ, .ref mS, .ref mD, .int iH, .int aE, .int mN, .long sZ, .ref mX, .int tS, .int tA, .int tA, .ref mA, .ref mB, .ref mW, .ref mL, .int lS])), (mX, .inl (cB, 2000, .inl fX))] H := hP
        have hD : va_D A [(m0, .inr (8, [.ref mH, .int aM, .long aC, .int mM, .long mQ, .int oV, .int pL, .int lI, .int sW, .int dP, .int sT, .long aT, .int cH, .int iW, .ref mI, .ref mJ, .ref mS, .ref mD, .int iH, .int aE, .int mN, .long sZ, .ref mX, .int tS, .int tA, .int tA, .ref mA, .ref mB, .ref mW, .ref mL, .int lS])), (mX, .inl (cB, 2000, .inl fX))] := hD
        refine lv_goto (tgt := 49) hx hb dX8_sign_36 (by decide) ?_
        refine lv_iload_n hx hb dX8_sign_49 rfl (lv_at hl 0 rfl) ?_
        refine kIret (u := (tA, tA)) hx hb hr rfl hlocks hS dX8_sign_50 ?_ (hP.sub [0, 1] rfl) (hD.sub [0, 1] (by decide) rfl)
        try dsimp only
        try simp only [Int32.reduceToInt]
        first | exact ⟨by omega, by omega, Or.inl rfl⟩ | exact ⟨by omega, by omega, Or.inr (by omega)⟩ | exact ⟨by omega, by omega, by omega, Or.inl rfl⟩ | exact ⟨by omega, by omega, by omega, Or.inr (by omega)⟩
  · have t_6_1 := c_6_1
    try simp only [kb_eq0, kb_ne0, lg_cmp_lt, lg_cmp_le, lg_cmp_gt, lg_cmp_ge, lg_cmp_eq] at t_6_1
    try simp only [Int32.lt_iff_toInt_lt, Int32.le_iff_toInt_le, ← Int32.toInt_inj, Int64.lt_iff_toInt_lt, Int64.le_iff_toInt_le, ← Int64.toInt_inj, Int32.toInt_toInt64, Int32.reduceToInt, Int64.reduceToInt] at t_6_1
    refine lv_iconst (v := 1) hx hb dX8_sign_9 (by decide) ?_
    refine lv_goto (tgt := 14) hx hb dX8_sign_10 (by decide) ?_
    refine lv_istore_n (lv' := [(1, .int 1), (0, .ref m0)]) hx hb dX8_sign_14 rfl hl (by decide) rfl (fun ls hl => ?_)
    refine lv_iload_n hx hb dX8_sign_15 rfl (lv_at hl 0 rfl) ?_
    refine lv_if_ne (tgt := 39) hx hb dX8_sign_16 (by decide) (fun c_16_6 => ?_) (fun c_16_6 => ?_)
    · have t_16_6 := c_16_6
      try simp only [kb_eq0, kb_ne0, lg_cmp_lt, lg_cmp_le, lg_cmp_gt, lg_cmp_ge, lg_cmp_eq] at t_16_6
      try simp only [Int32.lt_iff_toInt_lt, Int32.le_iff_toInt_le, ← Int32.toInt_inj, Int64.lt_iff_toInt_lt, Int64.le_iff_toInt_le, ← Int64.toInt_inj, Int32.toInt_toInt64, Int32.reduceToInt, Int64.reduceToInt] at t_16_6
      refine lv_aload_n hx hb dX8_sign_39 rfl (lv_at hl 1 rfl) ?_
      refine lv_dup hx hb dX8_sign_40 rfl ?_
      refine va_get (D := D) (ci := 8) (v := .int tA) (C := RX8) (T := TX8) (N := 31) hx hb hts iX8_sign_X8 hown hK hP 0 rfl rfl 24 (by decide) (hts (.fieldLink RX8 246 "TapeCalculatorModel" "at" "I") (List.mem_of_getElem? (i := 1) rfl)) (fun _ h9 => h9) rfl dX8_sign_41 ?_
      refine lv_iconst (v := 1) hx hb dX8_sign_44 (by decide) ?_
      refine lv_iadd hx hb dX8_sign_45 ?_
      refine lv_topi (fun x_8 ex_8 => ?_)
      refine va_put (D := D) (ci := 8) (v := .int x_8) (ty := .int) (C := RX8) (T := TX8) (N := 31) hx hb hts iX8_sign_X8 tyX8 tyX8_ok nmX8 hown hK hP hD hS 0 rfl rfl 24 (by decide) (hts (.fieldLink RX8 246 "TapeCalculatorModel" "at" "I") (List.mem_of_getElem? (i := 1) rfl)) (fun _ h9 => h9) rfl (by decide +kernel) rfl rfl (Nat.le_of_ble_eq_true rfl) dX8_sign_46 (fun H locs hP hD hS => ?_)
      have hP : va_P D vwCl [(m0, .inr (8, [.ref mH, .int aM, .long aC, .int mM, .long mQ, .int oV, .int pL, .int lI, .int sW, .int dP, .int sT, .long aT, .int cH, .int iW, .ref mI, .ref mJ, .ref mS, .ref mD, .int iH, .int aE, .int mN, .long sZ, .ref mX, .int tS, .int x_8, .int tW, .ref mA, .ref mB, .ref mW, .ref mL, .int lS])), (mX, .inl (cB, 2000, .inl fX))] H := hP
      have hD : va_D A [(m0, .inr (8, [.ref mH, .int aM, .long aC, .int mM, .long mQ, .int oV, .int pL, .int lI, .int sW, .int dP, .int sT, .long aT, .int cH, .int iW, .ref mI, .ref mJ, .ref mS, .ref mD, .int iH, .int aE, .int mN, .long sZ, .ref mX, .int tS, .int x_8, .int tW, .ref mA, .ref mB, .ref mW, .ref mL, .int lS])), (mX, .inl (cB, 2000, .inl fX))] := hD
      refine lv_iload_n hx hb dX8_sign_49 rfl (lv_at hl 0 rfl) ?_
      refine kIret (u := (x_8, tW)) hx hb hr rfl hlocks hS dX8_sign_50 ?_ (hP.sub [0, 1] rfl) (hD.sub [0, 1] (by decide) rfl)
      try rw [← ex_8] at hd
      try dsimp only
      try simp only [Int32.reduceToInt]
      first | exact ⟨by omega, by omega, Or.inl rfl⟩ | exact ⟨by omega, by omega, Or.inr (by omega)⟩ | exact ⟨by omega, by omega, by omega, Or.inl rfl⟩ | exact ⟨by omega, by omega, by omega, Or.inr (by omega)⟩
    · exact absurd c_16_6 (by decide)
set_option maxRecDepth 100000 in
theorem iX8_expect_X8 : ∀ w ∈ wsX80, w ∈ wsX8_expect := fun w h => (goodIn_r (big := wsX8_expect) wsX80 [10, 11, 12, 13, 14, 15, 16, 17, 18, 19, 20, 21, 22, 23, 24, 25, 26, 27, 28, 29, 30, 31, 32, 33, 34, 35, 36, 37, 38, 39, 40] rfl (by decide +kernel) w h).1
set_option maxRecDepth 100000 in
set_option maxHeartbeats 4000000 in
theorem q_expect (l : Launch) (D : va_G) (cI cL cB cZ cT : ClassId) (sz : Nat) (m0 mH mI mJ mS mD mX mA mB mW mL : Nat) (aM : Int32) (aC : Int64) (mM : Int32) (mQ : Int64) (oV pL lI sW dP sT : Int32) (aT : Int64) (cH iW iH aE mN : Int32) (sZ : Int64) (tS tA tW lS : Int32) (fX : Nat → Int32) (b : Int32) (hta : 0 ≤ tA.toInt ∧ tA.toInt ≤ 100000) (hts2 : tS.toInt ≤ 2000) : kM (S := (Int32 × Int32)) l yX8_expect wsX8_expect ({ frames := 1, cells := 0, slots := 0, locals := 20 }) D (kT cI cL cB cZ cT) [.ref m0, .int b] [(m0, .inr (8, [.ref mH, .int aM, .long aC, .int mM, .long mQ, .int oV, .int pL, .int lI, .int sW, .int dP, .int sT, .long aT, .int cH, .int iW, .ref mI, .ref mJ, .ref mS, .ref mD, .int iH, .int aE, .int mN, .long sZ, .ref mX, .int tS, .int tA, .int tW, .ref mA, .ref mB, .ref mW, .ref mL, .int lS])), (mX, .inl (cB, 2000, .inl fX))] sz eV (fun r u => tA.toInt ≤ ((u.1)).toInt ∧ ((u.1)).toInt ≤ tA.toInt + 1 ∧ (((u.2)).toInt = tW.toInt ∨ 0 ≤ ((u.2)).toInt)) (fun u => [(m0, .inr (8, [.ref mH, .int aM, .long aC, .int mM, .long mQ, .int oV, .int pL, .int lI, .int sW, .int dP, .int sT, .long aT, .int cH, .int iW, .ref mI, .ref mJ, .ref mS, .ref mD, .int iH, .int aE, .int mN, .long sZ, .ref mX, .int tS, .int u.1, .int u.2, .ref mA, .ref mB, .ref mW, .ref mL, .int lS])), (mX, .inl (cB, 2000, .inl fX))]) 0 0 := by
  refine kStart (cc := cX8_expect) (maxL := 2) (ret := none) (own := RX8) (by decide) rfl rfl (Nat.le_of_ble_eq_true rfl) ?_
  intro p e s m args below meth c A ls hx hb hr hml hown hts hlocks hnm hsz hA hG hP hD hS hl
  have hK := hG.1
  have hl : lv_has ls 2 [(0, .ref m0), (1, .int b)] := hl
  have hd := k_addg (a := tA) (b := 1) (by omega) (by decide)
  simp only [Int32.reduceToInt] at hd
  refine lv_aload_n hx hb dX8_expect_0 rfl (lv_at hl 0 rfl) ?_
  refine va_get (D := D) (ci := 8) (v := .int tW) (C := RX8) (T := TX8) (N := 31) hx hb hts iX8_expect_X8 hown hK hP 0 rfl rfl 25 (by decide) (hts (.fieldLink RX8 259 "TapeCalculatorModel" "wrong" "I") (List.mem_of_getElem? (i := 1) rfl)) (fun _ h9 => h9) rfl dX8_expect_1 ?_
  refine lv_if_ge (tgt := 36) hx hb dX8_expect_4 (by decide) (fun c_4_0 => ?_) (fun c_4_0 => ?_)
  · have t_4_0 := c_4_0
    try simp only [kb_eq0, kb_ne0, lg_cmp_lt, lg_cmp_le, lg_cmp_gt, lg_cmp_ge, lg_cmp_eq] at t_4_0
    try simp only [Int32.lt_iff_toInt_lt, Int32.le_iff_toInt_le, ← Int32.toInt_inj, Int64.lt_iff_toInt_lt, Int64.le_iff_toInt_le, ← Int64.toInt_inj, Int32.toInt_toInt64, Int32.reduceToInt, Int64.reduceToInt] at t_4_0
    refine kVret (u := (tA, tW)) hx hb hr hlocks hS dX8_expect_36 ?_ (hP.sub [0, 1] rfl) (hD.sub [0, 1] (by decide) rfl)
    try dsimp only
    try simp only [Int32.reduceToInt]
    first | exact ⟨by omega, by omega, Or.inl rfl⟩ | exact ⟨by omega, by omega, Or.inr (by omega)⟩ | exact ⟨by omega, by omega, by omega, Or.inl rfl⟩ | exact ⟨by omega, by omega, by omega, Or.inr (by omega)⟩
  · have t_4_0 := c_4_0
    try simp only [kb_eq0, kb_ne0, lg_cmp_lt, lg_cmp_le, lg_cmp_gt, lg_cmp_ge, lg_cmp_eq] at t_4_0
    try simp only [Int32.lt_iff_toInt_lt, Int32.le_iff_toInt_le, ← Int32.toInt_inj, Int64.lt_iff_toInt_lt, Int64.le_iff_toInt_le, ← Int64.toInt_inj, Int32.toInt_toInt64, Int32.reduceToInt, Int64.reduceToInt] at t_4_0
    refine lv_aload_n hx hb dX8_expect_7 rfl (lv_at hl 0 rfl) ?_
    refine kCallI (wr := []) (va_runV (As := []) (rest := []) ⟨hx, hb, hml, hown, hts⟩ (q_here l D cI cL cB cZ cT _ m0 mH mI mJ mS mD mX mA mB mW mL aM aC mM mQ oV pL lI sW dP sT aT cH iW iH aE mN sZ tS tA tW lS fX (by omega) (by omega)) (cwV 0 hts gX8_expect_X8_here rfl rfl rfl (by decide +kernel) ⟨Nat.le_of_ble_eq_true rfl, Nat.le_of_ble_eq_true rfl⟩) (kPreV hG hP hD [0, 1] rfl (by decide) 0 8 rfl rfl rfl) rfl rfl hl.1 rfl (lv_room (Nat.le_of_ble_eq_true rfl)) dX8_expect_8 ⟨Nat.le_of_ble_eq_true rfl, Nat.le_of_ble_eq_true rfl⟩) hA hP hD hS [0, 1] [] rfl rfl (by decide) (by decide) (fun r_2 u_r_2 H locs wr_2 hP hD hS => ?_)
    have hP : va_P D vwCl [(m0, .inr (8, [.ref mH, .int aM, .long aC, .int mM, .long mQ, .int oV, .int pL, .int lI, .int sW, .int dP, .int sT, .long aT, .int cH, .int iW, .ref mI, .ref mJ, .ref mS, .ref mD, .int iH, .int aE, .int mN, .long sZ, .ref mX, .int tS, .int tA, .int tW, .ref mA, .ref mB, .ref mW, .ref mL, .int lS])), (mX, .inl (cB, 2000, .inl fX))] H := hP
    have hD : va_D A [(m0, .inr (8, [.ref mH, .int aM, .long aC, .int mM, .long mQ, .int oV, .int pL, .int lI, .int sW, .int dP, .int sT, .long aT, .int cH, .int iW, .ref mI, .ref mJ, .ref mS, .ref mD, .int iH, .int aE, .int mN, .long sZ, .ref mX, .int tS, .int tA, .int tW, .ref mA, .ref mB, .ref mW, .ref mL, .int lS])), (mX, .inl (cB, 2000, .inl fX))] := hD
    try dsimp only at wr_2
    subst wr_2
    refine lv_iload_n hx hb dX8_expect_11 rfl (lv_at hl 1 rfl) ?_
    refine lv_icmp_eq (tgt := 26) hx hb dX8_expect_12 (by decide) (fun c_12_2 => ?_) (fun c_12_2 => ?_)
    · have t_12_2 := c_12_2
      try simp only [kb_eq0, kb_ne0, lg_cmp_lt, lg_cmp_le, lg_cmp_gt, lg_cmp_ge, lg_cmp_eq] at t_12_2
      try simp only [Int32.lt_iff_toInt_lt, Int32.le_iff_toInt_le, ← Int32.toInt_inj, Int64.lt_iff_toInt_lt, Int64.le_iff_toInt_le, ← Int64.toInt_inj, Int32.toInt_toInt64, Int32.reduceToInt, Int64.reduceToInt] at t_12_2
      refine lv_aload_n hx hb dX8_expect_26 rfl (lv_at hl 0 rfl) ?_
      refine lv_dup hx hb dX8_expect_27 rfl ?_
      refine va_get (D := D) (ci := 8) (v := .int tA) (C := RX8) (T := TX8) (N := 31) hx hb hts iX8_expect_X8 hown hK hP 0 rfl rfl 24 (by decide) (hts (.fieldLink RX8 246 "TapeCalculatorModel" "at" "I") (List.mem_of_getElem? (i := 2) rfl)) (fun _ h9 => h9) rfl dX8_expect_28 ?_
      refine lv_iconst (v := 1) hx hb dX8_expect_31 (by decide) ?_
      refine lv_iadd hx hb dX8_expect_32 ?_
      refine lv_topi (fun x_4 ex_4 => ?_)
      refine va_put (D := D) (ci := 8) (v := .int x_4) (ty := .int) (C := RX8) (T := TX8) (N := 31) hx hb hts iX8_expect_X8 tyX8 tyX8_ok nmX8 hown hK hP hD hS 0 rfl rfl 24 (by decide) (hts (.fieldLink RX8 246 "TapeCalculatorModel" "at" "I") (List.mem_of_getElem? (i := 2) rfl)) (fun _ h9 => h9) rfl (by decide +kernel) rfl rfl (Nat.le_of_ble_eq_true rfl) dX8_expect_33 (fun H locs hP hD hS => ?_)
      have hP : va_P D vwCl [(m0, .inr (8, [.ref mH, .int aM, .long aC, .int mM, .long mQ, .int oV, .int pL, .int lI, .int sW, .int dP, .int sT, .long aT, .int cH, .int iW, .ref mI, .ref mJ, .ref mS, .ref mD, .int iH, .int aE, .int mN, .long sZ, .ref mX, .int tS, .int x_4, .int tW, .ref mA, .ref mB, .ref mW, .ref mL, .int lS])), (mX, .inl (cB, 2000, .inl fX))] H := hP
      have hD : va_D A [(m0, .inr (8, [.ref mH, .int aM, .long aC, .int mM, .long mQ, .int oV, .int pL, .int lI, .int sW, .int dP, .int sT, .long aT, .int cH, .int iW, .ref mI, .ref mJ, .ref mS, .ref mD, .int iH, .int aE, .int mN, .long sZ, .ref mX, .int tS, .int x_4, .int tW, .ref mA, .ref mB, .ref mW, .ref mL, .int lS])), (mX, .inl (cB, 2000, .inl fX))] := hD
      refine kVret (u := (x_4, tW)) hx hb hr hlocks hS dX8_expect_36 ?_ (hP.sub [0, 1] rfl) (hD.sub [0, 1] (by decide) rfl)
      try rw [← ex_4] at hd
      try dsimp only
      try simp only [Int32.reduceToInt]
      first | exact ⟨by omega, by omega, Or.inl rfl⟩ | exact ⟨by omega, by omega, Or.inr (by omega)⟩ | exact ⟨by omega, by omega, by omega, Or.inl rfl⟩ | exact ⟨by omega, by omega, by omega, Or.inr (by omega)⟩
    · have t_12_2 := c_12_2
      try simp only [kb_eq0, kb_ne0, lg_cmp_lt, lg_cmp_le, lg_cmp_gt, lg_cmp_ge, lg_cmp_eq] at t_12_2
      try simp only [Int32.lt_iff_toInt_lt, Int32.le_iff_toInt_le, ← Int32.toInt_inj, Int64.lt_iff_toInt_lt, Int64.le_iff_toInt_le, ← Int64.toInt_inj, Int32.toInt_toInt64, Int32.reduceToInt, Int64.reduceToInt] at t_12_2
      refine lv_aload_n hx hb dX8_expect_15 rfl (lv_at hl 0 rfl) ?_
      refine lv_aload_n hx hb dX8_expect_16 rfl (lv_at hl 0 rfl) ?_
      refine va_get (D := D) (ci := 8) (v := .int tA) (C := RX8) (T := TX8) (N := 31) hx hb hts iX8_expect_X8 hown hK hP 0 rfl rfl 24 (by decide) (hts (.fieldLink RX8 246 "TapeCalculatorModel" "at" "I") (List.mem_of_getElem? (i := 2) rfl)) (fun _ h9 => h9) rfl dX8_expect_17 ?_
      refine va_put (D := D) (ci := 8) (v := .int tA) (ty := .int) (C := RX8) (T := TX8) (N := 31) hx hb hts iX8_expect_X8 tyX8 tyX8_ok nmX8 hown hK hP hD hS 0 rfl rfl 25 (by decide) (hts (.fieldLink RX8 259 "TapeCalculatorModel" "wrong" "I") (List.mem_of_getElem? (i := 1) rfl)) (fun _ h9 => h9) rfl (by decide +kernel) rfl rfl (Nat.le_of_ble_eq_true rfl) dX8_expect_20 (fun H locs hP hD hS => ?_)
      have hP : va_P D vwCl [(m0, .inr (8, [.ref mH, .int aM, .long aC, .int mM, .long mQ, .int oV, .int pL, .int lI, .int sW, .int dP, .int sT, .long aT, .int cH, .int iW, .ref mI, .ref mJ, .ref mS, .ref mD, .int iH, .int aE, .int mN, .long sZ, .ref mX, .int tS, .int tA, .int tA, .ref mA, .ref mB, .ref mW, .ref mL, .int lS])), (mX, .inl (cB, 2000, .inl fX))] H := hP
      have hD : va_D A [(m0, .inr (8, [.ref mH, .int aM, .long aC, .int mM, .long mQ, .int oV, .int pL, .int lI, .int sW, .int dP, .int sT, .long aT, .int cH, .int iW, .ref mI, .ref mJ, .ref mS, .ref mD, .int iH, .int aE, .int mN, .long sZ, .ref mX, .int tS, .int tA, .int tA, .ref mA, .ref mB, .ref mW, .ref mL, .int lS])), (mX, .inl (cB, 2000, .inl fX))] := hD
      refine lv_goto (tgt := 36) hx hb dX8_expect_23 (by decide) ?_
      refine kVret (u := (tA, tA)) hx hb hr hlocks hS dX8_expect_36 ?_ (hP.sub [0, 1] rfl) (hD.sub [0, 1] (by decide) rfl)
      try dsimp only
      try simp only [Int32.reduceToInt]
      first | exact ⟨by omega, by omega, Or.inl rfl⟩ | exact ⟨by omega, by omega, Or.inr (by omega)⟩ | exact ⟨by omega, by omega, by omega, Or.inl rfl⟩ | exact ⟨by omega, by omega, by omega, Or.inr (by omega)⟩
