def LAok (x w : Int32) : Prop := (0 ≤ x.toInt ∧ x.toInt ≤ 511) ∧ (w = 0 ∨ vp_in (x + 1) 512)
/-- what is left of the text says the answer -/
def kRest (t : Int32) (f : Nat → Int32) (a n : Int32) : Prop := ∃ g : Nat, n.toInt = g ∧ g ≤ 200 ∧ kLd t f (200 - g) a n = kLd t f 200 0 0
theorem kRest_mk {t : Int32} {f : Nat → Int32} {a n : Int32} (g : Nat) (h1 : n.toInt = g) (h2 : g ≤ 200) (h3 : kLd t f (200 - g) a n = kLd t f 200 0 0) : kRest t f a n := ⟨g, h1, h2, h3⟩
theorem kif_w {p : Prop} [Decidable p] {a w x : Int32} (h : x = kif p a w) (ha : 0 ≤ a.toInt ∨ a.toInt = -1) (hw : 0 ≤ w.toInt ∨ w.toInt = -1) : 0 ≤ x.toInt ∨ x.toInt = -1 := by
  by_cases q : p
  · rw [kif_t q] at h; rw [h]; exact ha
  · rw [kif_f q] at h; rw [h]; exact hw
theorem k_oddR {v : Int64} (h : 0 ≤ v.toInt ∧ v.toInt ≤ 511) : (v.toInt32 - v.toInt32 / 2 * 2).toInt = v.toInt % 2 := by
  have e : v.toInt32.toInt = v.toInt := k_l2i (by omega)
  obtain ⟨j, hj, hn⟩ := nI_of (x := v.toInt32) (by rw [Int32.lt_iff_toInt_lt]; simp only [Int32.reduceToInt]; omega)
  rw [hn, nI_toInt hj] at e
  have e2 : nI j - nI j / 2 * 2 = nI (j % 2) := pk_rem (d := 2) hj (by omega) (by omega)
  rw [hn, e2, nI_toInt (by omega)]
  omega
section RTAIL
variable {t : Int32} {f : Nat → Int32} {m : Nat} {mx : Int} {s a1 a2 a3 w0 w1 w2 w3 : Int32}
theorem kTl_x (hs : 0 ≤ s.toInt) (hw0 : w0.toInt = -1) (g1 : w1 = kif ((kHere s t f).toInt = 45 ∨ (kHere s t f).toInt = 43) w0 s) (h1 : 0 ≤ w1.toInt) (e3 : w3 = w1) : kOk (kTl t f m mx s) w3 a3 := by
  by_cases c1 : (kHere s t f).toInt = 45 ∨ (kHere s t f).toInt = 43
  · rw [kif_t c1] at g1
    exact absurd h1 (by rw [g1]; omega)
  · unfold kTl
    rw [kif_t c1]
    have h2 : w1 = s := g1.trans (kif_f c1)
    exact kOk_n (by rw [e3, h2]) (by rw [e3, h2]; omega)
theorem kTl_y (hs : 0 ≤ s.toInt ∧ s.toInt ≤ t.toInt) (ht : t.toInt ≤ 2000) (hw0 : w0.toInt = -1) (e1 : a1 = kSg s t f) (g1 : w1 = kif ((kHere s t f).toInt = 45 ∨ (kHere s t f).toInt = 43) w0 s) (h1 : w1.toInt < 0)
    (e2 : a2 = (kNm t f m a1 0).1) (g2 : w2 = kif ((kNm t f m a1 0).1.toInt = a1.toInt ∨ mx < (kNm t f m a1 0).2.toInt) a1 w1)
    (e3 : w2.toInt < 0 → a3 = kSk a2 t f 10 ∧ w3 = kif ((kHere a2 t f).toInt = 10) w2 a2) (g3 : ¬ w2.toInt < 0 → a3 = a2 ∧ w3 = w2) : kOk (kTl t f m mx s) w3 a3 := by
  by_cases c1 : (kHere s t f).toInt = 45 ∨ (kHere s t f).toInt = 43
  · unfold kTl
    rw [kif_f (k_nn c1)]
    have hc := kHere_c (a := s) (t := t) (f := f) (by omega)
    have hd := k_add1 (a := s) (by omega)
    have b1 : a1 = s + 1 := e1.trans (kif_t c1)
    have d1 : w1 = w0 := g1.trans (kif_t c1)
    rw [b1] at e2 g2
    have hr := kNm_r (f := f) ht m (s + 1) 0 (by omega) (by omega)
    by_cases c2 : (kNm t f m (s + 1) 0).1.toInt = (s + 1).toInt ∨ mx < (kNm t f m (s + 1) 0).2.toInt
    · rw [kif_t c2]
      have d2 : w2 = s + 1 := g2.trans (kif_t c2)
      have d3 := (g3 (by rw [d2]; omega)).2
      exact kOk_n (by rw [d3, d2]) (by rw [d3, d2]; omega)
    · rw [kif_f c2]
      have d2 : w2 = w0 := (g2.trans (kif_f c2)).trans d1
      have d3 := e3 (by rw [d2]; omega)
      rw [e2] at d3
      by_cases c3 : (kHere (kNm t f m (s + 1) 0).1 t f).toInt = 10
      · rw [kif_f (k_nn c3)]
        have d4 : w3 = w0 := (d3.2.trans (kif_t c3)).trans d2
        exact ⟨by rw [d4]; exact k_m1 hw0, fun _ => d3.1.trans (kif_t c3)⟩
      · rw [kif_t c3]
        have d4 : w3 = (kNm t f m (s + 1) 0).1 := d3.2.trans (kif_f c3)
        exact kOk_n d4 (by rw [d4]; omega)
  · rw [kif_f c1] at g1
    exact absurd h1 (by rw [g1]; omega)
end RTAIL
theorem kFr_r {t : Int32} {f : Nat → Int32} {a a1 a2 w0 w1 w2 : Int32} {v : Int64} (ha : 0 ≤ a.toInt ∧ a.toInt ≤ t.toInt) (ht : t.toInt ≤ 2000) (h0 : w0.toInt = -1)
    (ev : v = (kNm t f 4 a 0).2) (e1 : a1 = (kNm t f 4 a 0).1) (g1 : w1 = kif ((kNm t f 4 a 0).1.toInt = a.toInt ∨ 511 < (kNm t f 4 a 0).2.toInt) a w0)
    (e2 : w1.toInt < 0 → a2 = kSk a1 t f 32 ∧ w2 = kif ((kHere a1 t f).toInt = 32) w1 a1) (g2 : ¬ w1.toInt < 0 → a2 = a1 ∧ w2 = w1) :
    (0 ≤ w2.toInt ∧ w2 = (kLn t f a).1) ∨ (w2.toInt = -1 ∧ kLn t f a = kLb t f a a2 v ∧ 0 ≤ v.toInt ∧ v.toInt ≤ 511) := by
  have hr := kNm_r (f := f) ht 4 a 0 ha.1 ha.2
  have hv := kNm_v (t := t) (f := f) 4 a 0 0 (by omega) (by decide) (by decide)
  unfold kLn
  by_cases c1 : (kNm t f 4 a 0).1.toInt = a.toInt ∨ 511 < (kNm t f 4 a 0).2.toInt
  · rw [kif_t c1]
    have d1 : w1 = a := g1.trans (kif_t c1)
    have d2 := (g2 (by rw [d1]; omega)).2
    exact Or.inl ⟨by rw [d2, d1]; omega, by rw [d2, d1]⟩
  · rw [kif_f c1]
    have d1 : w1 = w0 := g1.trans (kif_f c1)
    have d2 := e2 (by rw [d1]; omega)
    rw [e1] at d2
    by_cases c2 : (kHere (kNm t f 4 a 0).1 t f).toInt = 32
    · rw [kif_f (k_nn c2)]
      have d3 : w2 = w0 := (d2.2.trans (kif_t c2)).trans d1
      have d4 : a2 = (kNm t f 4 a 0).1 + 1 := d2.1.trans (kif_t c2)
      exact Or.inr ⟨by rw [d3]; exact h0, by rw [d4, ev], by rw [ev]; omega, by rw [ev]; omega⟩
    · rw [kif_t c2]
      have d3 : w2 = (kNm t f 4 a 0).1 := d2.2.trans (kif_f c2)
      exact Or.inl ⟨by rw [d3]; omega, d3⟩
section RLB
variable {t : Int32} {f : Nat → Int32} {a b : Int32} {v : Int64}
theorem kLb_w (c3 : (kHere b t f).toInt = 61) (c4 : (kHere (b + 1) t f).toInt = 61) (o : ¬ v.toInt % 2 = 1) : kLb t f a b v = kTl t f 11 34359738367 (b + 1 + 1) := (kif_t c3).trans ((kif_t c4).trans (kif_f o))
theorem kLb_o (c3 : (kHere b t f).toInt = 61) (c4 : (kHere (b + 1) t f).toInt = 61) (o : v.toInt % 2 = 1) : kLb t f a b v = (a, a) := (kif_t c3).trans ((kif_t c4).trans (kif_t o))
theorem kLb_e (c3 : (kHere b t f).toInt = 61) (c4 : ¬ (kHere (b + 1) t f).toInt = 61) : kLb t f a b v = kTl t f 6 131071 (b + 1) := (kif_t c3).trans (kif_f c4)
theorem kLb_a (c3 : ¬ (kHere b t f).toInt = 61) (c : ¬ ((kNm t f 2 b 0).1.toInt = b.toInt ∨ 31 < (kNm t f 2 b 0).2.toInt)) : kLb t f a b v = kTl t f 4 4095 (kNm t f 2 b 0).1 := (kif_f c3).trans (kif_f c)
theorem kLb_b (c3 : ¬ (kHere b t f).toInt = 61) (c : (kNm t f 2 b 0).1.toInt = b.toInt ∨ 31 < (kNm t f 2 b 0).2.toInt) : kLb t f a b v = (b, a) := (kif_f c3).trans (kif_t c)
/-- an ACT whose number is wrong -/
theorem kLb_n {w w1 w2 a2 : Int32} (hb : 0 ≤ b.toInt) (hw : w.toInt = -1) (c3 : ¬ (kHere b t f).toInt = 61) (g : w1 = kif ((kNm t f 2 b 0).1.toInt = b.toInt ∨ 31 < (kNm t f 2 b 0).2.toInt) b w) (h1 : 0 ≤ w1.toInt) (e : w2 = w1) : kOk (kLb t f a b v) w2 a2 := by
  by_cases c : (kNm t f 2 b 0).1.toInt = b.toInt ∨ 31 < (kNm t f 2 b 0).2.toInt
  · rw [kLb_b c3 c]
    have d : w1 = b := g.trans (kif_t c)
    exact kOk_n (by rw [e, d]) (by rw [e, d]; omega)
  · rw [kif_f c] at g
    exact absurd h1 (by rw [g]; omega)
theorem kLb_y {w w1 : Int32} (hb : 0 ≤ b.toInt) (c3 : ¬ (kHere b t f).toInt = 61) (g : w1 = kif ((kNm t f 2 b 0).1.toInt = b.toInt ∨ 31 < (kNm t f 2 b 0).2.toInt) b w) (h1 : w1.toInt < 0) : kLb t f a b v = kTl t f 4 4095 (kNm t f 2 b 0).1 ∧ w1 = w := by
  by_cases c : (kNm t f 2 b 0).1.toInt = b.toInt ∨ 31 < (kNm t f 2 b 0).2.toInt
  · rw [kif_t c] at g
    exact absurd h1 (by rw [g]; omega)
  · exact ⟨kLb_a c3 c, g.trans (kif_f c)⟩
end RLB
set_option maxRecDepth 100000 in
theorem iX8_feed_X8 : ∀ w ∈ wsX80, w ∈ wsX8_feed := fun w h => (goodIn_r (big := wsX8_feed) wsX80 [8, 9, 10, 11, 12, 13, 14, 15, 16, 17, 18, 19, 20, 21, 22, 23, 24, 25, 26, 27, 28, 29, 30, 31, 32, 33, 34, 35, 36, 37, 38] rfl (by decide +kernel) w h).1
set_option maxRecDepth 100000 in
set_option maxHeartbeats 4000000 in
theorem q_feed (l : Launch) (D : va_G) (cI cL cB cZ cT : ClassId) (sz : Nat) (m0 mH mI mJ mS mD mX mA mB mW mL : Nat) (aM : Int32) (aC : Int64) (mM : Int32) (mQ : Int64) (oV pL lI sW dP sT : Int32) (aT : Int64) (cH iW iH aE mN : Int32) (sZ : Int64) (tS tA tW lS : Int32) (fX : Nat → Int32) (v : Int64) (n : Int32) (ht : 0 ≤ tS.toInt ∧ tS.toInt ≤ 2000) : kM (S := (Int32 × (Nat → Int32))) l yX8_feed wsX8_feed ({ frames := 1, cells := 0, slots := 0, locals := 25 }) D (kT cI cL cB cZ cT) [.ref m0, .long v, .int n] [(m0, .inr (8, [.ref mH, .int aM, .long aC, .int mM, .long mQ, .int oV, .int pL, .int lI, .int sW, .int dP, .int sT, .long aT, .int cH, .int iW, .ref mI, .ref mJ, .ref mS, .ref mD, .int iH, .int aE, .int mN, .long sZ, .ref mX, .int tS, .int tA, .int tW, .ref mA, .ref mB, .ref mW, .ref mL, .int lS])), (mX, .inl (cB, 2000, .inl fX))] sz eI (fun r u => r.toInt = kFdA tS.toInt n.toInt ∧ ((u.1)).toInt = kFdS tS.toInt n.toInt ∧ (u.2) = kFdF v fX tS n) (fun u => [(m0, .inr (8, [.ref mH, .int aM, .long aC, .int mM, .long mQ, .int oV, .int pL, .int lI, .int sW, .int dP, .int sT, .long aT, .int cH, .int iW, .ref mI, .ref mJ, .ref mS, .ref mD, .int iH, .int aE, .int mN, .long sZ, .ref mX, .int u.1, .int tA, .int tW, .ref mA, .ref mB, .ref mW, .ref mL, .int lS])), (mX, .inl (cB, 2000, .inl u.2))]) 0 0 := by
  refine kStart (cc := cX8_feed) (maxL := 5) (ret := (some .int)) (own := RX8) (by decide) rfl rfl (Nat.le_of_ble_eq_true rfl) ?_
  intro p e s m args below meth c A ls hx hb hr hml hown hts hlocks hnm hsz hA hG hP hD hS hl
  have hK := hG.1
  have hl : lv_has ls 5 [(0, .ref m0), (1, .long v), (3, .int n)] := hl
  refine lv_iload_n hx hb dX8_feed_0 rfl (lv_at hl 2 rfl) ?_
  refine lv_i2l hx hb dX8_feed_1 rfl ?_
  refine lv_lconst (v := 1) hx hb dX8_feed_2 (by decide) ?_
  refine lv_ldc2 (v := 8) hx hb hown (hts (.constantLong RX8 241 (8)) (List.mem_of_getElem? (i := 1) rfl)) dX8_feed_3 ?_
  refine kCallI (wr := [(m0, .inr (8, [.ref mH, .int aM, .long aC, .int mM, .long mQ, .int oV, .int pL, .int lI, .int sW, .int dP, .int sT, .long aT, .int cH, .int iW, .ref mI, .ref mJ, .ref mS, .ref mD, .int iH, .int aE, .int mN, .long sZ, .ref mX, .int tS, .int tA, .int tW, .ref mA, .ref mB, .ref mW, .ref mL, .int lS])), (mX, .inl (cB, 2000, .inl fX))]) (va_runS (As := [.long n.toInt64, .long 1, .long 8]) (rest := []) ⟨hx, hb, hml, hown, hts⟩ (q_in l D cI cL cB cZ cT _ (n.toInt64) 1 8) (va_cwS 3 hts gX8_feed_X8_in rfl rfl rfl (by decide +kernel) ⟨Nat.le_of_ble_eq_true rfl, Nat.le_of_ble_eq_true rfl⟩) (kPreS hG hP hD [] rfl (by decide)) rfl rfl hl.1 rfl (lv_room (Nat.le_of_ble_eq_true rfl)) dX8_feed_6 ⟨Nat.le_of_ble_eq_true rfl, Nat.le_of_ble_eq_true rfl⟩) hA hP hD hS [] [0, 1] rfl rfl (by decide) (by decide) (fun r_1 u_r_1 H locs wr_1 hP hD hS => ?_)
  have hP : va_P D vwCl [(m0, .inr (8, [.ref mH, .int aM, .long aC, .int mM, .long mQ, .int oV, .int pL, .int lI, .int sW, .int dP, .int sT, .long aT, .int cH, .int iW, .ref mI, .ref mJ, .ref mS, .ref mD, .int iH, .int aE, .int mN, .long sZ, .ref mX, .int tS, .int tA, .int tW, .ref mA, .ref mB, .ref mW, .ref mL, .int lS])), (mX, .inl (cB, 2000, .inl fX))] H := hP
  have hD : va_D A [(m0, .inr (8, [.ref mH, .int aM, .long aC, .int mM, .long mQ, .int oV, .int pL, .int lI, .int sW, .int dP, .int sT, .long aT, .int cH, .int iW, .ref mI, .ref mJ, .ref mS, .ref mD, .int iH, .int aE, .int mN, .long sZ, .ref mX, .int tS, .int tA, .int tW, .ref mA, .ref mB, .ref mW, .ref mL, .int lS])), (mX, .inl (cB, 2000, .inl fX))] := hD
  try dsimp only at wr_1
  subst wr_1
  refine lv_if_ne (tgt := 14) hx hb dX8_feed_9 (by decide) (fun c_9_1 => ?_) (fun c_9_1 => ?_)
  · have t_9_1 := c_9_1
    try simp only [kb_eq0, kb_ne0, lg_cmp_lt, lg_cmp_le, lg_cmp_gt, lg_cmp_ge, lg_cmp_eq] at t_9_1
    try simp only [Int32.lt_iff_toInt_lt, Int32.le_iff_toInt_le, ← Int32.toInt_inj, Int64.lt_iff_toInt_lt, Int64.le_iff_toInt_le, ← Int64.toInt_inj, Int32.toInt_toInt64, Int32.reduceToInt, Int64.reduceToInt] at t_9_1
    have ha0 := k_addg (a := tS) (b := n) (by omega) (by omega)
    refine lv_aload_n hx hb dX8_feed_14 rfl (lv_at hl 0 rfl) ?_
    refine va_get (D := D) (ci := 8) (v := .int tS) (C := RX8) (T := TX8) (N := 31) hx hb hts iX8_feed_X8 hown hK hP 0 rfl rfl 23 (by decide) (hts (.fieldLink RX8 243 "TapeCalculatorModel" "textSize" "I") (List.mem_of_getElem? (i := 2) rfl)) (fun _ h9 => h9) rfl dX8_feed_15 ?_
    refine lv_iload_n hx hb dX8_feed_18 rfl (lv_at hl 2 rfl) ?_
    refine lv_iadd hx hb dX8_feed_19 ?_
    refine lv_sipush (v := 2000) hx hb dX8_feed_20 (by decide) ?_
    refine lv_icmp_le (tgt := 29) hx hb dX8_feed_23 (by decide) (fun c_23_2 => ?_) (fun c_23_2 => ?_)
    · have t_23_2 := c_23_2
      try simp only [kb_eq0, kb_ne0, lg_cmp_lt, lg_cmp_le, lg_cmp_gt, lg_cmp_ge, lg_cmp_eq] at t_23_2
      try simp only [Int32.lt_iff_toInt_lt, Int32.le_iff_toInt_le, ← Int32.toInt_inj, Int64.lt_iff_toInt_lt, Int64.le_iff_toInt_le, ← Int64.toInt_inj, Int32.toInt_toInt64, Int32.reduceToInt, Int64.reduceToInt] at t_23_2
      refine lv_iconst (v := 0) hx hb dX8_feed_29 (by decide) ?_
      refine lv_istore (lv' := [(4, .int 0), (0, .ref m0), (1, .long v), (3, .int n)]) hx hb dX8_feed_30 hl (by decide) rfl (fun ls hl => ?_)
      have J32 : ∀ (k : Nat) (j : Int32) (lj : Int32) (fj : Nat → Int32), (n.toInt - j.toInt).toNat < k → (∃ g : Nat, j = nI g ∧ (g : Int) ≤ n.toInt ∧ lj.toInt = tS.toInt + g ∧ fj = kFl v fX tS g) → ∀ (H : Heap) (locs : List Loc), va_P D vwCl [(m0, .inr (8, [.ref mH, .int aM, .long aC, .int mM, .long mQ, .int oV, .int pL, .int lI, .int sW, .int dP, .int sT, .long aT, .int cH, .int iW, .ref mI, .ref mJ, .ref mS, .ref mD, .int iH, .int aE, .int mN, .long sZ, .ref mX, .int lj, .int tA, .int tW, .ref mA, .ref mB, .ref mW, .ref mL, .int lS])), (mX, .inl (cB, 2000, .inl fj))] H → va_D A [(m0, .inr (8, [.ref mH, .int aM, .long aC, .int mM, .long mQ, .int oV, .int pL, .int lI, .int sW, .int dP, .int sT, .long aT, .int cH, .int iW, .ref mI, .ref mJ, .ref mS, .ref mD, .int iH, .int aE, .int mN, .long sZ, .ref mX, .int lj, .int tA, .int tW, .ref mA, .ref mB, .ref mW, .ref mL, .int lS])), (mX, .inl (cB, 2000, .inl fj))] → va_S A s.heap H locs → ∀ ls : Array Slot, lv_has ls 5 [(4, .int j), (0, .ref m0), (1, .long v), (3, .int n)] → W p l e ({ frames := 1, cells := 0, slots := 0, locals := 25 }) s m args below meth c H locs 0 0 (MQ below (kQ (S := (Int32 × (Nat → Int32))) eI (fun r u => r.toInt = kFdA tS.toInt n.toInt ∧ ((u.1)).toInt = kFdS tS.toInt n.toInt ∧ (u.2) = kFdF v fX tS n) D (fun u => [(m0, .inr (8, [.ref mH, .int aM, .long aC, .int mM, .long mQ, .int oV, .int pL, .int lI, .int sW, .int dP, .int sT, .long aT, .int cH, .int iW, .ref mI, .ref mJ, .ref mS, .ref mD, .int iH, .int aE, .int mN, .long sZ, .ref mX, .int u.1, .int tA, .int tW, .ref mA, .ref mB, .ref mW, .ref mL, .int lS])), (mX, .inl (cB, 2000, .inl u.2))]) A) args s 0 0 A) (F0 m 32 ls []) := by
        intro k
        induction k with
        | zero =>
          intro j lj fj hm
          exact absurd hm (Nat.not_lt_zero _)
        | succ k ih =>
          intro j lj fj hm hj H locs hP hD hS ls hl
          refine lv_iload hx hb dX8_feed_32 (lv_at hl 0 rfl) ?_
          refine lv_iload_n hx hb dX8_feed_34 rfl (lv_at hl 3 rfl) ?_
          refine lv_icmp_ge (tgt := 72) hx hb dX8_feed_35 (by decide) (fun c_35_3 => ?_) (fun c_35_3 => ?_)
          · have t_35_3 := c_35_3
            try simp only [kb_eq0, kb_ne0, lg_cmp_lt, lg_cmp_le, lg_cmp_gt, lg_cmp_ge, lg_cmp_eq] at t_35_3
            try simp only [Int32.lt_iff_toInt_lt, Int32.le_iff_toInt_le, ← Int32.toInt_inj, Int64.lt_iff_toInt_lt, Int64.le_iff_toInt_le, ← Int64.toInt_inj, Int32.toInt_toInt64, Int32.reduceToInt, Int64.reduceToInt] at t_35_3
            refine lv_aload_n hx hb dX8_feed_72 rfl (lv_at hl 1 rfl) ?_
            refine va_get (D := D) (ci := 8) (v := .int lj) (C := RX8) (T := TX8) (N := 31) hx hb hts iX8_feed_X8 hown hK hP 0 rfl rfl 23 (by decide) (hts (.fieldLink RX8 243 "TapeCalculatorModel" "textSize" "I") (List.mem_of_getElem? (i := 2) rfl)) (fun _ h9 => h9) rfl dX8_feed_73 ?_
            refine kIret (u := (lj, fj)) hx hb hr rfl hlocks hS dX8_feed_76 ?_ (hP.sub [0, 1] rfl) (hD.sub [0, 1] (by decide) rfl)
            try dsimp only
            obtain ⟨g, g1, g2, g3, g4⟩ := hj
            have g5 : j.toInt = g := by rw [g1]; exact nI_toInt (by omega)
            obtain rfl : g = n.toNatClampNeg := by have h6 := k_cl (k := n) (by omega); omega
            have h6 := k_cl (k := n) (by omega)
            exact ⟨by unfold kFdA; (repeat split) <;> first | omega | (exfalso; omega), by unfold kFdS; (repeat split) <;> first | omega | rfl | (exfalso; omega), g4.trans (kif_t ⟨by omega, by omega⟩).symm⟩
          · have t_35_3 := c_35_3
            try simp only [kb_eq0, kb_ne0, lg_cmp_lt, lg_cmp_le, lg_cmp_gt, lg_cmp_ge, lg_cmp_eq] at t_35_3
            try simp only [Int32.lt_iff_toInt_lt, Int32.le_iff_toInt_le, ← Int32.toInt_inj, Int64.lt_iff_toInt_lt, Int64.le_iff_toInt_le, ← Int64.toInt_inj, Int32.toInt_toInt64, Int32.reduceToInt, Int64.reduceToInt] at t_35_3
            obtain ⟨g, g1, g2, g3, g4⟩ := hj
            have g5 : j.toInt = g := by rw [g1]; exact nI_toInt (by omega)
            refine lv_aload_n hx hb dX8_feed_38 rfl (lv_at hl 1 rfl) ?_
            refine va_get (D := D) (ci := 8) (v := .ref mX) (C := RX8) (T := TX8) (N := 31) hx hb hts iX8_feed_X8 hown hK hP 0 rfl rfl 22 (by decide) (hts (.fieldLink RX8 26 "TapeCalculatorModel" "text" "[B") (List.mem_of_getElem? (i := 3) rfl)) (fun _ h9 => h9) rfl dX8_feed_39 ?_
            refine lv_aload_n hx hb dX8_feed_42 rfl (lv_at hl 1 rfl) ?_
            refine va_get (D := D) (ci := 8) (v := .int lj) (C := RX8) (T := TX8) (N := 31) hx hb hts iX8_feed_X8 hown hK hP 0 rfl rfl 23 (by decide) (hts (.fieldLink RX8 243 "TapeCalculatorModel" "textSize" "I") (List.mem_of_getElem? (i := 2) rfl)) (fun _ h9 => h9) rfl dX8_feed_43 ?_
            refine lv_lload_n hx hb dX8_feed_46 rfl (lv_at hl 2 rfl) ?_
            refine lv_bipush (v := 8) hx hb dX8_feed_47 (by decide) ?_
            refine lv_iload hx hb dX8_feed_49 (lv_at hl 0 rfl) ?_
            refine lv_imul hx hb dX8_feed_51 ?_
            refine lv_lshr hx hb dX8_feed_52 rfl ?_
            refine lv_l2i hx hb dX8_feed_53 rfl ?_
            refine lv_i2b hx hb dX8_feed_54 rfl ?_
            refine va_bast hx hb hK hP hD hS 1 2 rfl rfl (vp_in_iff.mpr (by omega)) dX8_feed_55 (fun H locs hP hD hS => ?_)
            have hP : va_P D vwCl [(m0, .inr (8, [.ref mH, .int aM, .long aC, .int mM, .long mQ, .int oV, .int pL, .int lI, .int sW, .int dP, .int sT, .long aT, .int cH, .int iW, .ref mI, .ref mJ, .ref mS, .ref mD, .int iH, .int aE, .int mN, .long sZ, .ref mX, .int lj, .int tA, .int tW, .ref mA, .ref mB, .ref mW, .ref mL, .int lS])), (mX, .inl (cB, 2000, .inl (upd fj lj.toNatClampNeg (vp_nar .byte (v >>> (((8 * j) : Int32).toInt64 &&& 63)).toInt32.toInt8.toInt32))))] H := hP
            have hD : va_D A [(m0, .inr (8, [.ref mH, .int aM, .long aC, .int mM, .long mQ, .int oV, .int pL, .int lI, .int sW, .int dP, .int sT, .long aT, .int cH, .int iW, .ref mI, .ref mJ, .ref mS, .ref mD, .int iH, .int aE, .int mN, .long sZ, .ref mX, .int lj, .int tA, .int tW, .ref mA, .ref mB, .ref mW, .ref mL, .int lS])), (mX, .inl (cB, 2000, .inl (upd fj lj.toNatClampNeg (vp_nar .byte (v >>> (((8 * j) : Int32).toInt64 &&& 63)).toInt32.toInt8.toInt32))))] := hD
            refine lv_aload_n hx hb dX8_feed_56 rfl (lv_at hl 1 rfl) ?_
            refine lv_dup hx hb dX8_feed_57 rfl ?_
            refine va_get (D := D) (ci := 8) (v := .int lj) (C := RX8) (T := TX8) (N := 31) hx hb hts iX8_feed_X8 hown hK hP 0 rfl rfl 23 (by decide) (hts (.fieldLink RX8 243 "TapeCalculatorModel" "textSize" "I") (List.mem_of_getElem? (i := 2) rfl)) (fun _ h9 => h9) rfl dX8_feed_58 ?_
            refine lv_iconst (v := 1) hx hb dX8_feed_61 (by decide) ?_
            refine lv_iadd hx hb dX8_feed_62 ?_
            refine lv_topi (fun x_5 ex_5 => ?_)
            refine va_put (D := D) (ci := 8) (v := .int x_5) (ty := .int) (C := RX8) (T := TX8) (N := 31) hx hb hts iX8_feed_X8 tyX8 tyX8_ok nmX8 hown hK hP hD hS 0 rfl rfl 23 (by decide) (hts (.fieldLink RX8 243 "TapeCalculatorModel" "textSize" "I") (List.mem_of_getElem? (i := 2) rfl)) (fun _ h9 => h9) rfl (by decide +kernel) rfl rfl (Nat.le_of_ble_eq_true rfl) dX8_feed_63 (fun H locs hP hD hS => ?_)
            have hP : va_P D vwCl [(m0, .inr (8, [.ref mH, .int aM, .long aC, .int mM, .long mQ, .int oV, .int pL, .int lI, .int sW, .int dP, .int sT, .long aT, .int cH, .int iW, .ref mI, .ref mJ, .ref mS, .ref mD, .int iH, .int aE, .int mN, .long sZ, .ref mX, .int x_5, .int tA, .int tW, .ref mA, .ref mB, .ref mW, .ref mL, .int lS])), (mX, .inl (cB, 2000, .inl (upd fj lj.toNatClampNeg (vp_nar .byte (v >>> (((8 * j) : Int32).toInt64 &&& 63)).toInt32.toInt8.toInt32))))] H := hP
            have hD : va_D A [(m0, .inr (8, [.ref mH, .int aM, .long aC, .int mM, .long mQ, .int oV, .int pL, .int lI, .int sW, .int dP, .int sT, .long aT, .int cH, .int iW, .ref mI, .ref mJ, .ref mS, .ref mD, .int iH, .int aE, .int mN, .long sZ, .ref mX, .int x_5, .int tA, .int tW, .ref mA, .ref mB, .ref mW, .ref mL, .int lS])), (mX, .inl (cB, 2000, .inl (upd fj lj.toNatClampNeg (vp_nar .byte (v >>> (((8 * j) : Int32).toInt64 &&& 63)).toInt32.toInt8.toInt32))))] := hD
            obtain ⟨x_6, ex_6⟩ : ∃ y : Int32, y = j + 1 := ⟨_, rfl⟩
            refine lv_iinc (v := x_6) (lv' := [(4, .int x_6), (0, .ref m0), (1, .long v), (3, .int n)]) hx hb dX8_feed_66 hl (k := 0) rfl (by rw [ex_6]; rfl) (by decide) rfl (fun ls hl => ?_)
            refine lv_goto (tgt := 32) hx hb dX8_feed_69 (by decide) ?_
            have hd := k_inc (i := j) (n := n) (by omega)
            rw [← ex_6] at hd
            have hd2 := k_add1 (a := lj) (by omega)
            rw [← ex_5] at hd2
            exact ih x_6 x_5 (upd fj lj.toNatClampNeg (vp_nar .byte (v >>> (((8 * j) : Int32).toInt64 &&& 63)).toInt32.toInt8.toInt32)) (by omega) ⟨g + 1, by rw [ex_6, g1]; exact nI_1 g, by omega, by omega, by rw [kFl_s, ← g4, show lj = tS + nI g from k_inj (by rw [k_add (a := tS) (b := nI g) (by omega) (by rw [nI_toInt (by omega)]; omega), nI_toInt (by omega)]; omega), g1]⟩ _ _ (hP.sub [0, 1] rfl) (hD.sub [0, 1] (by decide) rfl) hS ls (lv_sub hl [0, 1, 2, 3] rfl)
      have hz0 : (0 : Int32).toInt = 0 := by decide
      exact J32 _ 0 tS fX (Nat.lt_succ_self _) ⟨0, by decide, by omega, by omega, rfl⟩ _ _ (hP.sub [0, 1] rfl) (hD.sub [0, 1] (by decide) rfl) hS ls (lv_sub hl [0, 1, 2, 3] rfl)
    · have t_23_2 := c_23_2
      try simp only [kb_eq0, kb_ne0, lg_cmp_lt, lg_cmp_le, lg_cmp_gt, lg_cmp_ge, lg_cmp_eq] at t_23_2
      try simp only [Int32.lt_iff_toInt_lt, Int32.le_iff_toInt_le, ← Int32.toInt_inj, Int64.lt_iff_toInt_lt, Int64.le_iff_toInt_le, ← Int64.toInt_inj, Int32.toInt_toInt64, Int32.reduceToInt, Int64.reduceToInt] at t_23_2
      refine lv_bipush (v := (-2)) hx hb dX8_feed_26 (by decide) ?_
      refine kIret (u := (tS, fX)) hx hb hr rfl hlocks hS dX8_feed_28 ?_ (hP.sub [0, 1] rfl) (hD.sub [0, 1] (by decide) rfl)
      try dsimp only
      have hrv : ((-2) : Int32).toInt = -2 := by decide
      exact ⟨by unfold kFdA; (repeat split) <;> first | omega | (exfalso; omega), by unfold kFdS; (repeat split) <;> first | omega | rfl | (exfalso; omega), (kif_f (fun h => absurd h.2 (by omega))).symm⟩
  · have t_9_1 := c_9_1
    try simp only [kb_eq0, kb_ne0, lg_cmp_lt, lg_cmp_le, lg_cmp_gt, lg_cmp_ge, lg_cmp_eq] at t_9_1
    try simp only [Int32.lt_iff_toInt_lt, Int32.le_iff_toInt_le, ← Int32.toInt_inj, Int64.lt_iff_toInt_lt, Int64.le_iff_toInt_le, ← Int64.toInt_inj, Int32.toInt_toInt64, Int32.reduceToInt, Int64.reduceToInt] at t_9_1
    refine lv_iconst (v := (-1)) hx hb dX8_feed_12 (by decide) ?_
    refine kIret (u := (tS, fX)) hx hb hr rfl hlocks hS dX8_feed_13 ?_ (hP.sub [0, 1] rfl) (hD.sub [0, 1] (by decide) rfl)
    try dsimp only
    have hrv : ((-1) : Int32).toInt = -1 := by decide
    exact ⟨by unfold kFdA; (repeat split) <;> first | omega | (exfalso; omega), by unfold kFdS; (repeat split) <;> first | omega | rfl | (exfalso; omega), (kif_f (fun h => absurd h.1 (by omega))).symm⟩
set_option maxRecDepth 100000 in
theorem iX8_here_X8 : ∀ w ∈ wsX80, w ∈ wsX8_here := fun w h => (goodIn_r (big := wsX8_here) wsX80 [4, 5, 6, 7, 8, 9, 10, 11, 12, 13, 14, 15, 16, 17, 18, 19, 20, 21, 22, 23, 24, 25, 26, 27, 28, 29, 30, 31, 32, 33, 34] rfl (by decide +kernel) w h).1
set_option maxRecDepth 100000 in
set_option maxHeartbeats 4000000 in
theorem q_here (l : Launch) (D : va_G) (cI cL cB cZ cT : ClassId) (sz : Nat) (m0 mH mI mJ mS mD mX mA mB mW mL : Nat) (aM : Int32) (aC : Int64) (mM : Int32) (mQ : Int64) (oV pL lI sW dP sT : Int32) (aT : Int64) (cH iW iH aE mN : Int32) (sZ : Int64) (tS tA tW lS : Int32) (fX : Nat → Int32) (hta : 0 ≤ tA.toInt ∧ tA.toInt ≤ tS.toInt) (hts2 : tS.toInt ≤ 2000) : kM (S := Unit) l yX8_here wsX8_here ({ frames := 0, cells := 0, slots := 0, locals := 0 }) D (kT cI cL cB cZ cT) [.ref m0] [(m0, .inr (8, [.ref mH, .int aM, .long aC, .int mM, .long mQ, .int oV, .int pL, .int lI, .int sW, .int dP, .int sT, .long aT, .int cH, .int iW, .ref mI, .ref mJ, .ref mS, .ref mD, .int iH, .int aE, .int mN, .long sZ, .ref mX, .int tS, .int tA, .int tW, .ref mA, .ref mB, .ref mW, .ref mL, .int lS])), (mX, .inl (cB, 2000, .inl fX))] sz eI (fun r _ => r = (kHere tA tS fX)) (fun _ => [(m0, .inr (8, [.ref mH, .int aM, .long aC, .int mM, .long mQ, .int oV, .int pL, .int lI, .int sW, .int dP, .int sT, .long aT, .int cH, .int iW, .ref mI, .ref mJ, .ref mS, .ref mD, .int iH, .int aE, .int mN, .long sZ, .ref mX, .int tS, .int tA, .int tW, .ref mA, .ref mB, .ref mW, .ref mL, .int lS])), (mX, .inl (cB, 2000, .inl fX))]) 0 0 := by
  refine kStart (cc := cX8_here) (maxL := 1) (ret := (some .int)) (own := RX8) (by decide) rfl rfl (Nat.le_of_ble_eq_true rfl) ?_
  intro p e s m args below meth c A ls hx hb hr hml hown hts hlocks hnm hsz hA hG hP hD hS hl
  have hK := hG.1
  have hl : lv_has ls 1 [(0, .ref m0)] := hl
  refine lv_aload_n hx hb dX8_here_0 rfl (lv_at hl 0 rfl) ?_
  refine va_get (D := D) (ci := 8) (v := .int tA) (C := RX8) (T := TX8) (N := 31) hx hb hts iX8_here_X8 hown hK hP 0 rfl rfl 24 (by decide) (hts (.fieldLink RX8 246 "TapeCalculatorModel" "at" "I") (List.mem_of_getElem? (i := 1) rfl)) (fun _ h9 => h9) rfl dX8_here_1 ?_
  refine lv_aload_n hx hb dX8_here_4 rfl (lv_at hl 0 rfl) ?_
  refine va_get (D := D) (ci := 8) (v := .int tS) (C := RX8) (T := TX8) (N := 31) hx hb hts iX8_here_X8 hown hK hP 0 rfl rfl 23 (by decide) (hts (.fieldLink RX8 243 "TapeCalculatorModel" "textSize" "I") (List.mem_of_getElem? (i := 2) rfl)) (fun _ h9 => h9) rfl dX8_here_5 ?_
  refine lv_icmp_ge (tgt := 27) hx hb dX8_here_8 (by decide) (fun c_8_0 => ?_) (fun c_8_0 => ?_)
  · have t_8_0 := c_8_0
    try simp only [kb_eq0, kb_ne0, lg_cmp_lt, lg_cmp_le, lg_cmp_gt, lg_cmp_ge, lg_cmp_eq] at t_8_0
    try simp only [Int32.lt_iff_toInt_lt, Int32.le_iff_toInt_le, ← Int32.toInt_inj, Int64.lt_iff_toInt_lt, Int64.le_iff_toInt_le, ← Int64.toInt_inj, Int32.toInt_toInt64, Int32.reduceToInt, Int64.reduceToInt] at t_8_0
    refine lv_iconst (v := (-1)) hx hb dX8_here_27 (by decide) ?_
    refine kIret (u := ()) hx hb hr rfl hlocks hS dX8_here_28 ?_ (hP.sub [0, 1] rfl) (hD.sub [0, 1] (by decide) rfl)
    unfold kHere
    first | exact (kif_t (by omega)).symm | exact (kif_f (by omega)).symm
  · have t_8_0 := c_8_0
    try simp only [kb_eq0, kb_ne0, lg_cmp_lt, lg_cmp_le, lg_cmp_gt, lg_cmp_ge, lg_cmp_eq] at t_8_0
    try simp only [Int32.lt_iff_toInt_lt, Int32.le_iff_toInt_le, ← Int32.toInt_inj, Int64.lt_iff_toInt_lt, Int64.le_iff_toInt_le, ← Int64.toInt_inj, Int32.toInt_toInt64, Int32.reduceToInt, Int64.reduceToInt] at t_8_0
    refine lv_aload_n hx hb dX8_here_11 rfl (lv_at hl 0 rfl) ?_
    refine va_get (D := D) (ci := 8) (v := .ref mX) (C := RX8) (T := TX8) (N := 31) hx hb hts iX8_here_X8 hown hK hP 0 rfl rfl 22 (by decide) (hts (.fieldLink RX8 26 "TapeCalculatorModel" "text" "[B") (List.mem_of_getElem? (i := 3) rfl)) (fun _ h9 => h9) rfl dX8_here_12 ?_
    refine lv_aload_n hx hb dX8_here_15 rfl (lv_at hl 0 rfl) ?_
    refine va_get (D := D) (ci := 8) (v := .int tA) (C := RX8) (T := TX8) (N := 31) hx hb hts iX8_here_X8 hown hK hP 0 rfl rfl 24 (by decide) (hts (.fieldLink RX8 246 "TapeCalculatorModel" "at" "I") (List.mem_of_getElem? (i := 1) rfl)) (fun _ h9 => h9) rfl dX8_here_16 ?_
    refine va_bald hx hb hK hP 1 2 rfl rfl (vp_in_iff.mpr (by omega)) dX8_here_19 ?_
    refine lv_sipush (v := 255) hx hb dX8_here_20 (by decide) ?_
    refine lv_iand hx hb dX8_here_23 ?_
    refine lv_goto (tgt := 28) hx hb dX8_here_24 (by decide) ?_
    refine kIret (u := ()) hx hb hr rfl hlocks hS dX8_here_28 ?_ (hP.sub [0, 1] rfl) (hD.sub [0, 1] (by decide) rfl)
    unfold kHere
    first | exact (kif_t (by omega)).symm | exact (kif_f (by omega)).symm
set_option maxRecDepth 100000 in
set_option maxHeartbeats 4000000 in
theorem q_isFigure (l : Launch) (D : va_G) (cI cL cB cZ cT : ClassId) (sz : Nat) (m0 mH mI mJ mS mD mX mA mB mW mL : Nat) (aM : Int32) (aC : Int64) (mM : Int32) (mQ : Int64) (oV pL lI sW dP sT : Int32) (aT : Int64) (cH iW iH aE mN : Int32) (sZ : Int64) (tS tA tW lS : Int32) (fX : Nat → Int32) (hta : 0 ≤ tA.toInt ∧ tA.toInt ≤ tS.toInt) (hts2 : tS.toInt ≤ 2000) : kM (S := Unit) l yX8_isFigure wsX8_isFigure ({ frames := 1, cells := 0, slots := 0, locals := 25 }) D (kT cI cL cB cZ cT) [.ref m0] [(m0, .inr (8, [.ref mH, .int aM, .long aC, .int mM, .long mQ, .int oV, .int pL, .int lI, .int sW, .int dP, .int sT, .long aT, .int cH, .int iW, .ref mI, .ref mJ, .ref mS, .ref mD, .int iH, .int aE, .int mN, .long sZ, .ref mX, .int tS, .int tA, .int tW, .ref mA, .ref mB, .ref mW, .ref mL, .int lS])), (mX, .inl (cB, 2000, .inl fX))] sz eI (fun r _ => r = (kb (48 ≤ (kHere tA tS fX).toInt ∧ (kHere tA tS fX).toInt ≤ 57))) (fun _ => [(m0, .inr (8, [.ref mH, .int aM, .long aC, .int mM, .long mQ, .int oV, .int pL, .int lI, .int sW, .int dP, .int sT, .long aT, .int cH, .int iW, .ref mI, .ref mJ, .ref mS, .ref mD, .int iH, .int aE, .int mN, .long sZ, .ref mX, .int tS, .int tA, .int tW, .ref mA, .ref mB, .ref mW, .ref mL, .int lS])), (mX, .inl (cB, 2000, .inl fX))]) 0 0 := by
  refine kStart (cc := cX8_isFigure) (maxL := 1) (ret := (some .boolean)) (own := RX8) (by decide) rfl rfl (Nat.le_of_ble_eq_true rfl) ?_
  intro p e s m args below meth c A ls hx hb hr hml hown hts hlocks hnm hsz hA hG hP hD hS hl
  have hK := hG.1
  have hl : lv_has ls 1 [(0, .ref m0)] := hl
  refine lv_aload_n hx hb dX8_isFigure_0 rfl (lv_at hl 0 rfl) ?_
  refine kCallI (wr := []) (va_runV (As := []) (rest := []) ⟨hx, hb, hml, hown, hts⟩ (q_here l D cI cL cB cZ cT _ m0 mH mI mJ mS mD mX mA mB mW mL aM aC mM mQ oV pL lI sW dP sT aT cH iW iH aE mN sZ tS tA tW lS fX (by omega) (by omega)) (cwV 0 hts gX8_isFigure_X8_here rfl rfl rfl (by decide +kernel) ⟨Nat.le_of_ble_eq_true rfl, Nat.le_of_ble_eq_true rfl⟩) (kPreV hG hP hD [0, 1] rfl (by decide) 0 8 rfl rfl rfl) rfl rfl hl.1 rfl (lv_room (Nat.le_of_ble_eq_true rfl)) dX8_isFigure_1 ⟨Nat.le_of_ble_eq_true rfl, Nat.le_of_ble_eq_true rfl⟩) hA hP hD hS [0, 1] [] rfl rfl (by decide) (by decide) (fun r_1 u_r_1 H locs wr_1 hP hD hS => ?_)
  have hP : va_P D vwCl [(m0, .inr (8, [.ref mH, .int aM, .long aC, .int mM, .long mQ, .int oV, .int pL, .int lI, .int sW, .int dP, .int sT, .long aT, .int cH, .int iW, .ref mI, .ref mJ, .ref mS, .ref mD, .int iH, .int aE, .int mN, .long sZ, .ref mX, .int tS, .int tA, .int tW, .ref mA, .ref mB, .ref mW, .ref mL, .int lS])), (mX, .inl (cB, 2000, .inl fX))] H := hP
  have hD : va_D A [(m0, .inr (8, [.ref mH, .int aM, .long aC, .int mM, .long mQ, .int oV, .int pL, .int lI, .int sW, .int dP, .int sT, .long aT, .int cH, .int iW, .ref mI, .ref mJ, .ref mS, .ref mD, .int iH, .int aE, .int mN, .long sZ, .ref mX, .int tS, .int tA, .int tW, .ref mA, .ref mB, .ref mW, .ref mL, .int lS])), (mX, .inl (cB, 2000, .inl fX))] := hD
  try dsimp only at wr_1
  subst wr_1
  refine lv_i2l hx hb dX8_isFigure_4 rfl ?_
  refine lv_ldc2 (v := 48) hx hb hown (hts (.constantLong RX8 252 (48)) (List.mem_of_getElem? (i := 1) rfl)) dX8_isFigure_5 ?_
  refine lv_ldc2 (v := 57) hx hb hown (hts (.constantLong RX8 254 (57)) (List.mem_of_getElem? (i := 2) rfl)) dX8_isFigure_8 ?_
  refine kCallI (wr := [(m0, .inr (8, [.ref mH, .int aM, .long aC, .int mM, .long mQ, .int oV, .int pL, .int lI, .int sW, .int dP, .int sT, .long aT, .int cH, .int iW, .ref mI, .ref mJ, .ref mS, .ref mD, .int iH, .int aE, .int mN, .long sZ, .ref mX, .int tS, .int tA, .int tW, .ref mA, .ref mB, .ref mW, .ref mL, .int lS])), (mX, .inl (cB, 2000, .inl fX))]) (va_runS (As := [.long (kHere tA tS fX).toInt64, .long 48, .long 57]) (rest := []) ⟨hx, hb, hml, hown, hts⟩ (q_in l D cI cL cB cZ cT _ (kHere tA tS fX).toInt64 48 57) (va_cwS 3 hts gX8_isFigure_X8_in rfl rfl rfl (by decide +kernel) ⟨Nat.le_of_ble_eq_true rfl, Nat.le_of_ble_eq_true rfl⟩) (kPreS hG hP hD [] rfl (by decide)) rfl rfl hl.1 rfl (lv_room (Nat.le_of_ble_eq_true rfl)) dX8_isFigure_11 ⟨Nat.le_of_ble_eq_true rfl, Nat.le_of_ble_eq_true rfl⟩) hA hP hD hS [] [0, 1] rfl rfl (by decide) (by decide) (fun r_2 u_r_2 H locs wr_2 hP hD hS => ?_)
  have hP : va_P D vwCl [(m0, .inr (8, [.ref mH, .int aM, .long aC, .int mM, .long mQ, .int oV, .int pL, .int lI, .int sW, .int dP, .int sT, .long aT, .int cH, .int iW, .ref mI, .ref mJ, .ref mS, .ref mD, .int iH, .int aE, .int mN, .long sZ, .ref mX, .int tS, .int tA, .int tW, .ref mA, .ref mB, .ref mW, .ref mL, .int lS])), (mX, .inl (cB, 2000, .inl fX))] H := hP
  have hD : va_D A [(m0, .inr (8, [.ref mH, .int aM, .long aC, .int mM, .long mQ, .int oV, .int pL, .int lI, .int sW, .int dP, .int sT, .long aT, .int cH, .int iW, .ref mI, .ref mJ, .ref mS, .ref mD, .int iH, .int aE, .int mN, .long sZ, .ref mX, .int tS, .int tA, .int tW, .ref mA, .ref mB, .ref mW, .ref mL, .int lS])), (mX, .inl (cB, 2000, .inl fX))] := hD
  try dsimp only at wr_2
  subst wr_2
  refine kIret (u := ()) hx hb hr (kz_n (kb_z _)) hlocks hS dX8_isFigure_14 ?_ (hP.sub [0, 1] rfl) (hD.sub [0, 1] (by decide) rfl)
  simp only [Int64.reduceToInt, Int32.toInt_toInt64]
set_option maxRecDepth 100000 in
theorem iX8_figures_X8 : ∀ w ∈ wsX80, w ∈ wsX8_figures := fun w h => (goodIn_r (big := wsX8_figures) wsX80 [20, 21, 22, 23, 24, 25, 26, 27, 28, 29, 30, 31, 32, 33, 34, 35, 36, 37, 38, 39, 40, 41, 42, 43, 44, 45, 46, 47, 48, 49, 50] rfl (by decide +kernel) w h).1
set_option maxRecDepth 100000 in
set_option maxHeartbeats 4000000 in
theorem q_figures (l : Launch) (D : va_G) (cI cL cB cZ cT : ClassId) (sz : Nat) (m0 mH mI mJ mS mD mX mA mB mW mL : Nat) (aM : Int32) (aC : Int64) (mM : Int32) (mQ : Int64) (oV pL lI sW dP sT : Int32) (aT : Int64) (cH iW iH aE mN : Int32) (sZ : Int64) (tS tA tW lS : Int32) (fX : Nat → Int32) (mo : Int32) (be : Int64) (mm : Nat) (mx : Int) (hmo : mo.toInt = mm) (hm1 : 1 ≤ mm ∧ mm ≤ 11) (hbe : be.toInt = mx + 1) (hta : 0 ≤ tA.toInt ∧ tA.toInt ≤ tS.toInt) (hts2 : tS.toInt ≤ 2000) : kM (S := (Int32 × Int32)) l yX8_figures wsX8_figures ({ frames := 2, cells := 0, slots := 0, locals := 45 }) D (kT cI cL cB cZ cT) [.ref m0, .int mo, .long be] [(m0, .inr (8, [.ref mH, .int aM, .long aC, .int mM, .long mQ, .int oV, .int pL, .int lI, .int sW, .int dP, .int sT, .long aT, .int cH, .int iW, .ref mI, .ref mJ, .ref mS, .ref mD, .int iH, .int aE, .int mN, .long sZ, .ref mX, .int tS, .int tA, .int tW, .ref mA, .ref mB, .ref mW, .ref mL, .int lS])), (mX, .inl (cB, 2000, .inl fX))] sz eL (fun r u => r = (kNm tS fX mm tA 0).2 ∧ (u.1) = (kNm tS fX mm tA 0).1 ∧ (u.2) = kif ((kNm tS fX mm tA 0).1.toInt = tA.toInt ∨ mx < (kNm tS fX mm tA 0).2.toInt) tA tW) (fun u => [(m0, .inr (8, [.ref mH, .int aM, .long aC, .int mM, .long mQ, .int oV, .int pL, .int lI, .int sW, .int dP, .int sT, .long aT, .int cH, .int iW, .ref mI, .ref mJ, .ref mS, .ref mD, .int iH, .int aE, .int mN, .long sZ, .ref mX, .int tS, .int u.1, .int u.2, .ref mA, .ref mB, .ref mW, .ref mL, .int lS])), (mX, .inl (cB, 2000, .inl fX))]) 0 0 := by
  refine kStart (cc := cX8_figures) (maxL := 7) (ret := (some .long)) (own := RX8) (by decide) rfl rfl (Nat.le_of_ble_eq_true rfl) ?_
  intro p e s m args below meth c A ls hx hb hr hml hown hts hlocks hnm hsz hA hG hP hD hS hl
  have hK := hG.1
  have hl : lv_has ls 7 [(0, .ref m0), (1, .int mo), (2, .long be)] := hl
  have hbm := k_addg (a := tA) (b := mo) (by omega) (by omega)
  refine lv_aload_n hx hb dX8_figures_0 rfl (lv_at hl 0 rfl) ?_
  refine va_get (D := D) (ci := 8) (v := .int tA) (C := RX8) (T := TX8) (N := 31) hx hb hts iX8_figures_X8 hown hK hP 0 rfl rfl 24 (by decide) (hts (.fieldLink RX8 246 "TapeCalculatorModel" "at" "I") (List.mem_of_getElem? (i := 1) rfl)) (fun _ h9 => h9) rfl dX8_figures_1 ?_
  refine lv_istore (lv' := [(4, .int tA), (0, .ref m0), (1, .int mo), (2, .long be)]) hx hb dX8_figures_4 hl (by decide) rfl (fun ls hl => ?_)
  refine lv_aload_n hx hb dX8_figures_6 rfl (lv_at hl 1 rfl) ?_
  refine kCallI (wr := []) (va_runV (As := []) (rest := []) ⟨hx, hb, hml, hown, hts⟩ (q_isFigure l D cI cL cB cZ cT _ m0 mH mI mJ mS mD mX mA mB mW mL aM aC mM mQ oV pL lI sW dP sT aT cH iW iH aE mN sZ tS tA tW lS fX (by omega) (by omega)) (cwV 0 hts gX8_figures_X8_isFigure rfl rfl rfl (by decide +kernel) ⟨Nat.le_of_ble_eq_true rfl, Nat.le_of_ble_eq_true rfl⟩) (kPreV hG hP hD [0, 1] rfl (by decide) 0 8 rfl rfl rfl) rfl rfl hl.1 rfl (lv_room (Nat.le_of_ble_eq_true rfl)) dX8_figures_7 ⟨Nat.le_of_ble_eq_true rfl, Nat.le_of_ble_eq_true rfl⟩) hA hP hD hS [0, 1] [] rfl rfl (by decide) (by decide) (fun r_1 u_r_1 H locs wr_1 hP hD hS => ?_)
  have hP : va_P D vwCl [(m0, .inr (8, [.ref mH, .int aM, .long aC, .int mM, .long mQ, .int oV, .int pL, .int lI, .int sW, .int dP, .int sT, .long aT, .int cH, .int iW, .ref mI, .ref mJ, .ref mS, .ref mD, .int iH, .int aE, .int mN, .long sZ, .ref mX, .int tS, .int tA, .int tW, .ref mA, .ref mB, .ref mW, .ref mL, .int lS])), (mX, .inl (cB, 2000, .inl fX))] H := hP
  have hD : va_D A [(m0, .inr (8, [.ref mH, .int aM, .long aC, .int mM, .long mQ, .int oV, .int pL, .int lI, .int sW, .int dP, .int sT, .long aT, .int cH, .int iW, .ref mI, .ref mJ, .ref mS, .ref mD, .int iH, .int aE, .int mN, .long sZ, .ref mX, .int tS, .int tA, .int tW, .ref mA, .ref mB, .ref mW, .ref mL, .int lS])), (mX, .inl (cB, 2000, .inl fX))] := hD
  try dsimp only at wr_1
  subst wr_1
  refine lv_if_ne (tgt := 23) hx hb dX8_figures_10 (by decide) (fun c_10_1 => ?_) (fun c_10_1 => ?_)
  · have t_10_1 := c_10_1
    try simp only [kb_eq0, kb_ne0, lg_cmp_lt, lg_cmp_le, lg_cmp_gt, lg_cmp_ge, lg_cmp_eq] at t_10_1
    try simp only [Int32.lt_iff_toInt_lt, Int32.le_iff_toInt_le, ← Int32.toInt_inj, Int64.lt_iff_toInt_lt, Int64.le_iff_toInt_le, ← Int64.toInt_inj, Int32.toInt_toInt64, Int32.reduceToInt, Int64.reduceToInt] at t_10_1
    have hfig : 48 ≤ (kHere tA tS fX).toInt ∧ (kHere tA tS fX).toInt ≤ 57 := by omega
    refine lv_lconst (v := 0) hx hb dX8_figures_23 (by decide) ?_
    refine lv_lstore (lv' := [(5, .long 0), (4, .int tA), (0, .ref m0), (1, .int mo), (2, .long be)]) hx hb dX8_figures_24 hl (by decide) rfl (fun ls hl => ?_)
    have J26 : ∀ (k : Nat) (va : Int32) (v : Int64), (tA.toInt + mo.toInt - va.toInt).toNat < k → (∃ g : Nat, va.toInt = tA.toInt + g ∧ g ≤ mm ∧ kNm tS fX (mm - g) va v = kNm tS fX mm tA 0 ∧ va.toInt ≤ tS.toInt) → ∀ (H : Heap) (locs : List Loc), va_P D vwCl [(m0, .inr (8, [.ref mH, .int aM, .long aC, .int mM, .long mQ, .int oV, .int pL, .int lI, .int sW, .int dP, .int sT, .long aT, .int cH, .int iW, .ref mI, .ref mJ, .ref mS, .ref mD, .int iH, .int aE, .int mN, .long sZ, .ref mX, .int tS, .int va, .int tW, .ref mA, .ref mB, .ref mW, .ref mL, .int lS])), (mX, .inl (cB, 2000, .inl fX))] H → va_D A [(m0, .inr (8, [.ref mH, .int aM, .long aC, .int mM, .long mQ, .int oV, .int pL, .int lI, .int sW, .int dP, .int sT, .long aT, .int cH, .int iW, .ref mI, .ref mJ, .ref mS, .ref mD, .int iH, .int aE, .int mN, .long sZ, .ref mX, .int tS, .int va, .int tW, .ref mA, .ref mB, .ref mW, .ref mL, .int lS])), (mX, .inl (cB, 2000, .inl fX))] → va_S A s.heap H locs → ∀ ls : Array Slot, lv_has ls 7 [(5, .long v), (4, .int tA), (0, .ref m0), (1, .int mo), (2, .long be)] → W p l e ({ frames := 2, cells := 0, slots := 0, locals := 45 }) s m args below meth c H locs 0 0 (MQ below (kQ (S := (Int32 × Int32)) eL (fun r u => r = (kNm tS fX mm tA 0).2 ∧ (u.1) = (kNm tS fX mm tA 0).1 ∧ (u.2) = kif ((kNm tS fX mm tA 0).1.toInt = tA.toInt ∨ mx < (kNm tS fX mm tA 0).2.toInt) tA tW) D (fun u => [(m0, .inr (8, [.ref mH, .int aM, .long aC, .int mM, .long mQ, .int oV, .int pL, .int lI, .int sW, .int dP, .int sT, .long aT, .int cH, .int iW, .ref mI, .ref mJ, .ref mS, .ref mD, .int iH, .int aE, .int mN, .long sZ, .ref mX, .int tS, .int u.1, .int u.2, .ref mA, .ref mB, .ref mW, .ref mL, .int lS])), (mX, .inl (cB, 2000, .inl fX))]) A) args s 0 0 A) (F0 m 26 ls []) := by
      intro k
      induction k with
      | zero =>
        intro va v hm
        exact absurd hm (Nat.not_lt_zero _)
      | succ k ih =>
        intro va v hm hj H locs hP hD hS ls hl
        refine lv_aload_n hx hb dX8_figures_26 rfl (lv_at hl 2 rfl) ?_
        refine va_get (D := D) (ci := 8) (v := .int va) (C := RX8) (T := TX8) (N := 31) hx hb hts iX8_figures_X8 hown hK hP 0 rfl rfl 24 (by decide) (hts (.fieldLink RX8 246 "TapeCalculatorModel" "at" "I") (List.mem_of_getElem? (i := 1) rfl)) (fun _ h9 => h9) rfl dX8_figures_27 ?_
        refine lv_iload hx hb dX8_figures_30 (lv_at hl 1 rfl) ?_
        refine lv_iload_n hx hb dX8_figures_32 rfl (lv_at hl 3 rfl) ?_
        refine lv_iadd hx hb dX8_figures_33 ?_
        refine lv_icmp_ge (tgt := 75) hx hb dX8_figures_34 (by decide) (fun c_34_2 => ?_) (fun c_34_2 => ?_)
        · have t_34_2 := c_34_2
          try simp only [kb_eq0, kb_ne0, lg_cmp_lt, lg_cmp_le, lg_cmp_gt, lg_cmp_ge, lg_cmp_eq] at t_34_2
          try simp only [Int32.lt_iff_toInt_lt, Int32.le_iff_toInt_le, ← Int32.toInt_inj, Int64.lt_iff_toInt_lt, Int64.le_iff_toInt_le, ← Int64.toInt_inj, Int32.toInt_toInt64, Int32.reduceToInt, Int64.reduceToInt] at t_34_2
          obtain ⟨g, g1, g2, g3, g4⟩ := hj
          have hend : kNm tS fX mm tA 0 = (va, v) := by
            rw [← g3]
            rw [show mm - g = 0 by omega]; rfl
          have hne : ¬ va.toInt = tA.toInt := by omega
          refine lv_lload hx hb dX8_figures_75 (lv_at hl 0 rfl) ?_
          refine lv_lload_n hx hb dX8_figures_77 rfl (lv_at hl 4 rfl) ?_
          refine W.lcmp hx hb dX8_figures_78 ?_
          refine lv_if_lt (tgt := 88) hx hb dX8_figures_79 (by decide) (fun c_79_3 => ?_) (fun c_79_3 => ?_)
          · have t_79_3 := c_79_3
            try simp only [kb_eq0, kb_ne0, lg_cmp_lt, lg_cmp_le, lg_cmp_gt, lg_cmp_ge, lg_cmp_eq] at t_79_3
            try simp only [Int32.lt_iff_toInt_lt, Int32.le_iff_toInt_le, ← Int32.toInt_inj, Int64.lt_iff_toInt_lt, Int64.le_iff_toInt_le, ← Int64.toInt_inj, Int32.toInt_toInt64, Int32.reduceToInt, Int64.reduceToInt] at t_79_3
            refine lv_lload hx hb dX8_figures_88 (lv_at hl 0 rfl) ?_
            refine kLret (u := (va, tW)) hx hb hr hlocks hS dX8_figures_90 ?_ (hP.sub [0, 1] rfl) (hD.sub [0, 1] (by decide) rfl)
            try dsimp only
            rw [hend]
            try dsimp only
            first | exact ⟨rfl, rfl, (kif_t (by omega)).symm⟩ | exact ⟨rfl, rfl, (kif_f (by omega)).symm⟩
          · have t_79_3 := c_79_3
            try simp only [kb_eq0, kb_ne0, lg_cmp_lt, lg_cmp_le, lg_cmp_gt, lg_cmp_ge, lg_cmp_eq] at t_79_3
            try simp only [Int32.lt_iff_toInt_lt, Int32.le_iff_toInt_le, ← Int32.toInt_inj, Int64.lt_iff_toInt_lt, Int64.le_iff_toInt_le, ← Int64.toInt_inj, Int32.toInt_toInt64, Int32.reduceToInt, Int64.reduceToInt] at t_79_3
            refine lv_aload_n hx hb dX8_figures_82 rfl (lv_at hl 2 rfl) ?_
            refine lv_iload hx hb dX8_figures_83 (lv_at hl 1 rfl) ?_
            refine va_put (D := D) (ci := 8) (v := .int tA) (ty := .int) (C := RX8) (T := TX8) (N := 31) hx hb hts iX8_figures_X8 tyX8 tyX8_ok nmX8 hown hK hP hD hS 0 rfl rfl 25 (by decide) (hts (.fieldLink RX8 259 "TapeCalculatorModel" "wrong" "I") (List.mem_of_getElem? (i := 2) rfl)) (fun _ h9 => h9) rfl (by decide +kernel) rfl rfl (Nat.le_of_ble_eq_true rfl) dX8_figures_85 (fun H locs hP hD hS => ?_)
            have hP : va_P D vwCl [(m0, .inr (8, [.ref mH, .int aM, .long aC, .int mM, .long mQ, .int oV, .int pL, .int lI, .int sW, .int dP, .int sT, .long aT, .int cH, .int iW, .ref mI, .ref mJ, .ref mS, .ref mD, .int iH, .int aE, .int mN, .long sZ, .ref mX, .int tS, .int va, .int tA, .ref mA, .ref mB, .ref mW, .ref mL, .int lS])), (mX, .inl (cB, 2000, .inl fX))] H := hP
            have hD : va_D A [(m0, .inr (8, [.ref mH, .int aM, .long aC, .int mM, .long mQ, .int oV, .int pL, .int lI, .int sW, .int dP, .int sT, .long aT, .int cH, .int iW, .ref mI, .ref mJ, .ref mS, .ref mD, .int iH, .int aE, .int mN, .long sZ, .ref mX, .int tS, .int va, .int tA, .ref mA, .ref mB, .ref mW, .ref mL, .int lS])), (mX, .inl (cB, 2000, .inl fX))] := hD
            refine lv_lload hx hb dX8_figures_88 (lv_at hl 0 rfl) ?_
            refine kLret (u := (va, tA)) hx hb hr hlocks hS dX8_figures_90 ?_ (hP.sub [0, 1] rfl) (hD.sub [0, 1] (by decide) rfl)
            try dsimp only
            rw [hend]
            try dsimp only
            first | exact ⟨rfl, rfl, (kif_t (by omega)).symm⟩ | exact ⟨rfl, rfl, (kif_f (by omega)).symm⟩
        · have t_34_2 := c_34_2
          try simp only [kb_eq0, kb_ne0, lg_cmp_lt, lg_cmp_le, lg_cmp_gt, lg_cmp_ge, lg_cmp_eq] at t_34_2
          try simp only [Int32.lt_iff_toInt_lt, Int32.le_iff_toInt_le, ← Int32.toInt_inj, Int64.lt_iff_toInt_lt, Int64.le_iff_toInt_le, ← Int64.toInt_inj, Int32.toInt_toInt64, Int32.reduceToInt, Int64.reduceToInt] at t_34_2
          obtain ⟨g, g1, g2, g3, g4⟩ := hj
          refine lv_aload_n hx hb dX8_figures_37 rfl (lv_at hl 2 rfl) ?_
          refine kCallI (wr := []) (va_runV (As := []) (rest := []) ⟨hx, hb, hml, hown, hts⟩ (q_isFigure l D cI cL cB cZ cT _ m0 mH mI mJ mS mD mX mA mB mW mL aM aC mM mQ oV pL lI sW dP sT aT cH iW iH aE mN sZ tS va tW lS fX (by omega) (by omega)) (cwV 0 hts gX8_figures_X8_isFigure rfl rfl rfl (by decide +kernel) ⟨Nat.le_of_ble_eq_true rfl, Nat.le_of_ble_eq_true rfl⟩) (kPreV hG hP hD [0, 1] rfl (by decide) 0 8 rfl rfl rfl) rfl rfl hl.1 rfl (lv_room (Nat.le_of_ble_eq_true rfl)) dX8_figures_38 ⟨Nat.le_of_ble_eq_true rfl, Nat.le_of_ble_eq_true rfl⟩) hA hP hD hS [0, 1] [] rfl rfl (by decide) (by decide) (fun r_5 u_r_5 H locs wr_5 hP hD hS => ?_)
          have hP : va_P D vwCl [(m0, .inr (8, [.ref mH, .int aM, .long aC, .int mM, .long mQ, .int oV, .int pL, .int lI, .int sW, .int dP, .int sT, .long aT, .int cH, .int iW, .ref mI, .ref mJ, .ref mS, .ref mD, .int iH, .int aE, .int mN, .long sZ, .ref mX, .int tS, .int va, .int tW, .ref mA, .ref mB, .ref mW, .ref mL, .int lS])), (mX, .inl (cB, 2000, .inl fX))] H := hP
          have hD : va_D A [(m0, .inr (8, [.ref mH, .int aM, .long aC, .int mM, .long mQ, .int oV, .int pL, .int lI, .int sW, .int dP, .int sT, .long aT, .int cH, .int iW, .ref mI, .ref mJ, .ref mS, .ref mD, .int iH, .int aE, .int mN, .long sZ, .ref mX, .int tS, .int va, .int tW, .ref mA, .ref mB, .ref mW, .ref mL, .int lS])), (mX, .inl (cB, 2000, .inl fX))] := hD
          try dsimp only at wr_5
          subst wr_5
          refine lv_if_eq (tgt := 75) hx hb dX8_figures_41 (by decide) (fun c_41_5 => ?_) (fun c_41_5 => ?_)
          · have t_41_5 := c_41_5
            try simp only [kb_eq0, kb_ne0, lg_cmp_lt, lg_cmp_le, lg_cmp_gt, lg_cmp_ge, lg_cmp_eq] at t_41_5
            try simp only [Int32.lt_iff_toInt_lt, Int32.le_iff_toInt_le, ← Int32.toInt_inj, Int64.lt_iff_toInt_lt, Int64.le_iff_toInt_le, ← Int64.toInt_inj, Int32.toInt_toInt64, Int32.reduceToInt, Int64.reduceToInt] at t_41_5
            have hend : kNm tS fX mm tA 0 = (va, v) := by
              rw [← g3]
              exact kNm_e (by omega)
            have hne : ¬ va.toInt = tA.toInt := fun h => absurd hfig (by have e9 := k_inj h; rw [← e9]; omega)
            refine lv_lload hx hb dX8_figures_75 (lv_at hl 0 rfl) ?_
            refine lv_lload_n hx hb dX8_figures_77 rfl (lv_at hl 4 rfl) ?_
            refine W.lcmp hx hb dX8_figures_78 ?_
            refine lv_if_lt (tgt := 88) hx hb dX8_figures_79 (by decide) (fun c_79_6 => ?_) (fun c_79_6 => ?_)
            · have t_79_6 := c_79_6
              try simp only [kb_eq0, kb_ne0, lg_cmp_lt, lg_cmp_le, lg_cmp_gt, lg_cmp_ge, lg_cmp_eq] at t_79_6
              try simp only [Int32.lt_iff_toInt_lt, Int32.le_iff_toInt_le, ← Int32.toInt_inj, Int64.lt_iff_toInt_lt, Int64.le_iff_toInt_le, ← Int64.toInt_inj, Int32.toInt_toInt64, Int32.reduceToInt, Int64.reduceToInt] at t_79_6
              refine lv_lload hx hb dX8_figures_88 (lv_at hl 0 rfl) ?_
              refine kLret (u := (va, tW)) hx hb hr hlocks hS dX8_figures_90 ?_ (hP.sub [0, 1] rfl) (hD.sub [0, 1] (by decide) rfl)
              try dsimp only
              rw [hend]
              try dsimp only
              first | exact ⟨rfl, rfl, (kif_t (by omega)).symm⟩ | exact ⟨rfl, rfl, (kif_f (by omega)).symm⟩
            · have t_79_6 := c_79_6
              try simp only [kb_eq0, kb_ne0, lg_cmp_lt, lg_cmp_le, lg_cmp_gt, lg_cmp_ge, lg_cmp_eq] at t_79_6
              try simp only [Int32.lt_iff_toInt_lt, Int32.le_iff_toInt_le, ← Int32.toInt_inj, Int64.lt_iff_toInt_lt, Int64.le_iff_toInt_le, ← Int64.toInt_inj, Int32.toInt_toInt64, Int32.reduceToInt, Int64.reduceToInt] at t_79_6
              refine lv_aload_n hx hb dX8_figures_82 rfl (lv_at hl 2 rfl) ?_
              refine lv_iload hx hb dX8_figures_83 (lv_at hl 1 rfl) ?_
              refine va_put (D := D) (ci := 8) (v := .int tA) (ty := .int) (C := RX8) (T := TX8) (N := 31) hx hb hts iX8_figures_X8 tyX8 tyX8_ok nmX8 hown hK hP hD hS 0 rfl rfl 25 (by decide) (hts (.fieldLink RX8 259 "TapeCalculatorModel" "wrong" "I") (List.mem_of_getElem? (i := 2) rfl)) (fun _ h9 => h9) rfl (by decide +kernel) rfl rfl (Nat.le_of_ble_eq_true rfl) dX8_figures_85 (fun H locs hP hD hS => ?_)
              have hP : va_P D vwCl [(m0, .inr (8, [.ref mH, .int aM, .long aC, .int mM, .long mQ, .int oV, .int pL, .int lI, .int sW, .int dP, .int sT, .long aT, .int cH, .int iW, .ref mI, .ref mJ, .ref mS, .ref mD, .int iH, .int aE, .int mN, .long sZ, .ref mX, .int tS, .int va, .int tA, .ref mA, .ref mB, .ref mW, .ref mL, .int lS])), (mX, .inl (cB, 2000, .inl fX))] H := hP
              have hD : va_D A [(m0, .inr (8, [.ref mH, .int aM, .long aC, .int mM, .long mQ, .int oV, .int pL, .int lI, .int sW, .int dP, .int sT, .long aT, .int cH, .int iW, .ref mI, .ref mJ, .ref mS, .ref mD, .int iH, .int aE, .int mN, .long sZ, .ref mX, .int tS, .int va, .int tA, .ref mA, .ref mB, .ref mW, .ref mL, .int lS])), (mX, .inl (cB, 2000, .inl fX))] := hD
              refine lv_lload hx hb dX8_figures_88 (lv_at hl 0 rfl) ?_
              refine kLret (u := (va, tA)) hx hb hr hlocks hS dX8_figures_90 ?_ (hP.sub [0, 1] rfl) (hD.sub [0, 1] (by decide) rfl)
              try dsimp only
              rw [hend]
              try dsimp only
              first | exact ⟨rfl, rfl, (kif_t (by omega)).symm⟩ | exact ⟨rfl, rfl, (kif_f (by omega)).symm⟩
          · have t_41_5 := c_41_5
            try simp only [kb_eq0, kb_ne0, lg_cmp_lt, lg_cmp_le, lg_cmp_gt, lg_cmp_ge, lg_cmp_eq] at t_41_5
            try simp only [Int32.lt_iff_toInt_lt, Int32.le_iff_toInt_le, ← Int32.toInt_inj, Int64.lt_iff_toInt_lt, Int64.le_iff_toInt_le, ← Int64.toInt_inj, Int32.toInt_toInt64, Int32.reduceToInt, Int64.reduceToInt] at t_41_5
            refine lv_ldc2 (v := 10) hx hb hown (hts (.constantLong RX8 262 (10)) (List.mem_of_getElem? (i := 3) rfl)) dX8_figures_44 ?_
            refine lv_lload hx hb dX8_figures_47 (lv_at hl 0 rfl) ?_
            refine lv_lmul hx hb dX8_figures_49 ?_
            refine lv_aload_n hx hb dX8_figures_50 rfl (lv_at hl 2 rfl) ?_
            refine kCallI (wr := []) (va_runV (As := []) (rest := [.long (10 * v)]) ⟨hx, hb, hml, hown, hts⟩ (q_here l D cI cL cB cZ cT _ m0 mH mI mJ mS mD mX mA mB mW mL aM aC mM mQ oV pL lI sW dP sT aT cH iW iH aE mN sZ tS va tW lS fX (by omega) (by omega)) (cwV 0 hts gX8_figures_X8_here rfl rfl rfl (by decide +kernel) ⟨Nat.le_of_ble_eq_true rfl, Nat.le_of_ble_eq_true rfl⟩) (kPreV hG hP hD [0, 1] rfl (by decide) 0 8 rfl rfl rfl) rfl rfl hl.1 rfl (lv_room (Nat.le_of_ble_eq_true rfl)) dX8_figures_51 ⟨Nat.le_of_ble_eq_true rfl, Nat.le_of_ble_eq_true rfl⟩) hA hP hD hS [0, 1] [] rfl rfl (by decide) (by decide) (fun r_8 u_r_8 H locs wr_8 hP hD hS => ?_)
            have hP : va_P D vwCl [(m0, .inr (8, [.ref mH, .int aM, .long aC, .int mM, .long mQ, .int oV, .int pL, .int lI, .int sW, .int dP, .int sT, .long aT, .int cH, .int iW, .ref mI, .ref mJ, .ref mS, .ref mD, .int iH, .int aE, .int mN, .long sZ, .ref mX, .int tS, .int va, .int tW, .ref mA, .ref mB, .ref mW, .ref mL, .int lS])), (mX, .inl (cB, 2000, .inl fX))] H := hP
            have hD : va_D A [(m0, .inr (8, [.ref mH, .int aM, .long aC, .int mM, .long mQ, .int oV, .int pL, .int lI, .int sW, .int dP, .int sT, .long aT, .int cH, .int iW, .ref mI, .ref mJ, .ref mS, .ref mD, .int iH, .int aE, .int mN, .long sZ, .ref mX, .int tS, .int va, .int tW, .ref mA, .ref mB, .ref mW, .ref mL, .int lS])), (mX, .inl (cB, 2000, .inl fX))] := hD
            try dsimp only at wr_8
            subst wr_8
            refine lv_i2l hx hb dX8_figures_54 rfl ?_
            refine lv_ladd hx hb dX8_figures_55 ?_
            refine lv_ldc2 (v := 48) hx hb hown (hts (.constantLong RX8 252 (48)) (List.mem_of_getElem? (i := 4) rfl)) dX8_figures_56 ?_
            refine lv_lsub hx hb dX8_figures_59 ?_
            refine lv_topl (fun x_9 ex_9 => ?_)
            refine lv_lstore (lv' := [(5, .long x_9), (4, .int tA), (0, .ref m0), (1, .int mo), (2, .long be)]) hx hb dX8_figures_60 hl (by decide) rfl (fun ls hl => ?_)
            refine lv_aload_n hx hb dX8_figures_62 rfl (lv_at hl 2 rfl) ?_
            refine lv_dup hx hb dX8_figures_63 rfl ?_
            refine va_get (D := D) (ci := 8) (v := .int va) (C := RX8) (T := TX8) (N := 31) hx hb hts iX8_figures_X8 hown hK hP 0 rfl rfl 24 (by decide) (hts (.fieldLink RX8 246 "TapeCalculatorModel" "at" "I") (List.mem_of_getElem? (i := 1) rfl)) (fun _ h9 => h9) rfl dX8_figures_64 ?_
            refine lv_iconst (v := 1) hx hb dX8_figures_67 (by decide) ?_
            refine lv_iadd hx hb dX8_figures_68 ?_
            refine lv_topi (fun x_10 ex_10 => ?_)
            refine va_put (D := D) (ci := 8) (v := .int x_10) (ty := .int) (C := RX8) (T := TX8) (N := 31) hx hb hts iX8_figures_X8 tyX8 tyX8_ok nmX8 hown hK hP hD hS 0 rfl rfl 24 (by decide) (hts (.fieldLink RX8 246 "TapeCalculatorModel" "at" "I") (List.mem_of_getElem? (i := 1) rfl)) (fun _ h9 => h9) rfl (by decide +kernel) rfl rfl (Nat.le_of_ble_eq_true rfl) dX8_figures_69 (fun H locs hP hD hS => ?_)
            have hP : va_P D vwCl [(m0, .inr (8, [.ref mH, .int aM, .long aC, .int mM, .long mQ, .int oV, .int pL, .int lI, .int sW, .int dP, .int sT, .long aT, .int cH, .int iW, .ref mI, .ref mJ, .ref mS, .ref mD, .int iH, .int aE, .int mN, .long sZ, .ref mX, .int tS, .int x_10, .int tW, .ref mA, .ref mB, .ref mW, .ref mL, .int lS])), (mX, .inl (cB, 2000, .inl fX))] H := hP
            have hD : va_D A [(m0, .inr (8, [.ref mH, .int aM, .long aC, .int mM, .long mQ, .int oV, .int pL, .int lI, .int sW, .int dP, .int sT, .long aT, .int cH, .int iW, .ref mI, .ref mJ, .ref mS, .ref mD, .int iH, .int aE, .int mN, .long sZ, .ref mX, .int tS, .int x_10, .int tW, .ref mA, .ref mB, .ref mW, .ref mL, .int lS])), (mX, .inl (cB, 2000, .inl fX))] := hD
            refine lv_goto (tgt := 26) hx hb dX8_figures_72 (by decide) ?_
            have hc := kHere_c (a := va) (t := tS) (f := fX) (by omega)
            have hd := k_add1 (a := va) (by omega)
            rw [← ex_10] at hd
            have hq : mm - g = (mm - (g + 1)) + 1 := by omega
            rw [hq, kNm_s (t := tS) (f := fX) (a := va) (by omega)] at g3
            exact ih x_10 x_9 (by omega) ⟨g + 1, by omega, by omega, by rw [ex_10, ex_9]; exact g3, by omega⟩ _ _ (hP.sub [0, 1] rfl) (hD.sub [0, 1] (by decide) rfl) hS ls (lv_sub hl [0, 1, 2, 3, 4] rfl)
    exact J26 _ tA 0 (Nat.lt_succ_self _) ⟨0, by omega, by omega, rfl, by omega⟩ _ _ (hP.sub [0, 1] rfl) (hD.sub [0, 1] (by decide) rfl) hS ls (lv_sub hl [0, 1, 2, 3, 4] rfl)
  · have t_10_1 := c_10_1
    try simp only [kb_eq0, kb_ne0, lg_cmp_lt, lg_cmp_le, lg_cmp_gt, lg_cmp_ge, lg_cmp_eq] at t_10_1
    try simp only [Int32.lt_iff_toInt_lt, Int32.le_iff_toInt_le, ← Int32.toInt_inj, Int64.lt_iff_toInt_lt, Int64.le_iff_toInt_le, ← Int64.toInt_inj, Int32.toInt_toInt64, Int32.reduceToInt, Int64.reduceToInt] at t_10_1
    refine lv_aload_n hx hb dX8_figures_13 rfl (lv_at hl 1 rfl) ?_
    refine lv_aload_n hx hb dX8_figures_14 rfl (lv_at hl 1 rfl) ?_
    refine va_get (D := D) (ci := 8) (v := .int tA) (C := RX8) (T := TX8) (N := 31) hx hb hts iX8_figures_X8 hown hK hP 0 rfl rfl 24 (by decide) (hts (.fieldLink RX8 246 "TapeCalculatorModel" "at" "I") (List.mem_of_getElem? (i := 1) rfl)) (fun _ h9 => h9) rfl dX8_figures_15 ?_
    refine va_put (D := D) (ci := 8) (v := .int tA) (ty := .int) (C := RX8) (T := TX8) (N := 31) hx hb hts iX8_figures_X8 tyX8 tyX8_ok nmX8 hown hK hP hD hS 0 rfl rfl 25 (by decide) (hts (.fieldLink RX8 259 "TapeCalculatorModel" "wrong" "I") (List.mem_of_getElem? (i := 2) rfl)) (fun _ h9 => h9) rfl (by decide +kernel) rfl rfl (Nat.le_of_ble_eq_true rfl) dX8_figures_18 (fun H locs hP hD hS => ?_)
    have hP : va_P D vwCl [(m0, .inr (8, [.ref mH, .int aM, .long aC, .int mM, .long mQ, .int oV, .int pL, .int lI, .int sW, .int dP, .int sT, .long aT, .int cH, .int iW, .ref mI, .ref mJ, .ref mS, .ref mD, .int iH, .int aE, .int mN, .long sZ, .ref mX, .int tS, .int tA, .int tA, .ref mA, .ref mB, .ref mW, .ref mL, .int lS])), (mX, .inl (cB, 2000, .inl fX))] H := hP
    have hD : va_D A [(m0, .inr (8, [.ref mH, .int aM, .long aC, .int mM, .long mQ, .int oV, .int pL, .int lI, .int sW, .int dP, .int sT, .long aT, .int cH, .int iW, .ref mI, .ref mJ, .ref mS, .ref mD, .int iH, .int aE, .int mN, .long sZ, .ref mX, .int tS, .int tA, .int tA, .ref mA, .ref mB, .ref mW, .ref mL, .int lS])), (mX, .inl (cB, 2000, .inl fX))] := hD
    refine lv_lconst (v := 0) hx hb dX8_figures_21 (by decide) ?_
    refine kLret (u := (tA, tA)) hx hb hr hlocks hS dX8_figures_22 ?_ (hP.sub [0, 1] rfl) (hD.sub [0, 1] (by decide) rfl)
    try dsimp only
    have hend : kNm tS fX mm tA 0 = (tA, 0) := kNm_e (by omega)
    rw [hend]
    exact ⟨rfl, rfl, (kif_t (Or.inl rfl)).symm⟩
set_option maxRecDepth 100000 in
theorem iX8_sign_X8 : ∀ w ∈ wsX80, w ∈ wsX8_sign := fun w h => (goodIn_r (big := wsX8_sign) wsX80 [10, 11, 12, 13, 14, 15, 16, 17, 18, 19, 20, 21, 22, 23, 24, 25, 26, 27, 28, 29, 30, 31, 32, 33, 34, 35, 36, 37, 38, 39, 40] rfl (by decide +kernel) w h).1
set_option maxRecDepth 100000 in
set_option maxHeartbeats 4000000 in
theorem q_sign (l : Launch) (D : va_G) (cI cL cB cZ cT : ClassId) (sz : Nat) (m0 mH mI mJ mS mD mX mA mB mW mL : Nat) (aM : Int32) (aC : Int64) (mM : Int32) (mQ : Int64) (oV pL lI sW dP sT : Int32) (aT : Int64) (cH iW iH aE mN : Int32) (sZ : Int64) (tS tA tW lS : Int32) (fX : Nat → Int32) (hta : 0 ≤ tA.toInt ∧ tA.toInt ≤ tS.toInt) (hts2 : tS.toInt ≤ 2000) : kM (S := (Int32 × Int32)) l yX8_sign wsX8_sign ({ frames := 1, cells := 0, slots := 0, locals := 20 }) D (kT cI cL cB cZ cT) [.ref m0] [(m0, .inr (8, [.ref mH, .int aM, .long aC, .int mM, .long mQ, .int oV, .int pL, .int lI, .int sW, .int dP, .int sT, .long aT, .int cH, .int iW, .ref mI, .ref mJ, .ref mS, .ref mD, .int iH, .int aE, .int mN, .long sZ, .ref mX, .int tS, .int tA, .int tW, .ref mA, .ref mB, .ref mW, .ref mL, .int lS])), (mX, .inl (cB, 2000, .inl fX))] sz eI (fun r u => (r.toInt = 0 ∨ r.toInt = 1) ∧ (u.1) = kSg tA tS fX ∧ (u.2) = kif ((kHere tA tS fX).toInt = 45 ∨ (kHere tA tS fX).toInt = 43) tW tA) (fun u => [(m0, .inr (8, [.ref mH, .int aM, .long aC, .int mM, .long mQ, .int oV, .int pL, .int lI, .int sW, .int dP, .int sT, .long aT, .int cH, .int iW, .ref mI, .ref mJ, .ref mS, .ref mD, .int iH, .int aE, .int mN, .long sZ, .ref mX, .int tS, .int u.1, .int u.2, .ref mA, .ref mB, .ref mW, .ref mL, .int lS])), (mX, .inl (cB, 2000, .inl fX))]) 0 0 := by
  refine kStart (cc := cX8_sign) (maxL := 2) (ret := (some .boolean)) (own := RX8) (by decide) rfl rfl (Nat.le_of_ble_eq_true rfl) ?_
  intro p e s m args below meth c A ls hx hb hr hml hown hts hlocks hnm hsz hA hG hP hD hS hl
  have hK := hG.1
  have hl : lv_has ls 2 [(0, .ref m0)] := hl
  refine lv_aload_n hx hb dX8_sign_0 rfl (lv_at hl 0 rfl) ?_
  refine kCallI (wr := []) (va_runV (As := []) (rest := []) ⟨hx, hb, hml, hown, hts⟩ (q_here l D cI cL cB cZ cT _ m0 mH mI mJ mS mD mX mA mB mW mL aM aC mM mQ oV pL lI sW dP sT aT cH iW iH aE mN sZ tS tA tW lS fX (by omega) (by omega)) (cwV 0 hts gX8_sign_X8_here rfl rfl rfl (by decide +kernel) ⟨Nat.le_of_ble_eq_true rfl, Nat.le_of_ble_eq_true rfl⟩) (kPreV hG hP hD [0, 1] rfl (by decide) 0 8 rfl rfl rfl) rfl rfl hl.1 rfl (lv_room (Nat.le_of_ble_eq_true rfl)) dX8_sign_1 ⟨Nat.le_of_ble_eq_true rfl, Nat.le_of_ble_eq_true rfl⟩) hA hP hD hS [0, 1] [] rfl rfl (by decide) (by decide) (fun r_1 u_r_1 H locs wr_1 hP hD hS => ?_)
  have hP : va_P D vwCl [(m0, .inr (8, [.ref mH, .int aM, .long aC, .int mM, .long mQ, .int oV, .int pL, .int lI, .int sW, .int dP, .int sT, .long aT, .int cH, .int iW, .ref mI, .ref mJ, .ref mS, .ref mD, .int iH, .int aE, .int mN, .long sZ, .ref mX, .int tS, .int tA, .int tW, .ref mA, .ref mB, .ref mW, .ref mL, .int lS])), (mX, .inl (cB, 2000, .inl fX))] H := hP
  have hD : va_D A [(m0, .inr (8, [.ref mH, .int aM, .long aC, .int mM, .long mQ, .int oV, .int pL, .int lI, .int sW, .int dP, .int sT, .long aT, .int cH, .int iW, .ref mI, .ref mJ, .ref mS, .ref mD, .int iH, .int aE, .int mN, .long sZ, .ref mX, .int tS, .int tA, .int tW, .ref mA, .ref mB, .ref mW, .ref mL, .int lS])), (mX, .inl (cB, 2000, .inl fX))] := hD
  try dsimp only at wr_1
  subst wr_1
  refine lv_bipush (v := 45) hx hb dX8_sign_4 (by decide) ?_
  refine lv_icmp_ne (tgt := 13) hx hb dX8_sign_6 (by decide) (fun c_6_1 => ?_) (fun c_6_1 => ?_)
  · have t_6_1 := c_6_1
    try simp only [kb_eq0, kb_ne0, lg_cmp_lt, lg_cmp_le, lg_cmp_gt, lg_cmp_ge, lg_cmp_eq] at t_6_1
    try simp only [Int32.lt_iff_toInt_lt, Int32.le_iff_toInt_le, ← Int32.toInt_inj, Int64.lt_iff_toInt_lt, Int64.le_iff_toInt_le, ← Int64.toInt_inj, Int32.toInt_toInt64, Int32.reduceToInt, Int64.reduceToInt] at t_6_1
    refine lv_iconst (v := 0) hx hb dX8_sign_13 (by decide) ?_
    refine lv_istore_n (lv' := [(1, .int 0), (0, .ref m0)]) hx hb dX8_sign_14 rfl hl (by decide) rfl (fun ls hl => ?_)
    refine lv_iload_n hx hb dX8_sign_15 rfl (lv_at hl 0 rfl) ?_
    refine lv_if_ne (tgt := 39) hx hb dX8_sign_16 (by decide) (fun c_16_2 => ?_) (fun c_16_2 => ?_)
    · exact absurd (by decide) c_16_2
    · have t_16_2 := c_16_2
      try simp only [kb_eq0, kb_ne0, lg_cmp_lt, lg_cmp_le, lg_cmp_gt, lg_cmp_ge, lg_cmp_eq] at t_16_2
      try simp only [Int32.lt_iff_toInt_lt, Int32.le_iff_toInt_le, ← Int32.toInt_inj, Int64.lt_iff_toInt_lt, Int64.le_iff_toInt_le, ← Int64.toInt_inj, Int32.toInt_toInt64, Int32.reduceToInt, Int64.reduceToInt] at t_16_2
      refine lv_aload_n hx hb dX8_sign_19 rfl (lv_at hl 1 rfl) ?_
      refine kCallI (wr := []) (va_runV (As := []) (rest := []) ⟨hx, hb, hml, hown, hts⟩ (q_here l D cI cL cB cZ cT _ m0 mH mI mJ mS mD mX mA mB mW mL aM aC mM mQ oV pL lI sW dP sT aT cH iW iH aE mN sZ tS tA tW lS fX (by omega) (by omega)) (cwV 0 hts gX8_sign_X8_here rfl rfl rfl (by decide +kernel) ⟨Nat.le_of_ble_eq_true rfl, Nat.le_of_ble_eq_true rfl⟩) (kPreV hG hP hD [0, 1] rfl (by decide) 0 8 rfl rfl rfl) rfl rfl hl.1 rfl (lv_room (Nat.le_of_ble_eq_true rfl)) dX8_sign_20 ⟨Nat.le_of_ble_eq_true rfl, Nat.le_of_ble_eq_true rfl⟩) hA hP hD hS [0, 1] [] rfl rfl (by decide) (by decide) (fun r_4 u_r_4 H locs wr_4 hP hD hS => ?_)
      have hP : va_P D vwCl [(m0, .inr (8, [.ref mH, .int aM, .long aC, .int mM, .long mQ, .int oV, .int pL, .int lI, .int sW, .int dP, .int sT, .long aT, .int cH, .int iW, .ref mI, .ref mJ, .ref mS, .ref mD, .int iH, .int aE, .int mN, .long sZ, .ref mX, .int tS, .int tA, .int tW, .ref mA, .ref mB, .ref mW, .ref mL, .int lS])), (mX, .inl (cB, 2000, .inl fX))] H := hP
      have hD : va_D A [(m0, .inr (8, [.ref mH, .int aM, .long aC, .int mM, .long mQ, .int oV, .int pL, .int lI, .int sW, .int dP, .int sT, .long aT, .int cH, .int iW, .ref mI, .ref mJ, .ref mS, .ref mD, .int iH, .int aE, .int mN, .long sZ, .ref mX, .int tS, .int tA, .int tW, .ref mA, .ref mB, .ref mW, .ref mL, .int lS])), (mX, .inl (cB, 2000, .inl fX))] := hD
      try dsimp only at wr_4
      subst wr_4
      refine lv_bipush (v := 43) hx hb dX8_sign_23 (by decide) ?_
      refine lv_icmp_eq (tgt := 39) hx hb dX8_sign_25 (by decide) (fun c_25_4 => ?_) (fun c_25_4 => ?_)
      · have t_25_4 := c_25_4
        try simp only [kb_eq0, kb_ne0, lg_cmp_lt, lg_cmp_le, lg_cmp_gt, lg_cmp_ge, lg_cmp_eq] at t_25_4
        try simp only [Int32.lt_iff_toInt_lt, Int32.le_iff_toInt_le, ← Int32.toInt_inj, Int64.lt_iff_toInt_lt, Int64.le_iff_toInt_le, ← Int64.toInt_inj, Int32.toInt_toInt64, Int32.reduceToInt, Int64.reduceToInt] at t_25_4
        refine lv_aload_n hx hb dX8_sign_39 rfl (lv_at hl 1 rfl) ?_
        refine lv_dup hx hb dX8_sign_40 rfl ?_
        refine va_get (D := D) (ci := 8) (v := .int tA) (C := RX8) (T := TX8) (N := 31) hx hb hts iX8_sign_X8 hown hK hP 0 rfl rfl 24 (by decide) (hts (.fieldLink RX8 246 "TapeCalculatorModel" "at" "I") (List.mem_of_getElem? (i := 1) rfl)) (fun _ h9 => h9) rfl dX8_sign_41 ?_
        refine lv_iconst (v := 1) hx hb dX8_sign_44 (by decide) ?_
        refine lv_iadd hx hb dX8_sign_45 ?_
        refine lv_topi (fun x_6 ex_6 => ?_)
        refine va_put (D := D) (ci := 8) (v := .int x_6) (ty := .int) (C := RX8) (T := TX8) (N := 31) hx hb hts iX8_sign_X8 tyX8 tyX8_ok nmX8 hown hK hP hD hS 0 rfl rfl 24 (by decide) (hts (.fieldLink RX8 246 "TapeCalculatorModel" "at" "I") (List.mem_of_getElem? (i := 1) rfl)) (fun _ h9 => h9) rfl (by decide +kernel) rfl rfl (Nat.le_of_ble_eq_true rfl) dX8_sign_46 (fun H locs hP hD hS => ?_)
        have hP : va_P D vwCl [(m0, .inr (8, [.ref mH, .int aM, .long aC, .int mM, .long mQ, .int oV, .int pL, .int lI, .int sW, .int dP, .int sT, .long aT, .int cH, .int iW, .ref mI, .ref mJ, .ref mS, .ref mD, .int iH, .int aE, .int mN, .long sZ, .ref mX, .int tS, .int x_6, .int tW, .ref mA, .ref mB, .ref mW, .ref mL, .int lS])), (mX, .inl (cB, 2000, .inl fX))] H := hP
        have hD : va_D A [(m0, .inr (8, [.ref mH, .int aM, .long aC, .int mM, .long mQ, .int oV, .int pL, .int lI, .int sW, .int dP, .int sT, .long aT, .int cH, .int iW, .ref mI, .ref mJ, .ref mS, .ref mD, .int iH, .int aE, .int mN, .long sZ, .ref mX, .int tS, .int x_6, .int tW, .ref mA, .ref mB, .ref mW, .ref mL, .int lS])), (mX, .inl (cB, 2000, .inl fX))] := hD
        refine lv_iload_n hx hb dX8_sign_49 rfl (lv_at hl 0 rfl) ?_
        refine kIret (u := (x_6, tW)) hx hb hr rfl hlocks hS dX8_sign_50 ?_ (hP.sub [0, 1] rfl) (hD.sub [0, 1] (by decide) rfl)
        try dsimp only
        try subst ex_6
        refine ⟨by first | decide | omega, ?_, ?_⟩
        · first | exact (kif_t (by omega)).symm | exact (kif_f (by omega)).symm
        · first | exact (kif_t (by omega)).symm | exact (kif_f (by omega)).symm
      · have t_25_4 := c_25_4
        try simp only [kb_eq0, kb_ne0, lg_cmp_lt, lg_cmp_le, lg_cmp_gt, lg_cmp_ge, lg_cmp_eq] at t_25_4
        try simp only [Int32.lt_iff_toInt_lt, Int32.le_iff_toInt_le, ← Int32.toInt_inj, Int64.lt_iff_toInt_lt, Int64.le_iff_toInt_le, ← Int64.toInt_inj, Int32.toInt_toInt64, Int32.reduceToInt, Int64.reduceToInt] at t_25_4
        refine lv_aload_n hx hb dX8_sign_28 rfl (lv_at hl 1 rfl) ?_
        refine lv_aload_n hx hb dX8_sign_29 rfl (lv_at hl 1 rfl) ?_
        refine va_get (D := D) (ci := 8) (v := .int tA) (C := RX8) (T := TX8) (N := 31) hx hb hts iX8_sign_X8 hown hK hP 0 rfl rfl 24 (by decide) (hts (.fieldLink RX8 246 "TapeCalculatorModel" "at" "I") (List.mem_of_getElem? (i := 1) rfl)) (fun _ h9 => h9) rfl dX8_sign_30 ?_
        refine va_put (D := D) (ci := 8) (v := .int tA) (ty := .int) (C := RX8) (T := TX8) (N := 31) hx hb hts iX8_sign_X8 tyX8 tyX8_ok nmX8 hown hK hP hD hS 0 rfl rfl 25 (by decide) (hts (.fieldLink RX8 259 "TapeCalculatorModel" "wrong" "I") (List.mem_of_getElem? (i := 2) rfl)) (fun _ h9 => h9) rfl (by decide +kernel) rfl rfl (Nat.le_of_ble_eq_true rfl) dX8_sign_33 (fun H locs hP hD hS => ?_)
        have hP : va_P D vwCl [(m0, .inr (8, [.ref mH, .int aM, .long aC, .int mM, .long mQ, .int oV, .int pL, .int lI, .int sW, .int dP, .int sT, .long aT, .int cH, .int iW, .ref mI, .ref mJ, .ref mS, .ref mD, .int iH, .int aE, .int mN, .long sZ, .ref mX, .int tS, .int tA, .int tA, .ref mA, .ref mB, .ref mW, .ref mL, .int lS])), (mX, .inl (cB, 2000, .inl fX))] H := hP
        have hD : va_D A [(m0, .inr (8, [.ref mH, .int aM, .long aC, .int mM, .long mQ, .int oV, .int pL, .int lI, .int sW, .int dP, .int sT, .long aT, .int cH, .int iW, .ref mI, .ref mJ, .ref mS, .ref mD, .int iH, .int aE, .int mN, .long sZ, .ref mX, .int tS, .int tA, .int tA, .ref mA, .ref mB, .ref mW, .ref mL, .int lS])), (mX, .inl (cB, 2000, .inl fX))] := hD
        refine lv_goto (tgt := 49) hx hb dX8_sign_36 (by decide) ?_
        refine lv_iload_n hx hb dX8_sign_49 rfl (lv_at hl 0 rfl) ?_
        refine kIret (u := (tA, tA)) hx hb hr rfl hlocks hS dX8_sign_50 ?_ (hP.sub [0, 1] rfl) (hD.sub [0, 1] (by decide) rfl)
        try dsimp only
        refine ⟨by first | decide | omega, ?_, ?_⟩
        · first | exact (kif_t (by omega)).symm | exact (kif_f (by omega)).symm
        · first | exact (kif_t (by omega)).symm | exact (kif_f (by omega)).symm
  · have t_6_1 := c_6_1
    try simp only [kb_eq0, kb_ne0, lg_cmp_lt, lg_cmp_le, lg_cmp_gt, lg_cmp_ge, lg_cmp_eq] at t_6_1
    try simp only [Int32.lt_iff_toInt_lt, Int32.le_iff_toInt_le, ← Int32.toInt_inj, Int64.lt_iff_toInt_lt, Int64.le_iff_toInt_le, ← Int64.toInt_inj, Int32.toInt_toInt64, Int32.reduceToInt, Int64.reduceToInt] at t_6_1
    refine lv_iconst (v := 1) hx hb dX8_sign_9 (by decide) ?_
    refine lv_goto (tgt := 14) hx hb dX8_sign_10 (by decide) ?_
    refine lv_istore_n (lv' := [(1, .int 1), (0, .ref m0)]) hx hb dX8_sign_14 rfl hl (by decide) rfl (fun ls hl => ?_)
    refine lv_iload_n hx hb dX8_sign_15 rfl (lv_at hl 0 rfl) ?_
    refine lv_if_ne (tgt := 39) hx hb dX8_sign_16 (by decide) (fun c_16_6 => ?_) (fun c_16_6 => ?_)
    · have t_16_6 := c_16_6
      try simp only [kb_eq0, kb_ne0, lg_cmp_lt, lg_cmp_le, lg_cmp_gt, lg_cmp_ge, lg_cmp_eq] at t_16_6
      try simp only [Int32.lt_iff_toInt_lt, Int32.le_iff_toInt_le, ← Int32.toInt_inj, Int64.lt_iff_toInt_lt, Int64.le_iff_toInt_le, ← Int64.toInt_inj, Int32.toInt_toInt64, Int32.reduceToInt, Int64.reduceToInt] at t_16_6
      refine lv_aload_n hx hb dX8_sign_39 rfl (lv_at hl 1 rfl) ?_
      refine lv_dup hx hb dX8_sign_40 rfl ?_
      refine va_get (D := D) (ci := 8) (v := .int tA) (C := RX8) (T := TX8) (N := 31) hx hb hts iX8_sign_X8 hown hK hP 0 rfl rfl 24 (by decide) (hts (.fieldLink RX8 246 "TapeCalculatorModel" "at" "I") (List.mem_of_getElem? (i := 1) rfl)) (fun _ h9 => h9) rfl dX8_sign_41 ?_
      refine lv_iconst (v := 1) hx hb dX8_sign_44 (by decide) ?_
      refine lv_iadd hx hb dX8_sign_45 ?_
      refine lv_topi (fun x_8 ex_8 => ?_)
      refine va_put (D := D) (ci := 8) (v := .int x_8) (ty := .int) (C := RX8) (T := TX8) (N := 31) hx hb hts iX8_sign_X8 tyX8 tyX8_ok nmX8 hown hK hP hD hS 0 rfl rfl 24 (by decide) (hts (.fieldLink RX8 246 "TapeCalculatorModel" "at" "I") (List.mem_of_getElem? (i := 1) rfl)) (fun _ h9 => h9) rfl (by decide +kernel) rfl rfl (Nat.le_of_ble_eq_true rfl) dX8_sign_46 (fun H locs hP hD hS => ?_)
      have hP : va_P D vwCl [(m0, .inr (8, [.ref mH, .int aM, .long aC, .int mM, .long mQ, .int oV, .int pL, .int lI, .int sW, .int dP, .int sT, .long aT, .int cH, .int iW, .ref mI, .ref mJ, .ref mS, .ref mD, .int iH, .int aE, .int mN, .long sZ, .ref mX, .int tS, .int x_8, .int tW, .ref mA, .ref mB, .ref mW, .ref mL, .int lS])), (mX, .inl (cB, 2000, .inl fX))] H := hP
      have hD : va_D A [(m0, .inr (8, [.ref mH, .int aM, .long aC, .int mM, .long mQ, .int oV, .int pL, .int lI, .int sW, .int dP, .int sT, .long aT, .int cH, .int iW, .ref mI, .ref mJ, .ref mS, .ref mD, .int iH, .int aE, .int mN, .long sZ, .ref mX, .int tS, .int x_8, .int tW, .ref mA, .ref mB, .ref mW, .ref mL, .int lS])), (mX, .inl (cB, 2000, .inl fX))] := hD
      refine lv_iload_n hx hb dX8_sign_49 rfl (lv_at hl 0 rfl) ?_
      refine kIret (u := (x_8, tW)) hx hb hr rfl hlocks hS dX8_sign_50 ?_ (hP.sub [0, 1] rfl) (hD.sub [0, 1] (by decide) rfl)
      try dsimp only
      try subst ex_8
      refine ⟨by first | decide | omega, ?_, ?_⟩
      · first | exact (kif_t (by omega)).symm | exact (kif_f (by omega)).symm
      · first | exact (kif_t (by omega)).symm | exact (kif_f (by omega)).symm
    · exact absurd c_16_6 (by decide)
set_option maxRecDepth 100000 in
theorem iX8_expect_X8 : ∀ w ∈ wsX80, w ∈ wsX8_expect := fun w h => (goodIn_r (big := wsX8_expect) wsX80 [10, 11, 12, 13, 14, 15, 16, 17, 18, 19, 20, 21, 22, 23, 24, 25, 26, 27, 28, 29, 30, 31, 32, 33, 34, 35, 36, 37, 38, 39, 40] rfl (by decide +kernel) w h).1
set_option maxRecDepth 100000 in
set_option maxHeartbeats 4000000 in
theorem q_expect (l : Launch) (D : va_G) (cI cL cB cZ cT : ClassId) (sz : Nat) (m0 mH mI mJ mS mD mX mA mB mW mL : Nat) (aM : Int32) (aC : Int64) (mM : Int32) (mQ : Int64) (oV pL lI sW dP sT : Int32) (aT : Int64) (cH iW iH aE mN : Int32) (sZ : Int64) (tS tA tW lS : Int32) (fX : Nat → Int32) (b : Int32) (bi : Int) (hbi : b.toInt = bi) (hta : 0 ≤ tA.toInt ∧ tA.toInt ≤ tS.toInt) (hts2 : tS.toInt ≤ 2000) : kM (S := (Int32 × Int32)) l yX8_expect wsX8_expect ({ frames := 1, cells := 0, slots := 0, locals := 20 }) D (kT cI cL cB cZ cT) [.ref m0, .int b] [(m0, .inr (8, [.ref mH, .int aM, .long aC, .int mM, .long mQ, .int oV, .int pL, .int lI, .int sW, .int dP, .int sT, .long aT, .int cH, .int iW, .ref mI, .ref mJ, .ref mS, .ref mD, .int iH, .int aE, .int mN, .long sZ, .ref mX, .int tS, .int tA, .int tW, .ref mA, .ref mB, .ref mW, .ref mL, .int lS])), (mX, .inl (cB, 2000, .inl fX))] sz eV (fun r u => (tW.toInt < 0 → (u.1) = kSk tA tS fX bi ∧ (u.2) = kif ((kHere tA tS fX).toInt = bi) tW tA) ∧ (¬ tW.toInt < 0 → (u.1) = tA ∧ (u.2) = tW)) (fun u => [(m0, .inr (8, [.ref mH, .int aM, .long aC, .int mM, .long mQ, .int oV, .int pL, .int lI, .int sW, .int dP, .int sT, .long aT, .int cH, .int iW, .ref mI, .ref mJ, .ref mS, .ref mD, .int iH, .int aE, .int mN, .long sZ, .ref mX, .int tS, .int u.1, .int u.2, .ref mA, .ref mB, .ref mW, .ref mL, .int lS])), (mX, .inl (cB, 2000, .inl fX))]) 0 0 := by
  refine kStart (cc := cX8_expect) (maxL := 2) (ret := none) (own := RX8) (by decide) rfl rfl (Nat.le_of_ble_eq_true rfl) ?_
  intro p e s m args below meth c A ls hx hb hr hml hown hts hlocks hnm hsz hA hG hP hD hS hl
  have hK := hG.1
  have hl : lv_has ls 2 [(0, .ref m0), (1, .int b)] := hl
  refine lv_aload_n hx hb dX8_expect_0 rfl (lv_at hl 0 rfl) ?_
  refine va_get (D := D) (ci := 8) (v := .int tW) (C := RX8) (T := TX8) (N := 31) hx hb hts iX8_expect_X8 hown hK hP 0 rfl rfl 25 (by decide) (hts (.fieldLink RX8 259 "TapeCalculatorModel" "wrong" "I") (List.mem_of_getElem? (i := 1) rfl)) (fun _ h9 => h9) rfl dX8_expect_1 ?_
  refine lv_if_ge (tgt := 36) hx hb dX8_expect_4 (by decide) (fun c_4_0 => ?_) (fun c_4_0 => ?_)
  · have t_4_0 := c_4_0
    try simp only [kb_eq0, kb_ne0, lg_cmp_lt, lg_cmp_le, lg_cmp_gt, lg_cmp_ge, lg_cmp_eq] at t_4_0
    try simp only [Int32.lt_iff_toInt_lt, Int32.le_iff_toInt_le, ← Int32.toInt_inj, Int64.lt_iff_toInt_lt, Int64.le_iff_toInt_le, ← Int64.toInt_inj, Int32.toInt_toInt64, Int32.reduceToInt, Int64.reduceToInt] at t_4_0
    refine kVret (u := (tA, tW)) hx hb hr hlocks hS dX8_expect_36 ?_ (hP.sub [0, 1] rfl) (hD.sub [0, 1] (by decide) rfl)
    try dsimp only
    first
      | exact ⟨fun h => absurd h (by omega), fun _ => ⟨rfl, rfl⟩⟩
      | exact ⟨fun _ => ⟨(kif_t (by omega)).symm, (kif_t (by omega)).symm⟩, fun h => absurd h (by omega)⟩
      | exact ⟨fun _ => ⟨(kif_f (by omega)).symm, (kif_f (by omega)).symm⟩, fun h => absurd h (by omega)⟩
  · have t_4_0 := c_4_0
    try simp only [kb_eq0, kb_ne0, lg_cmp_lt, lg_cmp_le, lg_cmp_gt, lg_cmp_ge, lg_cmp_eq] at t_4_0
    try simp only [Int32.lt_iff_toInt_lt, Int32.le_iff_toInt_le, ← Int32.toInt_inj, Int64.lt_iff_toInt_lt, Int64.le_iff_toInt_le, ← Int64.toInt_inj, Int32.toInt_toInt64, Int32.reduceToInt, Int64.reduceToInt] at t_4_0
    refine lv_aload_n hx hb dX8_expect_7 rfl (lv_at hl 0 rfl) ?_
    refine kCallI (wr := []) (va_runV (As := []) (rest := []) ⟨hx, hb, hml, hown, hts⟩ (q_here l D cI cL cB cZ cT _ m0 mH mI mJ mS mD mX mA mB mW mL aM aC mM mQ oV pL lI sW dP sT aT cH iW iH aE mN sZ tS tA tW lS fX (by omega) (by omega)) (cwV 0 hts gX8_expect_X8_here rfl rfl rfl (by decide +kernel) ⟨Nat.le_of_ble_eq_true rfl, Nat.le_of_ble_eq_true rfl⟩) (kPreV hG hP hD [0, 1] rfl (by decide) 0 8 rfl rfl rfl) rfl rfl hl.1 rfl (lv_room (Nat.le_of_ble_eq_true rfl)) dX8_expect_8 ⟨Nat.le_of_ble_eq_true rfl, Nat.le_of_ble_eq_true rfl⟩) hA hP hD hS [0, 1] [] rfl rfl (by decide) (by decide) (fun r_2 u_r_2 H locs wr_2 hP hD hS => ?_)
    have hP : va_P D vwCl [(m0, .inr (8, [.ref mH, .int aM, .long aC, .int mM, .long mQ, .int oV, .int pL, .int lI, .int sW, .int dP, .int sT, .long aT, .int cH, .int iW, .ref mI, .ref mJ, .ref mS, .ref mD, .int iH, .int aE, .int mN, .long sZ, .ref mX, .int tS, .int tA, .int tW, .ref mA, .ref mB, .ref mW, .ref mL, .int lS])), (mX, .inl (cB, 2000, .inl fX))] H := hP
    have hD : va_D A [(m0, .inr (8, [.ref mH, .int aM, .long aC, .int mM, .long mQ, .int oV, .int pL, .int lI, .int sW, .int dP, .int sT, .long aT, .int cH, .int iW, .ref mI, .ref mJ, .ref mS, .ref mD, .int iH, .int aE, .int mN, .long sZ, .ref mX, .int tS, .int tA, .int tW, .ref mA, .ref mB, .ref mW, .ref mL, .int lS])), (mX, .inl (cB, 2000, .inl fX))] := hD
    try dsimp only at wr_2
    subst wr_2
    refine lv_iload_n hx hb dX8_expect_11 rfl (lv_at hl 1 rfl) ?_
    refine lv_icmp_eq (tgt := 26) hx hb dX8_expect_12 (by decide) (fun c_12_2 => ?_) (fun c_12_2 => ?_)
    · have t_12_2 := c_12_2
      try simp only [kb_eq0, kb_ne0, lg_cmp_lt, lg_cmp_le, lg_cmp_gt, lg_cmp_ge, lg_cmp_eq] at t_12_2
      try simp only [Int32.lt_iff_toInt_lt, Int32.le_iff_toInt_le, ← Int32.toInt_inj, Int64.lt_iff_toInt_lt, Int64.le_iff_toInt_le, ← Int64.toInt_inj, Int32.toInt_toInt64, Int32.reduceToInt, Int64.reduceToInt] at t_12_2
      refine lv_aload_n hx hb dX8_expect_26 rfl (lv_at hl 0 rfl) ?_
      refine lv_dup hx hb dX8_expect_27 rfl ?_
      refine va_get (D := D) (ci := 8) (v := .int tA) (C := RX8) (T := TX8) (N := 31) hx hb hts iX8_expect_X8 hown hK hP 0 rfl rfl 24 (by decide) (hts (.fieldLink RX8 246 "TapeCalculatorModel" "at" "I") (List.mem_of_getElem? (i := 2) rfl)) (fun _ h9 => h9) rfl dX8_expect_28 ?_
      refine lv_iconst (v := 1) hx hb dX8_expect_31 (by decide) ?_
      refine lv_iadd hx hb dX8_expect_32 ?_
      refine lv_topi (fun x_4 ex_4 => ?_)
      refine va_put (D := D) (ci := 8) (v := .int x_4) (ty := .int) (C := RX8) (T := TX8) (N := 31) hx hb hts iX8_expect_X8 tyX8 tyX8_ok nmX8 hown hK hP hD hS 0 rfl rfl 24 (by decide) (hts (.fieldLink RX8 246 "TapeCalculatorModel" "at" "I") (List.mem_of_getElem? (i := 2) rfl)) (fun _ h9 => h9) rfl (by decide +kernel) rfl rfl (Nat.le_of_ble_eq_true rfl) dX8_expect_33 (fun H locs hP hD hS => ?_)
      have hP : va_P D vwCl [(m0, .inr (8, [.ref mH, .int aM, .long aC, .int mM, .long mQ, .int oV, .int pL, .int lI, .int sW, .int dP, .int sT, .long aT, .int cH, .int iW, .ref mI, .ref mJ, .ref mS, .ref mD, .int iH, .int aE, .int mN, .long sZ, .ref mX, .int tS, .int x_4, .int tW, .ref mA, .ref mB, .ref mW, .ref mL, .int lS])), (mX, .inl (cB, 2000, .inl fX))] H := hP
      have hD : va_D A [(m0, .inr (8, [.ref mH, .int aM, .long aC, .int mM, .long mQ, .int oV, .int pL, .int lI, .int sW, .int dP, .int sT, .long aT, .int cH, .int iW, .ref mI, .ref mJ, .ref mS, .ref mD, .int iH, .int aE, .int mN, .long sZ, .ref mX, .int tS, .int x_4, .int tW, .ref mA, .ref mB, .ref mW, .ref mL, .int lS])), (mX, .inl (cB, 2000, .inl fX))] := hD
      refine kVret (u := (x_4, tW)) hx hb hr hlocks hS dX8_expect_36 ?_ (hP.sub [0, 1] rfl) (hD.sub [0, 1] (by decide) rfl)
      try dsimp only
      try subst ex_4
      first
        | exact ⟨fun h => absurd h (by omega), fun _ => ⟨rfl, rfl⟩⟩
        | exact ⟨fun _ => ⟨(kif_t (by omega)).symm, (kif_t (by omega)).symm⟩, fun h => absurd h (by omega)⟩
        | exact ⟨fun _ => ⟨(kif_f (by omega)).symm, (kif_f (by omega)).symm⟩, fun h => absurd h (by omega)⟩
    · have t_12_2 := c_12_2
      try simp only [kb_eq0, kb_ne0, lg_cmp_lt, lg_cmp_le, lg_cmp_gt, lg_cmp_ge, lg_cmp_eq] at t_12_2
      try simp only [Int32.lt_iff_toInt_lt, Int32.le_iff_toInt_le, ← Int32.toInt_inj, Int64.lt_iff_toInt_lt, Int64.le_iff_toInt_le, ← Int64.toInt_inj, Int32.toInt_toInt64, Int32.reduceToInt, Int64.reduceToInt] at t_12_2
      refine lv_aload_n hx hb dX8_expect_15 rfl (lv_at hl 0 rfl) ?_
      refine lv_aload_n hx hb dX8_expect_16 rfl (lv_at hl 0 rfl) ?_
      refine va_get (D := D) (ci := 8) (v := .int tA) (C := RX8) (T := TX8) (N := 31) hx hb hts iX8_expect_X8 hown hK hP 0 rfl rfl 24 (by decide) (hts (.fieldLink RX8 246 "TapeCalculatorModel" "at" "I") (List.mem_of_getElem? (i := 2) rfl)) (fun _ h9 => h9) rfl dX8_expect_17 ?_
      refine va_put (D := D) (ci := 8) (v := .int tA) (ty := .int) (C := RX8) (T := TX8) (N := 31) hx hb hts iX8_expect_X8 tyX8 tyX8_ok nmX8 hown hK hP hD hS 0 rfl rfl 25 (by decide) (hts (.fieldLink RX8 259 "TapeCalculatorModel" "wrong" "I") (List.mem_of_getElem? (i := 1) rfl)) (fun _ h9 => h9) rfl (by decide +kernel) rfl rfl (Nat.le_of_ble_eq_true rfl) dX8_expect_20 (fun H locs hP hD hS => ?_)
      have hP : va_P D vwCl [(m0, .inr (8, [.ref mH, .int aM, .long aC, .int mM, .long mQ, .int oV, .int pL, .int lI, .int sW, .int dP, .int sT, .long aT, .int cH, .int iW, .ref mI, .ref mJ, .ref mS, .ref mD, .int iH, .int aE, .int mN, .long sZ, .ref mX, .int tS, .int tA, .int tA, .ref mA, .ref mB, .ref mW, .ref mL, .int lS])), (mX, .inl (cB, 2000, .inl fX))] H := hP
      have hD : va_D A [(m0, .inr (8, [.ref mH, .int aM, .long aC, .int mM, .long mQ, .int oV, .int pL, .int lI, .int sW, .int dP, .int sT, .long aT, .int cH, .int iW, .ref mI, .ref mJ, .ref mS, .ref mD, .int iH, .int aE, .int mN, .long sZ, .ref mX, .int tS, .int tA, .int tA, .ref mA, .ref mB, .ref mW, .ref mL, .int lS])), (mX, .inl (cB, 2000, .inl fX))] := hD
      refine lv_goto (tgt := 36) hx hb dX8_expect_23 (by decide) ?_
      refine kVret (u := (tA, tA)) hx hb hr hlocks hS dX8_expect_36 ?_ (hP.sub [0, 1] rfl) (hD.sub [0, 1] (by decide) rfl)
      try dsimp only
      first
        | exact ⟨fun h => absurd h (by omega), fun _ => ⟨rfl, rfl⟩⟩
        | exact ⟨fun _ => ⟨(kif_t (by omega)).symm, (kif_t (by omega)).symm⟩, fun h => absurd h (by omega)⟩
        | exact ⟨fun _ => ⟨(kif_f (by omega)).symm, (kif_f (by omega)).symm⟩, fun h => absurd h (by omega)⟩
