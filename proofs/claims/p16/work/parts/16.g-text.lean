theorem k_add {a b : Int32} (ha : 0 ≤ a.toInt ∧ a.toInt ≤ 1000000) (hb : -1000000 ≤ b.toInt ∧ b.toInt ≤ 1000000) : (a + b).toInt = a.toInt + b.toInt := by
  rw [Int32.toInt_add]
  exact Int.bmod_eq_of_le (by omega) (by omega)
theorem k_add1 {a : Int32} (ha : 0 ≤ a.toInt ∧ a.toInt ≤ 1000000) : (a + 1).toInt = a.toInt + 1 := by
  have h := k_add (a := a) (b := 1) ha (by decide)
  simp only [Int32.reduceToInt] at h
  exact h
theorem k_cl {k : Int32} (h : 0 ≤ k.toInt) : (k.toNatClampNeg : Int) = k.toInt := by
  obtain ⟨j, hj, rfl⟩ := nI_of (x := k) (by rw [Int32.lt_iff_toInt_lt]; simp only [Int32.reduceToInt]; omega)
  rw [nI_toInt hj, nI_clamp hj]
def kFdA (t n : Int) : Int := if 1 ≤ n ∧ n ≤ 8 then (if t + n ≤ 2000 then t + n else -2) else -1
def kFdS (t n : Int) : Int := if 1 ≤ n ∧ n ≤ 8 then (if t + n ≤ 2000 then t + n else t) else t
/-- the bytes that feed() puts: g of them -/
def kFl (v : Int64) (f : Nat → Int32) (t : Int32) : Nat → (Nat → Int32)
  | 0 => f
  | g + 1 => upd (kFl v f t g) (t + nI g).toNatClampNeg (vp_nar .byte (v >>> ((8 * nI g : Int32).toInt64 &&& 63)).toInt32.toInt8.toInt32)
theorem kFl_s {v : Int64} {f : Nat → Int32} {t : Int32} {g : Nat} : kFl v f t (g + 1) = upd (kFl v f t g) (t + nI g).toNatClampNeg (vp_nar .byte (v >>> ((8 * nI g : Int32).toInt64 &&& 63)).toInt32.toInt8.toInt32) := rfl
def kFdF (v : Int64) (f : Nat → Int32) (t n : Int32) : Nat → Int32 := kif ((1 ≤ n.toInt ∧ n.toInt ≤ 8) ∧ t.toInt + n.toInt ≤ 2000) (kFl v f t n.toNatClampNeg) f
/-- the byte at a place, or -1 -/
def kHere (a t : Int32) (f : Nat → Int32) : Int32 := kif (a.toInt < t.toInt) (f a.toNatClampNeg &&& 255) (-1)
theorem kHere_c {a t : Int32} {f : Nat → Int32} (h : 0 ≤ (kHere a t f).toInt) : a.toInt < t.toInt := by
  by_cases q : a.toInt < t.toInt
  · exact q
  · exfalso
    unfold kHere at h
    rw [kif_f q] at h
    exact absurd h (by decide)
/-- figures from a place on, k at most: the place behind them, the number -/
def kNm (t : Int32) (f : Nat → Int32) : Nat → Int32 → Int64 → Int32 × Int64
  | 0, a, v => (a, v)
  | k + 1, a, v => kif (48 ≤ (kHere a t f).toInt ∧ (kHere a t f).toInt ≤ 57) (kNm t f k (a + 1) (10 * v + (kHere a t f).toInt64 - 48)) (a, v)
theorem kNm_z {t : Int32} {f : Nat → Int32} {a : Int32} {v : Int64} : kNm t f 0 a v = (a, v) := rfl
theorem kNm_q {t : Int32} {f : Nat → Int32} {k : Nat} {a : Int32} {v : Int64} : kNm t f (k + 1) a v = kif (48 ≤ (kHere a t f).toInt ∧ (kHere a t f).toInt ≤ 57) (kNm t f k (a + 1) (10 * v + (kHere a t f).toInt64 - 48)) (a, v) := rfl
theorem kNm_s {t : Int32} {f : Nat → Int32} {k : Nat} {a : Int32} {v : Int64} (h : 48 ≤ (kHere a t f).toInt ∧ (kHere a t f).toInt ≤ 57) : kNm t f (k + 1) a v = kNm t f k (a + 1) (10 * v + (kHere a t f).toInt64 - 48) := kNm_q.trans (kif_t h)
theorem kNm_e {t : Int32} {f : Nat → Int32} {k : Nat} {a : Int32} {v : Int64} (h : ¬ (48 ≤ (kHere a t f).toInt ∧ (kHere a t f).toInt ≤ 57)) : kNm t f k a v = (a, v) := by
  cases k with
  | zero => rfl
  | succ k => exact kNm_q.trans (kif_f h)
theorem kNm_r {t : Int32} {f : Nat → Int32} (ht : t.toInt ≤ 2000) : ∀ (k : Nat) (a : Int32) (v : Int64), 0 ≤ a.toInt → a.toInt ≤ t.toInt → a.toInt ≤ (kNm t f k a v).1.toInt ∧ (kNm t f k a v).1.toInt ≤ t.toInt := by
  intro k
  induction k with
  | zero => intro a v h1 h2; rw [kNm_z]; exact ⟨Int.le_refl _, h2⟩
  | succ k ih =>
    intro a v h1 h2
    by_cases h : 48 ≤ (kHere a t f).toInt ∧ (kHere a t f).toInt ≤ 57
    · rw [kNm_s h]
      have hc := kHere_c (a := a) (t := t) (f := f) (by omega)
      have hd := k_add1 (a := a) (by omega)
      have h3 := ih (a + 1) (10 * v + (kHere a t f).toInt64 - 48) (by omega) (by omega)
      exact ⟨by omega, h3.2⟩
    · rw [kNm_e h]
      exact ⟨Int.le_refl _, h2⟩
def kp : Nat → Int
  | 0 => 1
  | n + 1 => 10 * kp n
theorem kp_le {g : Nat} (h : g ≤ 10) : 1 ≤ kp g ∧ kp g ≤ 10000000000 := by
  have d : ∀ m : Fin 11, 1 ≤ kp m.val ∧ kp m.val ≤ 10000000000 := by decide +kernel
  exact d ⟨g, by omega⟩
theorem k_dig {v : Int64} {d : Int32} (hv : 0 ≤ v.toInt ∧ v.toInt ≤ 100000000000) (hd : 0 ≤ d.toInt ∧ d.toInt ≤ 255) : (10 * v + d.toInt64 - 48).toInt = 10 * v.toInt + d.toInt - 48 := by
  have e1 : (10 * v).toInt = 10 * v.toInt := by
    rw [Int64.toInt_mul, show (10 : Int64).toInt = 10 from rfl]
    exact Int.bmod_eq_of_le (by omega) (by omega)
  have e2 : (10 * v + d.toInt64).toInt = 10 * v.toInt + d.toInt := by
    rw [Int64.toInt_add, e1, Int32.toInt_toInt64]
    exact Int.bmod_eq_of_le (by omega) (by omega)
  rw [Int64.toInt_sub, e2, show (48 : Int64).toInt = 48 from rfl]
  exact Int.bmod_eq_of_le (by omega) (by omega)
theorem kNm_v {t : Int32} {f : Nat → Int32} : ∀ (k : Nat) (a : Int32) (v : Int64) (g : Nat), g + k ≤ 10 → 0 ≤ v.toInt → v.toInt < kp g → 0 ≤ (kNm t f k a v).2.toInt := by
  intro k
  induction k with
  | zero => intro a v g _ h1 _; rw [kNm_z]; exact h1
  | succ k ih =>
    intro a v g hg h1 h2
    by_cases h : 48 ≤ (kHere a t f).toInt ∧ (kHere a t f).toInt ≤ 57
    · rw [kNm_s h]
      have hp := kp_le (g := g) (by omega)
      have hd := k_dig (v := v) (d := kHere a t f) (by omega) (by omega)
      have hk : kp (g + 1) = 10 * kp g := rfl
      exact ih (a + 1) (10 * v + (kHere a t f).toInt64 - 48) (g + 1) (by omega) (by omega) (by omega)
    · rw [kNm_e h]
      exact h1
/-- a fault, if there is none yet -/
def kF (f i : Int32) : Int32 := kif (f.toInt = -1) i f
theorem kF_m {f i : Int32} (h : f.toInt = -1) : kF f i = i := kif_t h
theorem kF_k {f i : Int32} (h : ¬ f.toInt = -1) : kF f i = f := kif_f h
theorem kF_k1 {p : Prop} [Decidable p] {x i : Int32} (h : ¬ x.toInt = -1) : kif p x (kF x i) = x := by
  by_cases q : p
  · exact kif_t q
  · rw [kif_f q]; exact kF_k h
theorem kF_k2 {p : Prop} [Decidable p] {x i : Int32} (h : ¬ x.toInt = -1) : kif p (kF x i) x = x := by
  by_cases q : p
  · rw [kif_t q]; exact kF_k h
  · exact kif_f q
/-- behind a byte that is wanted -/
def kSk (a t : Int32) (f : Nat → Int32) (b : Int) : Int32 := kif ((kHere a t f).toInt = b) (a + 1) a
def kSg (a t : Int32) (f : Nat → Int32) : Int32 := kif ((kHere a t f).toInt = 45 ∨ (kHere a t f).toInt = 43) (a + 1) a
theorem kSk_r {a t : Int32} {f : Nat → Int32} {b : Int} (h0 : 0 ≤ a.toInt ∧ a.toInt ≤ t.toInt) (ht : t.toInt ≤ 2000) (hb : 0 ≤ b) : a.toInt ≤ (kSk a t f b).toInt ∧ (kSk a t f b).toInt ≤ t.toInt := by
  unfold kSk
  by_cases q : (kHere a t f).toInt = b
  · rw [kif_t q]
    have hc := kHere_c (a := a) (t := t) (f := f) (by omega)
    have hd := k_add1 (a := a) (by omega)
    omega
  · rw [kif_f q]; omega
theorem kSg_r {a t : Int32} {f : Nat → Int32} (h0 : 0 ≤ a.toInt ∧ a.toInt ≤ t.toInt) (ht : t.toInt ≤ 2000) : a.toInt ≤ (kSg a t f).toInt ∧ (kSg a t f).toInt ≤ t.toInt := by
  unfold kSg
  by_cases q : (kHere a t f).toInt = 45 ∨ (kHere a t f).toInt = 43
  · rw [kif_t q]
    have hc := kHere_c (a := a) (t := t) (f := f) (by omega)
    have hd := k_add1 (a := a) (by omega)
    omega
  · rw [kif_f q]; omega
/-- a sign, figures, a byte 10: the fault (or -1), the place behind it -/
def kTl (t : Int32) (f : Nat → Int32) (m : Nat) (mx : Int) (s : Int32) : Int32 × Int32 :=
  kif (¬ ((kHere s t f).toInt = 45 ∨ (kHere s t f).toInt = 43)) (s, s)
    (kif ((kNm t f m (s + 1) 0).1.toInt = (s + 1).toInt ∨ mx < (kNm t f m (s + 1) 0).2.toInt) (s + 1, s)
      (kif (¬ (kHere (kNm t f m (s + 1) 0).1 t f).toInt = 10) ((kNm t f m (s + 1) 0).1, s) (-1, (kNm t f m (s + 1) 0).1 + 1)))
/-- what comes behind the blank -/
def kLb (t : Int32) (f : Nat → Int32) (a b : Int32) (v : Int64) : Int32 × Int32 :=
  kif ((kHere b t f).toInt = 61)
    (kif ((kHere (b + 1) t f).toInt = 61) (kif (v.toInt % 2 = 1) (a, a) (kTl t f 11 34359738367 (b + 1 + 1))) (kTl t f 6 131071 (b + 1)))
    (kif ((kNm t f 2 b 0).1.toInt = b.toInt ∨ 31 < (kNm t f 2 b 0).2.toInt) (b, a) (kTl t f 4 4095 (kNm t f 2 b 0).1))
/-- a LINE: its fault (or -1), the place behind it -/
def kLn (t : Int32) (f : Nat → Int32) (a : Int32) : Int32 × Int32 :=
  kif ((kNm t f 4 a 0).1.toInt = a.toInt ∨ 511 < (kNm t f 4 a 0).2.toInt) (a, a)
    (kif (¬ (kHere (kNm t f 4 a 0).1 t f).toInt = 32) ((kNm t f 4 a 0).1, a) (kLb t f a ((kNm t f 4 a 0).1 + 1) (kNm t f 4 a 0).2))
/-- LINES, k at most: load()'s answer -/
def kLd (t : Int32) (f : Nat → Int32) : Nat → Int32 → Int32 → Int32
  | 0, a, c => kif (a.toInt < t.toInt) (-10 - a) c
  | k + 1, a, c => kif (a.toInt < t.toInt) (kif ((kLn t f a).1.toInt = -1) (kLd t f k (kLn t f a).2 (c + 1)) (-10 - (kLn t f a).1)) c
theorem kLd_q {t : Int32} {f : Nat → Int32} {k : Nat} {a c : Int32} : kLd t f (k + 1) a c = kif (a.toInt < t.toInt) (kif ((kLn t f a).1.toInt = -1) (kLd t f k (kLn t f a).2 (c + 1)) (-10 - (kLn t f a).1)) c := rfl
theorem kLd_o {t : Int32} {f : Nat → Int32} {k : Nat} {a c : Int32} (h : ¬ a.toInt < t.toInt) : kLd t f k a c = c := by
  cases k with
  | zero => exact kif_f h
  | succ k => exact kLd_q.trans (kif_f h)
theorem kLd_z {t : Int32} {f : Nat → Int32} {a c : Int32} (h : a.toInt < t.toInt) : kLd t f 0 a c = -10 - a := kif_t h
theorem kLd_s {t : Int32} {f : Nat → Int32} {k : Nat} {a c : Int32} (h : a.toInt < t.toInt) (h2 : (kLn t f a).1.toInt = -1) : kLd t f (k + 1) a c = kLd t f k (kLn t f a).2 (c + 1) := kLd_q.trans ((kif_t h).trans (kif_t h2))
theorem kLd_w {t : Int32} {f : Nat → Int32} {k : Nat} {a c : Int32} (h : a.toInt < t.toInt) (h2 : ¬ (kLn t f a).1.toInt = -1) : kLd t f (k + 1) a c = -10 - (kLn t f a).1 := kLd_q.trans ((kif_t h).trans (kif_f h2))
/-- what a reader says of a place: the fault, and where none, the place behind it -/
def kOk (x : Int32 × Int32) (f a : Int32) : Prop := f = x.1 ∧ (f.toInt = -1 → a = x.2)
theorem kOk_n {x : Int32 × Int32} {f a : Int32} (h1 : f = x.1) (h2 : ¬ f.toInt = -1) : kOk x f a := ⟨h1, fun h => absurd h h2⟩
theorem k_nn {p : Prop} (h : p) : ¬ ¬ p := fun q => q h
theorem k_m1 {x : Int32} (h : x.toInt = -1) : x = -1 := k_inj (h.trans (by decide))
section TAIL
variable {t : Int32} {f : Nat → Int32} {m : Nat} {mx : Int} {s a1 a2 a3 f0 f1 f2 f3 : Int32}
theorem kTl_c (hs : 0 ≤ s.toInt ∧ s.toInt ≤ t.toInt) (ht : t.toInt ≤ 2000)
    (e1 : a1 = kSg s t f) (g1 : f1 = kif ((kHere s t f).toInt = 45 ∨ (kHere s t f).toInt = 43) f0 (kF f0 s))
    (e2 : a2 = (kNm t f m a1 0).1) (g2 : f2 = kif ((kNm t f m a1 0).1.toInt = a1.toInt ∨ mx < (kNm t f m a1 0).2.toInt) (kF f1 a1) f1)
    (e3 : a3 = kSk a2 t f 10) (g3 : f3 = kif ((kHere a2 t f).toInt = 10) f2 (kF f2 a2)) :
    (¬ f0.toInt = -1 → f3 = f0) ∧ (f0.toInt = -1 → kOk (kTl t f m mx s) f3 a3) := by
  constructor
  · intro h
    have h1 : f1 = f0 := g1.trans (kF_k1 h)
    have h2 : f2 = f1 := g2.trans (kF_k2 (by rw [h1]; exact h))
    have h3 : f3 = f2 := g3.trans (kF_k1 (by rw [h2, h1]; exact h))
    rw [h3, h2, h1]
  · intro h
    unfold kTl
    by_cases c1 : (kHere s t f).toInt = 45 ∨ (kHere s t f).toInt = 43
    · rw [kif_f (k_nn c1)]
      have hc := kHere_c (a := s) (t := t) (f := f) (by omega)
      have hd := k_add1 (a := s) (by omega)
      have b1 : a1 = s + 1 := e1.trans (kif_t c1)
      have h1 : f1 = f0 := g1.trans (kif_t c1)
      rw [b1] at e2 g2
      have hr := kNm_r (f := f) ht m (s + 1) 0 (by omega) (by omega)
      by_cases c2 : (kNm t f m (s + 1) 0).1.toInt = (s + 1).toInt ∨ mx < (kNm t f m (s + 1) 0).2.toInt
      · rw [kif_t c2]
        have h2 : f2 = s + 1 := (g2.trans (kif_t c2)).trans (by rw [h1]; exact kF_m h)
        have n2 : ¬ f2.toInt = -1 := by rw [h2]; omega
        have h3 : f3 = f2 := g3.trans (kF_k1 n2)
        exact kOk_n (h3.trans h2) (by rw [h3]; exact n2)
      · rw [kif_f c2]
        have h2 : f2 = f0 := (g2.trans (kif_f c2)).trans h1
        rw [e2] at e3 g3
        by_cases c3 : (kHere (kNm t f m (s + 1) 0).1 t f).toInt = 10
        · rw [kif_f (k_nn c3)]
          have h3 : f3 = f0 := (g3.trans (kif_t c3)).trans h2
          exact ⟨by rw [h3]; exact k_m1 h, fun _ => e3.trans (kif_t c3)⟩
        · rw [kif_t c3]
          have h3 : f3 = (kNm t f m (s + 1) 0).1 := (g3.trans (kif_f c3)).trans (by rw [h2]; exact kF_m h)
          exact kOk_n h3 (by rw [h3]; omega)
    · rw [kif_t c1]
      have h1 : f1 = s := (g1.trans (kif_f c1)).trans (kF_m h)
      have n1 : ¬ f1.toInt = -1 := by rw [h1]; omega
      have h2 : f2 = f1 := g2.trans (kF_k2 n1)
      have h3 : f3 = f2 := g3.trans (kF_k1 (by rw [h2]; exact n1))
      exact kOk_n (by rw [h3, h2, h1]) (by rw [h3, h2]; exact n1)
end TAIL
section FRONT
variable {t : Int32} {f : Nat → Int32} {a a1 a2 f0 f1 f2 : Int32} {v : Int64}
/-- the ADDRESS and the blank -/
theorem kFr_c (ha : 0 ≤ a.toInt ∧ a.toInt ≤ t.toInt) (ht : t.toInt ≤ 2000) (h0 : f0.toInt = -1)
    (e1 : a1 = (kNm t f 4 a 0).1) (ev : v = (kNm t f 4 a 0).2) (g1 : f1 = kif ((kNm t f 4 a 0).1.toInt = a.toInt ∨ 511 < (kNm t f 4 a 0).2.toInt) (kF f0 a) f0)
    (e2 : a2 = kSk a1 t f 32) (g2 : f2 = kif ((kHere a1 t f).toInt = 32) f1 (kF f1 a1)) :
    (¬ f2.toInt = -1 ∧ f2 = (kLn t f a).1) ∨ (f2.toInt = -1 ∧ kLn t f a = kLb t f a a2 v ∧ 0 ≤ v.toInt ∧ v.toInt ≤ 511) := by
  have hr := kNm_r (f := f) ht 4 a 0 ha.1 ha.2
  have hv := kNm_v (t := t) (f := f) 4 a 0 0 (by omega) (by decide) (by decide)
  unfold kLn
  by_cases c1 : (kNm t f 4 a 0).1.toInt = a.toInt ∨ 511 < (kNm t f 4 a 0).2.toInt
  · rw [kif_t c1]
    have h1 : f1 = a := (g1.trans (kif_t c1)).trans (kF_m h0)
    have n1 : ¬ f1.toInt = -1 := by rw [h1]; omega
    have h2 : f2 = f1 := g2.trans (kF_k1 n1)
    exact Or.inl ⟨by rw [h2]; exact n1, by rw [h2, h1]⟩
  · rw [kif_f c1]
    have h1 : f1 = f0 := g1.trans (kif_f c1)
    rw [e1] at e2 g2
    by_cases c2 : (kHere (kNm t f 4 a 0).1 t f).toInt = 32
    · rw [kif_f (k_nn c2)]
      have b2 : a2 = (kNm t f 4 a 0).1 + 1 := e2.trans (kif_t c2)
      have h2 : f2 = f0 := (g2.trans (kif_t c2)).trans h1
      exact Or.inr ⟨by rw [h2]; exact h0, by rw [b2, ev], by rw [ev]; omega, by rw [ev]; omega⟩
    · rw [kif_t c2]
      have h2 : f2 = (kNm t f 4 a 0).1 := (g2.trans (kif_f c2)).trans (by rw [h1]; exact kF_m h0)
      exact Or.inl ⟨by rw [h2]; omega, h2⟩
end FRONT
section LINE
variable {t : Int32} {f : Nat → Int32} {a a2 a3 a4 f2 f4 a5 f5 a6 f6 a7 f7 : Int32} {v : Int64}
/-- ==, an odd ADDRESS or not -/
theorem kLn_w (ha : 0 ≤ a.toInt ∧ a.toInt ≤ t.toInt) (ht : t.toInt ≤ 2000) (h2 : 0 ≤ a2.toInt ∧ a2.toInt ≤ t.toInt)
    (F : (¬ f2.toInt = -1 ∧ f2 = (kLn t f a).1) ∨ (f2.toInt = -1 ∧ kLn t f a = kLb t f a a2 v ∧ 0 ≤ v.toInt ∧ v.toInt ≤ 511))
    (c3 : (kHere a2 t f).toInt = 61) (e3 : a3 = kSk a2 t f 61) (c4 : (kHere a3 t f).toInt = 61) (e4 : a4 = kSk a3 t f 61)
    (ho : (0 ≤ v.toInt ∧ v.toInt ≤ 511) → (v.toInt % 2 = 1 ∧ f4 = kF f2 a) ∨ (¬ v.toInt % 2 = 1 ∧ f4 = f2)) (hk : ¬ f2.toInt = -1 → f4 = f2)
    (T : (¬ f4.toInt = -1 → f7 = f4) ∧ (f4.toInt = -1 → kOk (kTl t f 11 34359738367 a4) f7 a7)) : kOk (kLn t f a) f7 a7 := by
  rcases F with ⟨n2, q2⟩ | ⟨m2, q2, hv⟩
  · have h4 := hk n2
    have h7 := T.1 (by rw [h4]; exact n2)
    exact kOk_n (by rw [h7, h4]; exact q2) (by rw [h7, h4]; exact n2)
  · have b3 : a3 = a2 + 1 := e3.trans (kif_t c3)
    have b4 : a4 = a3 + 1 := e4.trans (kif_t c4)
    rw [q2]
    unfold kLb
    rw [kif_t c3]
    rw [b3] at c4
    rw [kif_t c4]
    rcases ho hv with ⟨o, h4⟩ | ⟨o, h4⟩
    · rw [kif_t o]
      have h4' : f4 = a := h4.trans (kF_m m2)
      have n4 : ¬ f4.toInt = -1 := by rw [h4']; omega
      have h7 := T.1 n4
      exact kOk_n (by rw [h7]; exact h4') (by rw [h7]; exact n4)
    · rw [kif_f o, ← b3, ← b4]
      exact T.2 (by rw [h4]; exact m2)
/-- = -/
theorem kLn_e (F : (¬ f2.toInt = -1 ∧ f2 = (kLn t f a).1) ∨ (f2.toInt = -1 ∧ kLn t f a = kLb t f a a2 v ∧ 0 ≤ v.toInt ∧ v.toInt ≤ 511))
    (c3 : (kHere a2 t f).toInt = 61) (e3 : a3 = kSk a2 t f 61) (c4 : ¬ (kHere a3 t f).toInt = 61) (e4 : a4 = kSk a3 t f 61)
    (T : (¬ f2.toInt = -1 → f7 = f2) ∧ (f2.toInt = -1 → kOk (kTl t f 6 131071 a4) f7 a7)) : kOk (kLn t f a) f7 a7 := by
  rcases F with ⟨n2, q2⟩ | ⟨m2, q2, hv⟩
  · have h7 := T.1 n2
    exact kOk_n (by rw [h7]; exact q2) (by rw [h7]; exact n2)
  · have b3 : a3 = a2 + 1 := e3.trans (kif_t c3)
    have b4 : a4 = a3 := e4.trans (kif_f c4)
    rw [q2]
    unfold kLb
    rw [kif_t c3]
    rw [b3] at c4
    rw [kif_f c4, ← b3, ← b4]
    exact T.2 m2
/-- an ACT -/
theorem kLn_a (ht : t.toInt ≤ 2000) (h2 : 0 ≤ a2.toInt ∧ a2.toInt ≤ t.toInt)
    (F : (¬ f2.toInt = -1 ∧ f2 = (kLn t f a).1) ∨ (f2.toInt = -1 ∧ kLn t f a = kLb t f a a2 v ∧ 0 ≤ v.toInt ∧ v.toInt ≤ 511))
    (c3 : ¬ (kHere a2 t f).toInt = 61) (e3 : a3 = kSk a2 t f 61)
    (e4 : a4 = (kNm t f 2 a3 0).1) (g4 : f4 = kif ((kNm t f 2 a3 0).1.toInt = a3.toInt ∨ 31 < (kNm t f 2 a3 0).2.toInt) (kF f2 a3) f2)
    (T : (¬ f4.toInt = -1 → f7 = f4) ∧ (f4.toInt = -1 → kOk (kTl t f 4 4095 a4) f7 a7)) : kOk (kLn t f a) f7 a7 := by
  rcases F with ⟨n2, q2⟩ | ⟨m2, q2, hv⟩
  · have h4 : f4 = f2 := g4.trans (kF_k2 n2)
    have h7 := T.1 (by rw [h4]; exact n2)
    exact kOk_n (by rw [h7, h4]; exact q2) (by rw [h7, h4]; exact n2)
  · have b3 : a3 = a2 := e3.trans (kif_f c3)
    rw [b3] at e4 g4
    rw [q2]
    unfold kLb
    rw [kif_f c3]
    by_cases c4 : (kNm t f 2 a2 0).1.toInt = a2.toInt ∨ 31 < (kNm t f 2 a2 0).2.toInt
    · rw [kif_t c4]
      have h4 : f4 = a2 := (g4.trans (kif_t c4)).trans (kF_m m2)
      have n4 : ¬ f4.toInt = -1 := by rw [h4]; omega
      have h7 := T.1 n4
      exact kOk_n (by rw [h7]; exact h4) (by rw [h7]; exact n4)
    · rw [kif_f c4, ← e4]
      exact T.2 (by rw [g4, kif_f c4]; exact m2)
end LINE
theorem k_odd {v : Int64} (h : 0 ≤ v.toInt ∧ v.toInt ≤ 511) : (v.toInt32 &&& 1).toInt = v.toInt % 2 := by
  have e : v.toInt32.toInt = v.toInt := by
    rw [Int64.toInt_toInt32]
    exact Int.bmod_eq_of_le (by omega) (by omega)
  obtain ⟨j, hj, hn⟩ := nI_of (x := v.toInt32) (by rw [Int32.lt_iff_toInt_lt]; simp only [Int32.reduceToInt]; omega)
  rw [hn, nI_toInt hj] at e
  have e2 : nI j &&& 1 = nI (j % 2) := pk_andN (by omega) 1 (by decide)
  rw [hn, e2, nI_toInt (by omega)]
  omega
set_option maxRecDepth 100000 in
theorem iX5_takeBytes_X5 : ∀ w ∈ wsX50, w ∈ wsX5_takeBytes := fun w h => (goodIn_r (big := wsX5_takeBytes) wsX50 [3, 4, 5, 6, 7, 8, 9] rfl (by decide +kernel) w h).1
set_option maxRecDepth 100000 in
set_option maxHeartbeats 4000000 in
theorem g_takeBytes (l : Launch) (D : va_G) (cI cL cB cZ cT : ClassId) (sz : Nat) (aX bX : Nat) (tl tf ta td tw : Int32) (tv : Int64) (fx : Nat → Int32) (v : Int64) (n : Int32) (ht : 0 ≤ tl.toInt ∧ tl.toInt ≤ 2000) (hn : 1 ≤ n.toInt ∧ n.toInt ≤ 8) : kM (S := (Int32 × (Nat → Int32))) l yX5_takeBytes wsX5_takeBytes ({ frames := 0, cells := 0, slots := 0, locals := 0 }) D (kT cI cL cB cZ cT) [.ref aX, .long v, .int n] [(aX, .inr (5, [.ref bX, .int tl, .int tf, .int ta, .int td, .int tw, .long tv])), (bX, .inl (cB, 2000, .inl fx))] sz eI (fun r u => ((tl.toInt + n.toInt ≤ 2000 ∧ r.toInt = 1 ∧ ((u.1)).toInt = tl.toInt + n.toInt ∧ (u.2) = kFl v fx tl n.toNatClampNeg) ∨ (2000 < tl.toInt + n.toInt ∧ r.toInt = 0 ∧ ((u.1)).toInt = tl.toInt ∧ (u.2) = fx))) (fun u => [(aX, .inr (5, [.ref bX, .int u.1, .int tf, .int ta, .int td, .int tw, .long tv])), (bX, .inl (cB, 2000, .inl u.2))]) 0 0 := by
  refine kStart (cc := cX5_takeBytes) (maxL := 5) (ret := (some .boolean)) (own := RX5) (by decide) rfl rfl (Nat.le_of_ble_eq_true rfl) ?_
  intro p e s m args below meth c A ls hx hb hr hml hown hts hlocks hnm hsz hA hG hP hD hS hl
  have hK := hG.1
  have hl : lv_has ls 5 [(0, .ref aX), (1, .long v), (3, .int n)] := hl
  have ha0 := k_add (a := tl) (b := n) (by omega) (by omega)
  refine lv_aload_n hx hb dX5_takeBytes_0 rfl (lv_at hl 0 rfl) ?_
  refine va_get (D := D) (ci := 5) (v := .int tl) (C := RX5) (T := TX5) (N := 7) hx hb hts iX5_takeBytes_X5 hown hK hP 0 rfl rfl 1 (by decide) (hts (.fieldLink RX5 19 "TapeCalculator$Text" "length" "I") (List.mem_of_getElem? (i := 1) rfl)) (fun _ h9 => h9) rfl dX5_takeBytes_1 ?_
  refine lv_if_lt (tgt := 21) hx hb dX5_takeBytes_4 (by decide) (fun c_4_0 => ?_) (fun c_4_0 => ?_)
  · have t_4_0 := c_4_0
    try simp only [kb_eq0, kb_ne0, lg_cmp_lt, lg_cmp_le, lg_cmp_gt, lg_cmp_ge, lg_cmp_eq] at t_4_0
    try simp only [Int32.lt_iff_toInt_lt, Int32.le_iff_toInt_le, ← Int32.toInt_inj, Int64.lt_iff_toInt_lt, Int64.le_iff_toInt_le, ← Int64.toInt_inj, Int32.toInt_toInt64, Int32.reduceToInt, Int64.reduceToInt] at t_4_0
    refine lv_iconst (v := 0) hx hb dX5_takeBytes_21 (by decide) ?_
    refine kIret (u := (tl, fx)) hx hb hr rfl hlocks hS dX5_takeBytes_22 ?_ (hP.sub [0, 1] rfl) (hD.sub [0, 1] (by decide) rfl)
    try dsimp only
    exact Or.inr ⟨by omega, rfl, rfl, rfl⟩
  · have t_4_0 := c_4_0
    try simp only [kb_eq0, kb_ne0, lg_cmp_lt, lg_cmp_le, lg_cmp_gt, lg_cmp_ge, lg_cmp_eq] at t_4_0
    try simp only [Int32.lt_iff_toInt_lt, Int32.le_iff_toInt_le, ← Int32.toInt_inj, Int64.lt_iff_toInt_lt, Int64.le_iff_toInt_le, ← Int64.toInt_inj, Int32.toInt_toInt64, Int32.reduceToInt, Int64.reduceToInt] at t_4_0
    refine lv_aload_n hx hb dX5_takeBytes_7 rfl (lv_at hl 0 rfl) ?_
    refine va_get (D := D) (ci := 5) (v := .int tl) (C := RX5) (T := TX5) (N := 7) hx hb hts iX5_takeBytes_X5 hown hK hP 0 rfl rfl 1 (by decide) (hts (.fieldLink RX5 19 "TapeCalculator$Text" "length" "I") (List.mem_of_getElem? (i := 1) rfl)) (fun _ h9 => h9) rfl dX5_takeBytes_8 ?_
    refine lv_iload_n hx hb dX5_takeBytes_11 rfl (lv_at hl 2 rfl) ?_
    refine lv_iadd hx hb dX5_takeBytes_12 ?_
    refine lv_aload_n hx hb dX5_takeBytes_13 rfl (lv_at hl 0 rfl) ?_
    refine va_get (D := D) (ci := 5) (v := .ref bX) (C := RX5) (T := TX5) (N := 7) hx hb hts iX5_takeBytes_X5 hown hK hP 0 rfl rfl 0 (by decide) (hts (.fieldLink RX5 9 "TapeCalculator$Text" "bytes" "[B") (List.mem_of_getElem? (i := 2) rfl)) (fun _ h9 => h9) rfl dX5_takeBytes_14 ?_
    refine va_alen hx hb hK hP 1 2 rfl rfl (v := 2000) rfl dX5_takeBytes_17 ?_
    refine lv_icmp_le (tgt := 23) hx hb dX5_takeBytes_18 (by decide) (fun c_18_1 => ?_) (fun c_18_1 => ?_)
    · have t_18_1 := c_18_1
      try simp only [kb_eq0, kb_ne0, lg_cmp_lt, lg_cmp_le, lg_cmp_gt, lg_cmp_ge, lg_cmp_eq] at t_18_1
      try simp only [Int32.lt_iff_toInt_lt, Int32.le_iff_toInt_le, ← Int32.toInt_inj, Int64.lt_iff_toInt_lt, Int64.le_iff_toInt_le, ← Int64.toInt_inj, Int32.toInt_toInt64, Int32.reduceToInt, Int64.reduceToInt] at t_18_1
      refine lv_iconst (v := 0) hx hb dX5_takeBytes_23 (by decide) ?_
      refine lv_istore (lv' := [(4, .int 0), (0, .ref aX), (1, .long v), (3, .int n)]) hx hb dX5_takeBytes_24 hl (by decide) rfl (fun ls hl => ?_)
      have J26 : ∀ (k : Nat) (j : Int32) (lj : Int32) (fj : Nat → Int32), (n.toInt - j.toInt).toNat < k → (∃ g : Nat, j = nI g ∧ (g : Int) ≤ n.toInt ∧ lj.toInt = tl.toInt + g ∧ fj = kFl v fx tl g) → ∀ (H : Heap) (locs : List Loc), va_P D vwCl [(aX, .inr (5, [.ref bX, .int lj, .int tf, .int ta, .int td, .int tw, .long tv])), (bX, .inl (cB, 2000, .inl fj))] H → va_D A [(aX, .inr (5, [.ref bX, .int lj, .int tf, .int ta, .int td, .int tw, .long tv])), (bX, .inl (cB, 2000, .inl fj))] → va_S A s.heap H locs → ∀ ls : Array Slot, lv_has ls 5 [(4, .int j), (0, .ref aX), (1, .long v), (3, .int n)] → W p l e ({ frames := 0, cells := 0, slots := 0, locals := 0 }) s m args below meth c H locs 0 0 (MQ below (kQ (S := (Int32 × (Nat → Int32))) eI (fun r u => ((tl.toInt + n.toInt ≤ 2000 ∧ r.toInt = 1 ∧ ((u.1)).toInt = tl.toInt + n.toInt ∧ (u.2) = kFl v fx tl n.toNatClampNeg) ∨ (2000 < tl.toInt + n.toInt ∧ r.toInt = 0 ∧ ((u.1)).toInt = tl.toInt ∧ (u.2) = fx))) D (fun u => [(aX, .inr (5, [.ref bX, .int u.1, .int tf, .int ta, .int td, .int tw, .long tv])), (bX, .inl (cB, 2000, .inl u.2))]) A) args s 0 0 A) (F0 m 26 ls []) := by
        intro k
        induction k with
        | zero =>
          intro j lj fj hm
          exact absurd hm (Nat.not_lt_zero _)
        | succ k ih =>
          intro j lj fj hm hj H locs hP hD hS ls hl
          refine lv_iload hx hb dX5_takeBytes_26 (lv_at hl 0 rfl) ?_
          refine lv_iload_n hx hb dX5_takeBytes_28 rfl (lv_at hl 3 rfl) ?_
          refine lv_icmp_ge (tgt := 78) hx hb dX5_takeBytes_29 (by decide) (fun c_29_2 => ?_) (fun c_29_2 => ?_)
          · have t_29_2 := c_29_2
            try simp only [kb_eq0, kb_ne0, lg_cmp_lt, lg_cmp_le, lg_cmp_gt, lg_cmp_ge, lg_cmp_eq] at t_29_2
            try simp only [Int32.lt_iff_toInt_lt, Int32.le_iff_toInt_le, ← Int32.toInt_inj, Int64.lt_iff_toInt_lt, Int64.le_iff_toInt_le, ← Int64.toInt_inj, Int32.toInt_toInt64, Int32.reduceToInt, Int64.reduceToInt] at t_29_2
            refine lv_iconst (v := 1) hx hb dX5_takeBytes_78 (by decide) ?_
            refine kIret (u := (lj, fj)) hx hb hr rfl hlocks hS dX5_takeBytes_79 ?_ (hP.sub [0, 1] rfl) (hD.sub [0, 1] (by decide) rfl)
            try dsimp only
            obtain ⟨g, g1, g2, g3, g4⟩ := hj
            have g5 : j.toInt = g := by rw [g1]; exact nI_toInt (by omega)
            obtain rfl : g = n.toNatClampNeg := by have h6 := k_cl (k := n) (by omega); omega
            have h6 := k_cl (k := n) (by omega)
            exact Or.inl ⟨by omega, rfl, by omega, g4⟩
          · have t_29_2 := c_29_2
            try simp only [kb_eq0, kb_ne0, lg_cmp_lt, lg_cmp_le, lg_cmp_gt, lg_cmp_ge, lg_cmp_eq] at t_29_2
            try simp only [Int32.lt_iff_toInt_lt, Int32.le_iff_toInt_le, ← Int32.toInt_inj, Int64.lt_iff_toInt_lt, Int64.le_iff_toInt_le, ← Int64.toInt_inj, Int32.toInt_toInt64, Int32.reduceToInt, Int64.reduceToInt] at t_29_2
            obtain ⟨g, g1, g2, g3, g4⟩ := hj
            have g5 : j.toInt = g := by rw [g1]; exact nI_toInt (by omega)
            refine lv_aload_n hx hb dX5_takeBytes_32 rfl (lv_at hl 1 rfl) ?_
            refine va_get (D := D) (ci := 5) (v := .int lj) (C := RX5) (T := TX5) (N := 7) hx hb hts iX5_takeBytes_X5 hown hK hP 0 rfl rfl 1 (by decide) (hts (.fieldLink RX5 19 "TapeCalculator$Text" "length" "I") (List.mem_of_getElem? (i := 1) rfl)) (fun _ h9 => h9) rfl dX5_takeBytes_33 ?_
            refine lv_aload_n hx hb dX5_takeBytes_36 rfl (lv_at hl 1 rfl) ?_
            refine va_get (D := D) (ci := 5) (v := .ref bX) (C := RX5) (T := TX5) (N := 7) hx hb hts iX5_takeBytes_X5 hown hK hP 0 rfl rfl 0 (by decide) (hts (.fieldLink RX5 9 "TapeCalculator$Text" "bytes" "[B") (List.mem_of_getElem? (i := 2) rfl)) (fun _ h9 => h9) rfl dX5_takeBytes_37 ?_
            refine va_alen hx hb hK hP 1 2 rfl rfl (v := 2000) rfl dX5_takeBytes_40 ?_
            refine lv_icmp_ge (tgt := 78) hx hb dX5_takeBytes_41 (by decide) (fun c_41_3 => ?_) (fun c_41_3 => ?_)
            · have t_41_3 := c_41_3
              try simp only [kb_eq0, kb_ne0, lg_cmp_lt, lg_cmp_le, lg_cmp_gt, lg_cmp_ge, lg_cmp_eq] at t_41_3
              try simp only [Int32.lt_iff_toInt_lt, Int32.le_iff_toInt_le, ← Int32.toInt_inj, Int64.lt_iff_toInt_lt, Int64.le_iff_toInt_le, ← Int64.toInt_inj, Int32.toInt_toInt64, Int32.reduceToInt, Int64.reduceToInt] at t_41_3
              refine lv_iconst (v := 1) hx hb dX5_takeBytes_78 (by decide) ?_
              refine kIret (u := (lj, fj)) hx hb hr rfl hlocks hS dX5_takeBytes_79 ?_ (hP.sub [0, 1] rfl) (hD.sub [0, 1] (by decide) rfl)
              exfalso
              omega
            · have t_41_3 := c_41_3
              try simp only [kb_eq0, kb_ne0, lg_cmp_lt, lg_cmp_le, lg_cmp_gt, lg_cmp_ge, lg_cmp_eq] at t_41_3
              try simp only [Int32.lt_iff_toInt_lt, Int32.le_iff_toInt_le, ← Int32.toInt_inj, Int64.lt_iff_toInt_lt, Int64.le_iff_toInt_le, ← Int64.toInt_inj, Int32.toInt_toInt64, Int32.reduceToInt, Int64.reduceToInt] at t_41_3
              refine lv_aload_n hx hb dX5_takeBytes_44 rfl (lv_at hl 1 rfl) ?_
              refine va_get (D := D) (ci := 5) (v := .ref bX) (C := RX5) (T := TX5) (N := 7) hx hb hts iX5_takeBytes_X5 hown hK hP 0 rfl rfl 0 (by decide) (hts (.fieldLink RX5 9 "TapeCalculator$Text" "bytes" "[B") (List.mem_of_getElem? (i := 2) rfl)) (fun _ h9 => h9) rfl dX5_takeBytes_45 ?_
              refine lv_aload_n hx hb dX5_takeBytes_48 rfl (lv_at hl 1 rfl) ?_
              refine va_get (D := D) (ci := 5) (v := .int lj) (C := RX5) (T := TX5) (N := 7) hx hb hts iX5_takeBytes_X5 hown hK hP 0 rfl rfl 1 (by decide) (hts (.fieldLink RX5 19 "TapeCalculator$Text" "length" "I") (List.mem_of_getElem? (i := 1) rfl)) (fun _ h9 => h9) rfl dX5_takeBytes_49 ?_
              refine lv_lload_n hx hb dX5_takeBytes_52 rfl (lv_at hl 2 rfl) ?_
              refine lv_bipush (v := 8) hx hb dX5_takeBytes_53 (by decide) ?_
              refine lv_iload hx hb dX5_takeBytes_55 (lv_at hl 0 rfl) ?_
              refine lv_imul hx hb dX5_takeBytes_57 ?_
              refine lv_lshr hx hb dX5_takeBytes_58 rfl ?_
              refine lv_l2i hx hb dX5_takeBytes_59 rfl ?_
              refine lv_i2b hx hb dX5_takeBytes_60 rfl ?_
              refine va_bast hx hb hK hP hD hS 1 2 rfl rfl (vp_in_iff.mpr (by omega)) dX5_takeBytes_61 (fun H locs hP hD hS => ?_)
              have hP : va_P D vwCl [(aX, .inr (5, [.ref bX, .int lj, .int tf, .int ta, .int td, .int tw, .long tv])), (bX, .inl (cB, 2000, .inl (upd fj lj.toNatClampNeg (vp_nar .byte (v >>> (((8 * j) : Int32).toInt64 &&& 63)).toInt32.toInt8.toInt32))))] H := hP
              have hD : va_D A [(aX, .inr (5, [.ref bX, .int lj, .int tf, .int ta, .int td, .int tw, .long tv])), (bX, .inl (cB, 2000, .inl (upd fj lj.toNatClampNeg (vp_nar .byte (v >>> (((8 * j) : Int32).toInt64 &&& 63)).toInt32.toInt8.toInt32))))] := hD
              refine lv_aload_n hx hb dX5_takeBytes_62 rfl (lv_at hl 1 rfl) ?_
              refine lv_dup hx hb dX5_takeBytes_63 rfl ?_
              refine va_get (D := D) (ci := 5) (v := .int lj) (C := RX5) (T := TX5) (N := 7) hx hb hts iX5_takeBytes_X5 hown hK hP 0 rfl rfl 1 (by decide) (hts (.fieldLink RX5 19 "TapeCalculator$Text" "length" "I") (List.mem_of_getElem? (i := 1) rfl)) (fun _ h9 => h9) rfl dX5_takeBytes_64 ?_
              refine lv_iconst (v := 1) hx hb dX5_takeBytes_67 (by decide) ?_
              refine lv_iadd hx hb dX5_takeBytes_68 ?_
              refine lv_topi (fun x_5 ex_5 => ?_)
              refine va_put (D := D) (ci := 5) (v := .int x_5) (ty := .int) (C := RX5) (T := TX5) (N := 7) hx hb hts iX5_takeBytes_X5 tyX5 tyX5_ok nmX5 hown hK hP hD hS 0 rfl rfl 1 (by decide) (hts (.fieldLink RX5 19 "TapeCalculator$Text" "length" "I") (List.mem_of_getElem? (i := 1) rfl)) (fun _ h9 => h9) rfl (by decide +kernel) rfl rfl (Nat.le_of_ble_eq_true rfl) dX5_takeBytes_69 (fun H locs hP hD hS => ?_)
              have hP : va_P D vwCl [(aX, .inr (5, [.ref bX, .int x_5, .int tf, .int ta, .int td, .int tw, .long tv])), (bX, .inl (cB, 2000, .inl (upd fj lj.toNatClampNeg (vp_nar .byte (v >>> (((8 * j) : Int32).toInt64 &&& 63)).toInt32.toInt8.toInt32))))] H := hP
              have hD : va_D A [(aX, .inr (5, [.ref bX, .int x_5, .int tf, .int ta, .int td, .int tw, .long tv])), (bX, .inl (cB, 2000, .inl (upd fj lj.toNatClampNeg (vp_nar .byte (v >>> (((8 * j) : Int32).toInt64 &&& 63)).toInt32.toInt8.toInt32))))] := hD
              obtain ⟨x_6, ex_6⟩ : ∃ y : Int32, y = j + 1 := ⟨_, rfl⟩
              refine lv_iinc (v := x_6) (lv' := [(4, .int x_6), (0, .ref aX), (1, .long v), (3, .int n)]) hx hb dX5_takeBytes_72 hl (k := 0) rfl (by rw [ex_6]; rfl) (by decide) rfl (fun ls hl => ?_)
              refine lv_goto (tgt := 26) hx hb dX5_takeBytes_75 (by decide) ?_
              have hd := k_inc (i := j) (n := n) (by omega)
              rw [← ex_6] at hd
              have hd2 := k_add1 (a := lj) (by omega)
              rw [← ex_5] at hd2
              exact ih x_6 x_5 (upd fj lj.toNatClampNeg (vp_nar .byte (v >>> (((8 * j) : Int32).toInt64 &&& 63)).toInt32.toInt8.toInt32)) (by omega) ⟨g + 1, by rw [ex_6, g1]; exact nI_1 g, by omega, by omega, by rw [kFl_s, ← g4, show lj = tl + nI g from k_inj (by rw [k_add (a := tl) (b := nI g) (by omega) (by rw [nI_toInt (by omega)]; omega), nI_toInt (by omega)]; omega), g1]⟩ _ _ (hP.sub [0, 1] rfl) (hD.sub [0, 1] (by decide) rfl) hS ls (lv_sub hl [0, 1, 2, 3] rfl)
      have hz0 : (0 : Int32).toInt = 0 := by decide
      exact J26 _ 0 tl fx (Nat.lt_succ_self _) ⟨0, by decide, by omega, by omega, rfl⟩ _ _ (hP.sub [0, 1] rfl) (hD.sub [0, 1] (by decide) rfl) hS ls (lv_sub hl [0, 1, 2, 3] rfl)
    · have t_18_1 := c_18_1
      try simp only [kb_eq0, kb_ne0, lg_cmp_lt, lg_cmp_le, lg_cmp_gt, lg_cmp_ge, lg_cmp_eq] at t_18_1
      try simp only [Int32.lt_iff_toInt_lt, Int32.le_iff_toInt_le, ← Int32.toInt_inj, Int64.lt_iff_toInt_lt, Int64.le_iff_toInt_le, ← Int64.toInt_inj, Int32.toInt_toInt64, Int32.reduceToInt, Int64.reduceToInt] at t_18_1
      refine lv_iconst (v := 0) hx hb dX5_takeBytes_21 (by decide) ?_
      refine kIret (u := (tl, fx)) hx hb hr rfl hlocks hS dX5_takeBytes_22 ?_ (hP.sub [0, 1] rfl) (hD.sub [0, 1] (by decide) rfl)
      try dsimp only
      exact Or.inr ⟨by omega, rfl, rfl, rfl⟩
set_option maxRecDepth 100000 in
theorem iX7_feed_X7 : ∀ w ∈ wsX70, w ∈ wsX7_feed := fun w h => (goodIn_r (big := wsX7_feed) wsX70 [10, 11, 12, 13, 14, 15, 16, 17, 18, 19, 20] rfl (by decide +kernel) w h).1
set_option maxRecDepth 100000 in
theorem iX7_feed_X5 : ∀ w ∈ wsX50, w ∈ wsX7_feed := fun w h => (goodIn_r (big := wsX7_feed) wsX50 [21, 22, 23, 24, 25, 26, 27] rfl (by decide +kernel) w h).1
set_option maxRecDepth 100000 in
set_option maxHeartbeats 4000000 in
theorem g_feed (l : Launch) (D : va_G) (cI cL cB cZ cT : ClassId) (sz : Nat) (h0 aS aA aU aX aW : Nat) (pl np li sw lst : Int32) (ad : Int64) (bX : Nat) (tl tf ta td tw : Int32) (tv : Int64) (fx : Nat → Int32) (v : Int64) (n : Int32) (ht : 0 ≤ tl.toInt ∧ tl.toInt ≤ 2000) : kM (S := (Int32 × (Nat → Int32))) l yX7_feed wsX7_feed ({ frames := 1, cells := 0, slots := 0, locals := 24 }) D (kT cI cL cB cZ cT) [.ref h0, .long v, .int n] [(h0, .inr (7, [.ref aS, .ref aA, .ref aU, .ref aX, .ref aW, .int pl, .int np, .int li, .int sw, .int lst, .long ad])), (aX, .inr (5, [.ref bX, .int tl, .int tf, .int ta, .int td, .int tw, .long tv])), (bX, .inl (cB, 2000, .inl fx))] sz eI (fun r u => r.toInt = kFdA tl.toInt n.toInt ∧ ((u.1)).toInt = kFdS tl.toInt n.toInt ∧ (u.2) = kFdF v fx tl n) (fun u => [(h0, .inr (7, [.ref aS, .ref aA, .ref aU, .ref aX, .ref aW, .int pl, .int np, .int li, .int sw, .int lst, .long ad])), (aX, .inr (5, [.ref bX, .int u.1, .int tf, .int ta, .int td, .int tw, .long tv])), (bX, .inl (cB, 2000, .inl u.2))]) 0 0 := by
  refine kStart (cc := cX7_feed) (maxL := 4) (ret := (some .int)) (own := RX7) (by decide) rfl rfl (Nat.le_of_ble_eq_true rfl) ?_
  intro p e s m args below meth c A ls hx hb hr hml hown hts hlocks hnm hsz hA hG hP hD hS hl
  have hK := hG.1
  have hl : lv_has ls 4 [(0, .ref h0), (1, .long v), (3, .int n)] := hl
  refine lv_iload_n hx hb dX7_feed_0 rfl (lv_at hl 2 rfl) ?_
  refine lv_iconst (v := 1) hx hb dX7_feed_1 (by decide) ?_
  refine lv_icmp_lt (tgt := 11) hx hb dX7_feed_2 (by decide) (fun c_2_0 => ?_) (fun c_2_0 => ?_)
  · have t_2_0 := c_2_0
    try simp only [kb_eq0, kb_ne0, lg_cmp_lt, lg_cmp_le, lg_cmp_gt, lg_cmp_ge, lg_cmp_eq] at t_2_0
    try simp only [Int32.lt_iff_toInt_lt, Int32.le_iff_toInt_le, ← Int32.toInt_inj, Int64.lt_iff_toInt_lt, Int64.le_iff_toInt_le, ← Int64.toInt_inj, Int32.toInt_toInt64, Int32.reduceToInt, Int64.reduceToInt] at t_2_0
    refine lv_iconst (v := (-1)) hx hb dX7_feed_11 (by decide) ?_
    refine kIret (u := (tl, fx)) hx hb hr rfl hlocks hS dX7_feed_12 ?_ (hP.sub [0, 1, 2] rfl) (hD.sub [0, 1, 2] (by decide) rfl)
    try dsimp only
    have hrv : ((-1) : Int32).toInt = -1 := by decide
    exact ⟨by unfold kFdA; (repeat split) <;> first | omega | (exfalso; omega), by unfold kFdS; (repeat split) <;> first | omega | rfl | (exfalso; omega), (kif_f (fun h => absurd h.1 (by omega))).symm⟩
  · have t_2_0 := c_2_0
    try simp only [kb_eq0, kb_ne0, lg_cmp_lt, lg_cmp_le, lg_cmp_gt, lg_cmp_ge, lg_cmp_eq] at t_2_0
    try simp only [Int32.lt_iff_toInt_lt, Int32.le_iff_toInt_le, ← Int32.toInt_inj, Int64.lt_iff_toInt_lt, Int64.le_iff_toInt_le, ← Int64.toInt_inj, Int32.toInt_toInt64, Int32.reduceToInt, Int64.reduceToInt] at t_2_0
    refine lv_iload_n hx hb dX7_feed_5 rfl (lv_at hl 2 rfl) ?_
    refine lv_bipush (v := 8) hx hb dX7_feed_6 (by decide) ?_
    refine lv_icmp_le (tgt := 13) hx hb dX7_feed_8 (by decide) (fun c_8_1 => ?_) (fun c_8_1 => ?_)
    · have t_8_1 := c_8_1
      try simp only [kb_eq0, kb_ne0, lg_cmp_lt, lg_cmp_le, lg_cmp_gt, lg_cmp_ge, lg_cmp_eq] at t_8_1
      try simp only [Int32.lt_iff_toInt_lt, Int32.le_iff_toInt_le, ← Int32.toInt_inj, Int64.lt_iff_toInt_lt, Int64.le_iff_toInt_le, ← Int64.toInt_inj, Int32.toInt_toInt64, Int32.reduceToInt, Int64.reduceToInt] at t_8_1
      refine lv_aload_n hx hb dX7_feed_13 rfl (lv_at hl 0 rfl) ?_
      refine va_get (D := D) (ci := 7) (v := .ref aX) (C := RX7) (T := TX7) (N := 11) hx hb hts iX7_feed_X7 hown hK hP 0 rfl rfl 3 (by decide) (hts (.fieldLink RX7 33 "TapeCalculator" "text" "LTapeCalculator$Text;") (List.mem_of_getElem? (i := 1) rfl)) (fun _ h9 => h9) rfl dX7_feed_14 ?_
      refine lv_lload_n hx hb dX7_feed_17 rfl (lv_at hl 1 rfl) ?_
      refine lv_iload_n hx hb dX7_feed_18 rfl (lv_at hl 2 rfl) ?_
      refine kCallI (wr := [(h0, .inr (7, [.ref aS, .ref aA, .ref aU, .ref aX, .ref aW, .int pl, .int np, .int li, .int sw, .int lst, .long ad]))]) (va_runV (As := [.long v, .int n]) (rest := []) ⟨hx, hb, hml, hown, hts⟩ (g_takeBytes l D cI cL cB cZ cT _ aX bX tl tf ta td tw tv fx v n ht ⟨by omega, by omega⟩) (cwV 2 hts gX7_feed_X5_takeBytes rfl rfl rfl (by decide +kernel) ⟨Nat.le_of_ble_eq_true rfl, Nat.le_of_ble_eq_true rfl⟩) (kPreV hG hP hD [1, 2] rfl (by decide) 0 5 rfl rfl rfl) rfl rfl hl.1 rfl (lv_room (Nat.le_of_ble_eq_true rfl)) dX7_feed_19 ⟨Nat.le_of_ble_eq_true rfl, Nat.le_of_ble_eq_true rfl⟩) hA hP hD hS [1, 2] [0] rfl rfl (by decide) (by decide) (fun r_3 u_r_3 H locs wr_3 hP hD hS => ?_)
      have hP : va_P D vwCl [(h0, .inr (7, [.ref aS, .ref aA, .ref aU, .ref aX, .ref aW, .int pl, .int np, .int li, .int sw, .int lst, .long ad])), (aX, .inr (5, [.ref bX, .int u_r_3.1, .int tf, .int ta, .int td, .int tw, .long tv])), (bX, .inl (cB, 2000, .inl u_r_3.2))] H := hP
      have hD : va_D A [(h0, .inr (7, [.ref aS, .ref aA, .ref aU, .ref aX, .ref aW, .int pl, .int np, .int li, .int sw, .int lst, .long ad])), (aX, .inr (5, [.ref bX, .int u_r_3.1, .int tf, .int ta, .int td, .int tw, .long tv])), (bX, .inl (cB, 2000, .inl u_r_3.2))] := hD
      try dsimp only at wr_3
      refine lv_if_eq (tgt := 35) hx hb dX7_feed_22 (by decide) (fun c_22_3 => ?_) (fun c_22_3 => ?_)
      · have t_22_3 := c_22_3
        try simp only [kb_eq0, kb_ne0, lg_cmp_lt, lg_cmp_le, lg_cmp_gt, lg_cmp_ge, lg_cmp_eq] at t_22_3
        try simp only [Int32.lt_iff_toInt_lt, Int32.le_iff_toInt_le, ← Int32.toInt_inj, Int64.lt_iff_toInt_lt, Int64.le_iff_toInt_le, ← Int64.toInt_inj, Int32.toInt_toInt64, Int32.reduceToInt, Int64.reduceToInt] at t_22_3
        refine lv_bipush (v := (-2)) hx hb dX7_feed_35 (by decide) ?_
        refine kIret (u := (u_r_3.1, u_r_3.2)) hx hb hr rfl hlocks hS dX7_feed_37 ?_ (hP.sub [0, 1, 2] rfl) (hD.sub [0, 1, 2] (by decide) rfl)
        try dsimp only
        have hrv : ((-2) : Int32).toInt = -2 := by decide
        have hz1 : (1 : Int32).toInt = 1 := by decide
        rcases wr_3 with ⟨w1, w2, w3, w4⟩ | ⟨w1, w2, w3, w4⟩
        · exact ⟨by unfold kFdA; (repeat split) <;> first | omega | (exfalso; omega), by unfold kFdS; (repeat split) <;> first | omega | (exfalso; omega), w4.trans (kif_t ⟨by omega, by omega⟩).symm⟩
        · exact ⟨by unfold kFdA; (repeat split) <;> first | omega | (exfalso; omega), by unfold kFdS; (repeat split) <;> first | omega | (exfalso; omega), w4.trans (kif_f (fun h => absurd h.2 (by omega))).symm⟩
      · have t_22_3 := c_22_3
        try simp only [kb_eq0, kb_ne0, lg_cmp_lt, lg_cmp_le, lg_cmp_gt, lg_cmp_ge, lg_cmp_eq] at t_22_3
        try simp only [Int32.lt_iff_toInt_lt, Int32.le_iff_toInt_le, ← Int32.toInt_inj, Int64.lt_iff_toInt_lt, Int64.le_iff_toInt_le, ← Int64.toInt_inj, Int32.toInt_toInt64, Int32.reduceToInt, Int64.reduceToInt] at t_22_3
        refine lv_aload_n hx hb dX7_feed_25 rfl (lv_at hl 0 rfl) ?_
        refine va_get (D := D) (ci := 7) (v := .ref aX) (C := RX7) (T := TX7) (N := 11) hx hb hts iX7_feed_X7 hown hK hP 0 rfl rfl 3 (by decide) (hts (.fieldLink RX7 33 "TapeCalculator" "text" "LTapeCalculator$Text;") (List.mem_of_getElem? (i := 1) rfl)) (fun _ h9 => h9) rfl dX7_feed_26 ?_
        refine va_get (D := D) (ci := 5) (v := .int u_r_3.1) (C := RX5) (T := TX5) (N := 7) hx hb hts iX7_feed_X5 hown hK hP 1 rfl rfl 1 (by decide) (hts (.fieldLink RX7 147 "TapeCalculator$Text" "length" "I") (List.mem_of_getElem? (i := 2) rfl)) (fun _ h9 => h9) rfl dX7_feed_29 ?_
        refine lv_goto (tgt := 37) hx hb dX7_feed_32 (by decide) ?_
        refine kIret (u := (u_r_3.1, u_r_3.2)) hx hb hr rfl hlocks hS dX7_feed_37 ?_ (hP.sub [0, 1, 2] rfl) (hD.sub [0, 1, 2] (by decide) rfl)
        try dsimp only
        have hz1 : (1 : Int32).toInt = 1 := by decide
        rcases wr_3 with ⟨w1, w2, w3, w4⟩ | ⟨w1, w2, w3, w4⟩
        · exact ⟨by unfold kFdA; (repeat split) <;> first | omega | (exfalso; omega), by unfold kFdS; (repeat split) <;> first | omega | (exfalso; omega), w4.trans (kif_t ⟨by omega, by omega⟩).symm⟩
        · exact ⟨by unfold kFdA; (repeat split) <;> first | omega | (exfalso; omega), by unfold kFdS; (repeat split) <;> first | omega | (exfalso; omega), w4.trans (kif_f (fun h => absurd h.2 (by omega))).symm⟩
    · have t_8_1 := c_8_1
      try simp only [kb_eq0, kb_ne0, lg_cmp_lt, lg_cmp_le, lg_cmp_gt, lg_cmp_ge, lg_cmp_eq] at t_8_1
      try simp only [Int32.lt_iff_toInt_lt, Int32.le_iff_toInt_le, ← Int32.toInt_inj, Int64.lt_iff_toInt_lt, Int64.le_iff_toInt_le, ← Int64.toInt_inj, Int32.toInt_toInt64, Int32.reduceToInt, Int64.reduceToInt] at t_8_1
      refine lv_iconst (v := (-1)) hx hb dX7_feed_11 (by decide) ?_
      refine kIret (u := (tl, fx)) hx hb hr rfl hlocks hS dX7_feed_12 ?_ (hP.sub [0, 1, 2] rfl) (hD.sub [0, 1, 2] (by decide) rfl)
      try dsimp only
      have hrv : ((-1) : Int32).toInt = -1 := by decide
      exact ⟨by unfold kFdA; (repeat split) <;> first | omega | (exfalso; omega), by unfold kFdS; (repeat split) <;> first | omega | rfl | (exfalso; omega), (kif_f (fun h => absurd h.1 (by omega))).symm⟩
set_option maxRecDepth 100000 in
theorem iX5_byteHere_X5 : ∀ w ∈ wsX50, w ∈ wsX5_byteHere := fun w h => (goodIn_r (big := wsX5_byteHere) wsX50 [4, 5, 6, 7, 8, 9, 10] rfl (by decide +kernel) w h).1
set_option maxRecDepth 100000 in
set_option maxHeartbeats 4000000 in
theorem g_byteHere (l : Launch) (D : va_G) (cI cL cB cZ cT : ClassId) (sz : Nat) (aX bX : Nat) (tl tf ta td tw : Int32) (tv : Int64) (fx : Nat → Int32) (hta : 0 ≤ ta.toInt ∧ ta.toInt ≤ tl.toInt) (htl : tl.toInt ≤ 2000) : kM (S := Unit) l yX5_byteHere wsX5_byteHere ({ frames := 0, cells := 0, slots := 0, locals := 0 }) D (kT cI cL cB cZ cT) [.ref aX] [(aX, .inr (5, [.ref bX, .int tl, .int tf, .int ta, .int td, .int tw, .long tv])), (bX, .inl (cB, 2000, .inl fx))] sz eI (fun r _ => r = (kHere ta tl fx)) (fun _ => [(aX, .inr (5, [.ref bX, .int tl, .int tf, .int ta, .int td, .int tw, .long tv])), (bX, .inl (cB, 2000, .inl fx))]) 0 0 := by
  refine kStart (cc := cX5_byteHere) (maxL := 1) (ret := (some .int)) (own := RX5) (by decide) rfl rfl (Nat.le_of_ble_eq_true rfl) ?_
  intro p e s m args below meth c A ls hx hb hr hml hown hts hlocks hnm hsz hA hG hP hD hS hl
  have hK := hG.1
  have hl : lv_has ls 1 [(0, .ref aX)] := hl
  refine lv_aload_n hx hb dX5_byteHere_0 rfl (lv_at hl 0 rfl) ?_
  refine va_get (D := D) (ci := 5) (v := .int ta) (C := RX5) (T := TX5) (N := 7) hx hb hts iX5_byteHere_X5 hown hK hP 0 rfl rfl 3 (by decide) (hts (.fieldLink RX5 22 "TapeCalculator$Text" "at" "I") (List.mem_of_getElem? (i := 1) rfl)) (fun _ h9 => h9) rfl dX5_byteHere_1 ?_
  refine lv_if_lt (tgt := 46) hx hb dX5_byteHere_4 (by decide) (fun c_4_0 => ?_) (fun c_4_0 => ?_)
  · have t_4_0 := c_4_0
    try simp only [kb_eq0, kb_ne0, lg_cmp_lt, lg_cmp_le, lg_cmp_gt, lg_cmp_ge, lg_cmp_eq] at t_4_0
    try simp only [Int32.lt_iff_toInt_lt, Int32.le_iff_toInt_le, ← Int32.toInt_inj, Int64.lt_iff_toInt_lt, Int64.le_iff_toInt_le, ← Int64.toInt_inj, Int32.toInt_toInt64, Int32.reduceToInt, Int64.reduceToInt] at t_4_0
    refine lv_iconst (v := (-1)) hx hb dX5_byteHere_46 (by decide) ?_
    refine kIret (u := ()) hx hb hr rfl hlocks hS dX5_byteHere_47 ?_ (hP.sub [0, 1] rfl) (hD.sub [0, 1] (by decide) rfl)
    unfold kHere
    first | exact (kif_t (by omega)).symm | exact (kif_f (by omega)).symm
  · have t_4_0 := c_4_0
    try simp only [kb_eq0, kb_ne0, lg_cmp_lt, lg_cmp_le, lg_cmp_gt, lg_cmp_ge, lg_cmp_eq] at t_4_0
    try simp only [Int32.lt_iff_toInt_lt, Int32.le_iff_toInt_le, ← Int32.toInt_inj, Int64.lt_iff_toInt_lt, Int64.le_iff_toInt_le, ← Int64.toInt_inj, Int32.toInt_toInt64, Int32.reduceToInt, Int64.reduceToInt] at t_4_0
    refine lv_aload_n hx hb dX5_byteHere_7 rfl (lv_at hl 0 rfl) ?_
    refine va_get (D := D) (ci := 5) (v := .int ta) (C := RX5) (T := TX5) (N := 7) hx hb hts iX5_byteHere_X5 hown hK hP 0 rfl rfl 3 (by decide) (hts (.fieldLink RX5 22 "TapeCalculator$Text" "at" "I") (List.mem_of_getElem? (i := 1) rfl)) (fun _ h9 => h9) rfl dX5_byteHere_8 ?_
    refine lv_aload_n hx hb dX5_byteHere_11 rfl (lv_at hl 0 rfl) ?_
    refine va_get (D := D) (ci := 5) (v := .int tl) (C := RX5) (T := TX5) (N := 7) hx hb hts iX5_byteHere_X5 hown hK hP 0 rfl rfl 1 (by decide) (hts (.fieldLink RX5 19 "TapeCalculator$Text" "length" "I") (List.mem_of_getElem? (i := 2) rfl)) (fun _ h9 => h9) rfl dX5_byteHere_12 ?_
    refine lv_icmp_ge (tgt := 46) hx hb dX5_byteHere_15 (by decide) (fun c_15_1 => ?_) (fun c_15_1 => ?_)
    · have t_15_1 := c_15_1
      try simp only [kb_eq0, kb_ne0, lg_cmp_lt, lg_cmp_le, lg_cmp_gt, lg_cmp_ge, lg_cmp_eq] at t_15_1
      try simp only [Int32.lt_iff_toInt_lt, Int32.le_iff_toInt_le, ← Int32.toInt_inj, Int64.lt_iff_toInt_lt, Int64.le_iff_toInt_le, ← Int64.toInt_inj, Int32.toInt_toInt64, Int32.reduceToInt, Int64.reduceToInt] at t_15_1
      refine lv_iconst (v := (-1)) hx hb dX5_byteHere_46 (by decide) ?_
      refine kIret (u := ()) hx hb hr rfl hlocks hS dX5_byteHere_47 ?_ (hP.sub [0, 1] rfl) (hD.sub [0, 1] (by decide) rfl)
      unfold kHere
      first | exact (kif_t (by omega)).symm | exact (kif_f (by omega)).symm
    · have t_15_1 := c_15_1
      try simp only [kb_eq0, kb_ne0, lg_cmp_lt, lg_cmp_le, lg_cmp_gt, lg_cmp_ge, lg_cmp_eq] at t_15_1
      try simp only [Int32.lt_iff_toInt_lt, Int32.le_iff_toInt_le, ← Int32.toInt_inj, Int64.lt_iff_toInt_lt, Int64.le_iff_toInt_le, ← Int64.toInt_inj, Int32.toInt_toInt64, Int32.reduceToInt, Int64.reduceToInt] at t_15_1
      refine lv_aload_n hx hb dX5_byteHere_18 rfl (lv_at hl 0 rfl) ?_
      refine va_get (D := D) (ci := 5) (v := .int ta) (C := RX5) (T := TX5) (N := 7) hx hb hts iX5_byteHere_X5 hown hK hP 0 rfl rfl 3 (by decide) (hts (.fieldLink RX5 22 "TapeCalculator$Text" "at" "I") (List.mem_of_getElem? (i := 1) rfl)) (fun _ h9 => h9) rfl dX5_byteHere_19 ?_
      refine lv_aload_n hx hb dX5_byteHere_22 rfl (lv_at hl 0 rfl) ?_
      refine va_get (D := D) (ci := 5) (v := .ref bX) (C := RX5) (T := TX5) (N := 7) hx hb hts iX5_byteHere_X5 hown hK hP 0 rfl rfl 0 (by decide) (hts (.fieldLink RX5 9 "TapeCalculator$Text" "bytes" "[B") (List.mem_of_getElem? (i := 3) rfl)) (fun _ h9 => h9) rfl dX5_byteHere_23 ?_
      refine va_alen hx hb hK hP 1 2 rfl rfl (v := 2000) rfl dX5_byteHere_26 ?_
      refine lv_icmp_ge (tgt := 46) hx hb dX5_byteHere_27 (by decide) (fun c_27_2 => ?_) (fun c_27_2 => ?_)
      · have t_27_2 := c_27_2
        try simp only [kb_eq0, kb_ne0, lg_cmp_lt, lg_cmp_le, lg_cmp_gt, lg_cmp_ge, lg_cmp_eq] at t_27_2
        try simp only [Int32.lt_iff_toInt_lt, Int32.le_iff_toInt_le, ← Int32.toInt_inj, Int64.lt_iff_toInt_lt, Int64.le_iff_toInt_le, ← Int64.toInt_inj, Int32.toInt_toInt64, Int32.reduceToInt, Int64.reduceToInt] at t_27_2
        refine lv_iconst (v := (-1)) hx hb dX5_byteHere_46 (by decide) ?_
        refine kIret (u := ()) hx hb hr rfl hlocks hS dX5_byteHere_47 ?_ (hP.sub [0, 1] rfl) (hD.sub [0, 1] (by decide) rfl)
        unfold kHere
        first | exact (kif_t (by omega)).symm | exact (kif_f (by omega)).symm
      · have t_27_2 := c_27_2
        try simp only [kb_eq0, kb_ne0, lg_cmp_lt, lg_cmp_le, lg_cmp_gt, lg_cmp_ge, lg_cmp_eq] at t_27_2
        try simp only [Int32.lt_iff_toInt_lt, Int32.le_iff_toInt_le, ← Int32.toInt_inj, Int64.lt_iff_toInt_lt, Int64.le_iff_toInt_le, ← Int64.toInt_inj, Int32.toInt_toInt64, Int32.reduceToInt, Int64.reduceToInt] at t_27_2
        refine lv_aload_n hx hb dX5_byteHere_30 rfl (lv_at hl 0 rfl) ?_
        refine va_get (D := D) (ci := 5) (v := .ref bX) (C := RX5) (T := TX5) (N := 7) hx hb hts iX5_byteHere_X5 hown hK hP 0 rfl rfl 0 (by decide) (hts (.fieldLink RX5 9 "TapeCalculator$Text" "bytes" "[B") (List.mem_of_getElem? (i := 3) rfl)) (fun _ h9 => h9) rfl dX5_byteHere_31 ?_
        refine lv_aload_n hx hb dX5_byteHere_34 rfl (lv_at hl 0 rfl) ?_
        refine va_get (D := D) (ci := 5) (v := .int ta) (C := RX5) (T := TX5) (N := 7) hx hb hts iX5_byteHere_X5 hown hK hP 0 rfl rfl 3 (by decide) (hts (.fieldLink RX5 22 "TapeCalculator$Text" "at" "I") (List.mem_of_getElem? (i := 1) rfl)) (fun _ h9 => h9) rfl dX5_byteHere_35 ?_
        refine va_bald hx hb hK hP 1 2 rfl rfl (vp_in_iff.mpr (by omega)) dX5_byteHere_38 ?_
        refine lv_sipush (v := 255) hx hb dX5_byteHere_39 (by decide) ?_
        refine lv_iand hx hb dX5_byteHere_42 ?_
        refine lv_goto (tgt := 47) hx hb dX5_byteHere_43 (by decide) ?_
        refine kIret (u := ()) hx hb hr rfl hlocks hS dX5_byteHere_47 ?_ (hP.sub [0, 1] rfl) (hD.sub [0, 1] (by decide) rfl)
        unfold kHere
        first | exact (kif_t (by omega)).symm | exact (kif_f (by omega)).symm
set_option maxRecDepth 100000 in
set_option maxHeartbeats 4000000 in
theorem g_isFigure (l : Launch) (D : va_G) (cI cL cB cZ cT : ClassId) (sz : Nat) (b : Int32) : kM (S := Unit) l yX5_isFigure wsX5_isFigure ({ frames := 0, cells := 0, slots := 0, locals := 0 }) D (kT cI cL cB cZ cT) [.int b] [] sz eI (fun r _ => r = (kb (48 ≤ b.toInt ∧ b.toInt ≤ 57))) (fun _ => []) 0 0 := by
  refine kStart (cc := cX5_isFigure) (maxL := 1) (ret := (some .boolean)) (own := RX5) (by decide) rfl rfl (Nat.le_of_ble_eq_true rfl) ?_
  intro p e s m args below meth c A ls hx hb hr hml hown hts hlocks hnm hsz hA hG hP hD hS hl
  have hK := hG.1
  have hl : lv_has ls 1 [(0, .int b)] := hl
  refine lv_iload_n hx hb dX5_isFigure_0 rfl (lv_at hl 0 rfl) ?_
  refine lv_bipush (v := 48) hx hb dX5_isFigure_1 (by decide) ?_
  refine lv_icmp_lt (tgt := 16) hx hb dX5_isFigure_3 (by decide) (fun c_3_0 => ?_) (fun c_3_0 => ?_)
  · have t_3_0 := c_3_0
    try simp only [kb_eq0, kb_ne0, lg_cmp_lt, lg_cmp_le, lg_cmp_gt, lg_cmp_ge, lg_cmp_eq] at t_3_0
    try simp only [Int32.lt_iff_toInt_lt, Int32.le_iff_toInt_le, ← Int32.toInt_inj, Int64.lt_iff_toInt_lt, Int64.le_iff_toInt_le, ← Int64.toInt_inj, Int32.toInt_toInt64, Int32.reduceToInt, Int64.reduceToInt] at t_3_0
    refine lv_iconst (v := 0) hx hb dX5_isFigure_16 (by decide) ?_
    refine kIret (u := ()) hx hb hr rfl hlocks hS dX5_isFigure_17 ?_ (hP.sub [] rfl) (hD.sub [] (by decide) rfl)
    first
      | exact (kb_t (by omega)).symm
      | exact (kb_f (by omega)).symm
  · have t_3_0 := c_3_0
    try simp only [kb_eq0, kb_ne0, lg_cmp_lt, lg_cmp_le, lg_cmp_gt, lg_cmp_ge, lg_cmp_eq] at t_3_0
    try simp only [Int32.lt_iff_toInt_lt, Int32.le_iff_toInt_le, ← Int32.toInt_inj, Int64.lt_iff_toInt_lt, Int64.le_iff_toInt_le, ← Int64.toInt_inj, Int32.toInt_toInt64, Int32.reduceToInt, Int64.reduceToInt] at t_3_0
    refine lv_iload_n hx hb dX5_isFigure_6 rfl (lv_at hl 0 rfl) ?_
    refine lv_bipush (v := 57) hx hb dX5_isFigure_7 (by decide) ?_
    refine lv_icmp_gt (tgt := 16) hx hb dX5_isFigure_9 (by decide) (fun c_9_1 => ?_) (fun c_9_1 => ?_)
    · have t_9_1 := c_9_1
      try simp only [kb_eq0, kb_ne0, lg_cmp_lt, lg_cmp_le, lg_cmp_gt, lg_cmp_ge, lg_cmp_eq] at t_9_1
      try simp only [Int32.lt_iff_toInt_lt, Int32.le_iff_toInt_le, ← Int32.toInt_inj, Int64.lt_iff_toInt_lt, Int64.le_iff_toInt_le, ← Int64.toInt_inj, Int32.toInt_toInt64, Int32.reduceToInt, Int64.reduceToInt] at t_9_1
      refine lv_iconst (v := 0) hx hb dX5_isFigure_16 (by decide) ?_
      refine kIret (u := ()) hx hb hr rfl hlocks hS dX5_isFigure_17 ?_ (hP.sub [] rfl) (hD.sub [] (by decide) rfl)
      first
        | exact (kb_t (by omega)).symm
        | exact (kb_f (by omega)).symm
    · have t_9_1 := c_9_1
      try simp only [kb_eq0, kb_ne0, lg_cmp_lt, lg_cmp_le, lg_cmp_gt, lg_cmp_ge, lg_cmp_eq] at t_9_1
      try simp only [Int32.lt_iff_toInt_lt, Int32.le_iff_toInt_le, ← Int32.toInt_inj, Int64.lt_iff_toInt_lt, Int64.le_iff_toInt_le, ← Int64.toInt_inj, Int32.toInt_toInt64, Int32.reduceToInt, Int64.reduceToInt] at t_9_1
      refine lv_iconst (v := 1) hx hb dX5_isFigure_12 (by decide) ?_
      refine lv_goto (tgt := 17) hx hb dX5_isFigure_13 (by decide) ?_
      refine kIret (u := ()) hx hb hr rfl hlocks hS dX5_isFigure_17 ?_ (hP.sub [] rfl) (hD.sub [] (by decide) rfl)
      first
        | exact (kb_t (by omega)).symm
        | exact (kb_f (by omega)).symm
set_option maxRecDepth 100000 in
theorem iX5_isFaulty_X5 : ∀ w ∈ wsX50, w ∈ wsX5_isFaulty := fun w h => (goodIn_r (big := wsX5_isFaulty) wsX50 [2, 3, 4, 5, 6, 7, 8] rfl (by decide +kernel) w h).1
set_option maxRecDepth 100000 in
set_option maxHeartbeats 4000000 in
theorem g_isFaulty (l : Launch) (D : va_G) (cI cL cB cZ cT : ClassId) (sz : Nat) (aX bX : Nat) (tl tf ta td tw : Int32) (tv : Int64) (fx : Nat → Int32) : kM (S := Unit) l yX5_isFaulty wsX5_isFaulty ({ frames := 0, cells := 0, slots := 0, locals := 0 }) D (kT cI cL cB cZ cT) [.ref aX] [(aX, .inr (5, [.ref bX, .int tl, .int tf, .int ta, .int td, .int tw, .long tv])), (bX, .inl (cB, 2000, .inl fx))] sz eI (fun r _ => r = (kb (¬ tf.toInt = -1))) (fun _ => [(aX, .inr (5, [.ref bX, .int tl, .int tf, .int ta, .int td, .int tw, .long tv])), (bX, .inl (cB, 2000, .inl fx))]) 0 0 := by
  refine kStart (cc := cX5_isFaulty) (maxL := 1) (ret := (some .boolean)) (own := RX5) (by decide) rfl rfl (Nat.le_of_ble_eq_true rfl) ?_
  intro p e s m args below meth c A ls hx hb hr hml hown hts hlocks hnm hsz hA hG hP hD hS hl
  have hK := hG.1
  have hl : lv_has ls 1 [(0, .ref aX)] := hl
  refine lv_aload_n hx hb dX5_isFaulty_0 rfl (lv_at hl 0 rfl) ?_
  refine va_get (D := D) (ci := 5) (v := .int tf) (C := RX5) (T := TX5) (N := 7) hx hb hts iX5_isFaulty_X5 hown hK hP 0 rfl rfl 2 (by decide) (hts (.fieldLink RX5 15 "TapeCalculator$Text" "fault" "I") (List.mem_of_getElem? (i := 1) rfl)) (fun _ h9 => h9) rfl dX5_isFaulty_1 ?_
  refine lv_iconst (v := (-1)) hx hb dX5_isFaulty_4 (by decide) ?_
  refine lv_icmp_eq (tgt := 12) hx hb dX5_isFaulty_5 (by decide) (fun c_5_0 => ?_) (fun c_5_0 => ?_)
  · have t_5_0 := c_5_0
    try simp only [kb_eq0, kb_ne0, lg_cmp_lt, lg_cmp_le, lg_cmp_gt, lg_cmp_ge, lg_cmp_eq] at t_5_0
    try simp only [Int32.lt_iff_toInt_lt, Int32.le_iff_toInt_le, ← Int32.toInt_inj, Int64.lt_iff_toInt_lt, Int64.le_iff_toInt_le, ← Int64.toInt_inj, Int32.toInt_toInt64, Int32.reduceToInt, Int64.reduceToInt] at t_5_0
    refine lv_iconst (v := 0) hx hb dX5_isFaulty_12 (by decide) ?_
    refine kIret (u := ()) hx hb hr rfl hlocks hS dX5_isFaulty_13 ?_ (hP.sub [0, 1] rfl) (hD.sub [0, 1] (by decide) rfl)
    first
      | exact (kb_t (by omega)).symm
      | exact (kb_f (by omega)).symm
  · have t_5_0 := c_5_0
    try simp only [kb_eq0, kb_ne0, lg_cmp_lt, lg_cmp_le, lg_cmp_gt, lg_cmp_ge, lg_cmp_eq] at t_5_0
    try simp only [Int32.lt_iff_toInt_lt, Int32.le_iff_toInt_le, ← Int32.toInt_inj, Int64.lt_iff_toInt_lt, Int64.le_iff_toInt_le, ← Int64.toInt_inj, Int32.toInt_toInt64, Int32.reduceToInt, Int64.reduceToInt] at t_5_0
    refine lv_iconst (v := 1) hx hb dX5_isFaulty_8 (by decide) ?_
    refine lv_goto (tgt := 13) hx hb dX5_isFaulty_9 (by decide) ?_
    refine kIret (u := ()) hx hb hr rfl hlocks hS dX5_isFaulty_13 ?_ (hP.sub [0, 1] rfl) (hD.sub [0, 1] (by decide) rfl)
    first
      | exact (kb_t (by omega)).symm
      | exact (kb_f (by omega)).symm
set_option maxRecDepth 100000 in
theorem iX5_faultAt_X5 : ∀ w ∈ wsX50, w ∈ wsX5_faultAt := fun w h => (goodIn_r (big := wsX5_faultAt) wsX50 [7, 8, 9, 10, 11, 12, 13] rfl (by decide +kernel) w h).1
set_option maxRecDepth 100000 in
set_option maxHeartbeats 4000000 in
theorem g_faultAt (l : Launch) (D : va_G) (cI cL cB cZ cT : ClassId) (sz : Nat) (aX bX : Nat) (tl tf ta td tw : Int32) (tv : Int64) (fx : Nat → Int32) (i : Int32) : kM (S := (Int32)) l yX5_faultAt wsX5_faultAt ({ frames := 1, cells := 0, slots := 0, locals := 20 }) D (kT cI cL cB cZ cT) [.ref aX, .int i] [(aX, .inr (5, [.ref bX, .int tl, .int tf, .int ta, .int td, .int tw, .long tv])), (bX, .inl (cB, 2000, .inl fx))] sz eV (fun r u => (u) = kF tf i) (fun u => [(aX, .inr (5, [.ref bX, .int tl, .int u, .int ta, .int td, .int tw, .long tv])), (bX, .inl (cB, 2000, .inl fx))]) 0 0 := by
  refine kStart (cc := cX5_faultAt) (maxL := 2) (ret := none) (own := RX5) (by decide) rfl rfl (Nat.le_of_ble_eq_true rfl) ?_
  intro p e s m args below meth c A ls hx hb hr hml hown hts hlocks hnm hsz hA hG hP hD hS hl
  have hK := hG.1
  have hl : lv_has ls 2 [(0, .ref aX), (1, .int i)] := hl
  refine lv_aload_n hx hb dX5_faultAt_0 rfl (lv_at hl 0 rfl) ?_
  refine kCallI (wr := []) (va_runV (As := []) (rest := []) ⟨hx, hb, hml, hown, hts⟩ (g_isFaulty l D cI cL cB cZ cT _ aX bX tl tf ta td tw tv fx) (cwV 0 hts gX5_faultAt_X5_isFaulty rfl rfl rfl (by decide +kernel) ⟨Nat.le_of_ble_eq_true rfl, Nat.le_of_ble_eq_true rfl⟩) (kPreV hG hP hD [0, 1] rfl (by decide) 0 5 rfl rfl rfl) rfl rfl hl.1 rfl (lv_room (Nat.le_of_ble_eq_true rfl)) dX5_faultAt_1 ⟨Nat.le_of_ble_eq_true rfl, Nat.le_of_ble_eq_true rfl⟩) hA hP hD hS [0, 1] [] rfl rfl (by decide) (by decide) (fun r_1 u_r_1 H locs wr_1 hP hD hS => ?_)
  have hP : va_P D vwCl [(aX, .inr (5, [.ref bX, .int tl, .int tf, .int ta, .int td, .int tw, .long tv])), (bX, .inl (cB, 2000, .inl fx))] H := hP
  have hD : va_D A [(aX, .inr (5, [.ref bX, .int tl, .int tf, .int ta, .int td, .int tw, .long tv])), (bX, .inl (cB, 2000, .inl fx))] := hD
  try dsimp only at wr_1
  subst wr_1
  refine lv_if_ne (tgt := 12) hx hb dX5_faultAt_4 (by decide) (fun c_4_1 => ?_) (fun c_4_1 => ?_)
  · have t_4_1 := c_4_1
    try simp only [kb_eq0, kb_ne0, lg_cmp_lt, lg_cmp_le, lg_cmp_gt, lg_cmp_ge, lg_cmp_eq] at t_4_1
    try simp only [Int32.lt_iff_toInt_lt, Int32.le_iff_toInt_le, ← Int32.toInt_inj, Int64.lt_iff_toInt_lt, Int64.le_iff_toInt_le, ← Int64.toInt_inj, Int32.toInt_toInt64, Int32.reduceToInt, Int64.reduceToInt] at t_4_1
    refine kVret (u := tf) hx hb hr hlocks hS dX5_faultAt_12 ?_ (hP.sub [0, 1] rfl) (hD.sub [0, 1] (by decide) rfl)
    first | exact (kF_m (by omega)).symm | exact (kF_k (by omega)).symm
  · have t_4_1 := c_4_1
    try simp only [kb_eq0, kb_ne0, lg_cmp_lt, lg_cmp_le, lg_cmp_gt, lg_cmp_ge, lg_cmp_eq] at t_4_1
    try simp only [Int32.lt_iff_toInt_lt, Int32.le_iff_toInt_le, ← Int32.toInt_inj, Int64.lt_iff_toInt_lt, Int64.le_iff_toInt_le, ← Int64.toInt_inj, Int32.toInt_toInt64, Int32.reduceToInt, Int64.reduceToInt] at t_4_1
    refine lv_aload_n hx hb dX5_faultAt_7 rfl (lv_at hl 0 rfl) ?_
    refine lv_iload_n hx hb dX5_faultAt_8 rfl (lv_at hl 1 rfl) ?_
    refine va_put (D := D) (ci := 5) (v := .int i) (ty := .int) (C := RX5) (T := TX5) (N := 7) hx hb hts iX5_faultAt_X5 tyX5 tyX5_ok nmX5 hown hK hP hD hS 0 rfl rfl 2 (by decide) (hts (.fieldLink RX5 15 "TapeCalculator$Text" "fault" "I") (List.mem_of_getElem? (i := 1) rfl)) (fun _ h9 => h9) rfl (by decide +kernel) rfl rfl (Nat.le_of_ble_eq_true rfl) dX5_faultAt_9 (fun H locs hP hD hS => ?_)
    have hP : va_P D vwCl [(aX, .inr (5, [.ref bX, .int tl, .int i, .int ta, .int td, .int tw, .long tv])), (bX, .inl (cB, 2000, .inl fx))] H := hP
    have hD : va_D A [(aX, .inr (5, [.ref bX, .int tl, .int i, .int ta, .int td, .int tw, .long tv])), (bX, .inl (cB, 2000, .inl fx))] := hD
    refine kVret (u := i) hx hb hr hlocks hS dX5_faultAt_12 ?_ (hP.sub [0, 1] rfl) (hD.sub [0, 1] (by decide) rfl)
    first | exact (kF_m (by omega)).symm | exact (kF_k (by omega)).symm
set_option maxRecDepth 100000 in
theorem iX5_skipIf_X5 : ∀ w ∈ wsX50, w ∈ wsX5_skipIf := fun w h => (goodIn_r (big := wsX5_skipIf) wsX50 [9, 10, 11, 12, 13, 14, 15] rfl (by decide +kernel) w h).1
set_option maxRecDepth 100000 in
set_option maxHeartbeats 4000000 in
theorem g_skipIf (l : Launch) (D : va_G) (cI cL cB cZ cT : ClassId) (sz : Nat) (aX bX : Nat) (tl tf ta td tw : Int32) (tv : Int64) (fx : Nat → Int32) (b : Int32) (bi : Int) (hta : 0 ≤ ta.toInt ∧ ta.toInt ≤ tl.toInt) (htl : tl.toInt ≤ 2000) (hbi : b.toInt = bi) : kM (S := (Int32)) l yX5_skipIf wsX5_skipIf ({ frames := 1, cells := 0, slots := 0, locals := 20 }) D (kT cI cL cB cZ cT) [.ref aX, .int b] [(aX, .inr (5, [.ref bX, .int tl, .int tf, .int ta, .int td, .int tw, .long tv])), (bX, .inl (cB, 2000, .inl fx))] sz eI (fun r u => r = kb ((kHere ta tl fx).toInt = bi) ∧ (u) = kSk ta tl fx bi) (fun u => [(aX, .inr (5, [.ref bX, .int tl, .int tf, .int u, .int td, .int tw, .long tv])), (bX, .inl (cB, 2000, .inl fx))]) 0 0 := by
  refine kStart (cc := cX5_skipIf) (maxL := 3) (ret := (some .boolean)) (own := RX5) (by decide) rfl rfl (Nat.le_of_ble_eq_true rfl) ?_
  intro p e s m args below meth c A ls hx hb hr hml hown hts hlocks hnm hsz hA hG hP hD hS hl
  have hK := hG.1
  have hl : lv_has ls 3 [(0, .ref aX), (1, .int b)] := hl
  refine lv_aload_n hx hb dX5_skipIf_0 rfl (lv_at hl 0 rfl) ?_
  refine kCallI (wr := []) (va_runV (As := []) (rest := []) ⟨hx, hb, hml, hown, hts⟩ (g_byteHere l D cI cL cB cZ cT _ aX bX tl tf ta td tw tv fx (by omega) htl) (cwV 0 hts gX5_skipIf_X5_byteHere rfl rfl rfl (by decide +kernel) ⟨Nat.le_of_ble_eq_true rfl, Nat.le_of_ble_eq_true rfl⟩) (kPreV hG hP hD [0, 1] rfl (by decide) 0 5 rfl rfl rfl) rfl rfl hl.1 rfl (lv_room (Nat.le_of_ble_eq_true rfl)) dX5_skipIf_1 ⟨Nat.le_of_ble_eq_true rfl, Nat.le_of_ble_eq_true rfl⟩) hA hP hD hS [0, 1] [] rfl rfl (by decide) (by decide) (fun r_1 u_r_1 H locs wr_1 hP hD hS => ?_)
  have hP : va_P D vwCl [(aX, .inr (5, [.ref bX, .int tl, .int tf, .int ta, .int td, .int tw, .long tv])), (bX, .inl (cB, 2000, .inl fx))] H := hP
  have hD : va_D A [(aX, .inr (5, [.ref bX, .int tl, .int tf, .int ta, .int td, .int tw, .long tv])), (bX, .inl (cB, 2000, .inl fx))] := hD
  try dsimp only at wr_1
  subst wr_1
  refine lv_iload_n hx hb dX5_skipIf_4 rfl (lv_at hl 1 rfl) ?_
  refine lv_icmp_ne (tgt := 12) hx hb dX5_skipIf_5 (by decide) (fun c_5_1 => ?_) (fun c_5_1 => ?_)
  · have t_5_1 := c_5_1
    try simp only [kb_eq0, kb_ne0, lg_cmp_lt, lg_cmp_le, lg_cmp_gt, lg_cmp_ge, lg_cmp_eq] at t_5_1
    try simp only [Int32.lt_iff_toInt_lt, Int32.le_iff_toInt_le, ← Int32.toInt_inj, Int64.lt_iff_toInt_lt, Int64.le_iff_toInt_le, ← Int64.toInt_inj, Int32.toInt_toInt64, Int32.reduceToInt, Int64.reduceToInt] at t_5_1
    refine lv_iconst (v := 0) hx hb dX5_skipIf_12 (by decide) ?_
    refine lv_istore_n (lv' := [(2, .int 0), (0, .ref aX), (1, .int b)]) hx hb dX5_skipIf_13 rfl hl (by decide) rfl (fun ls hl => ?_)
    refine lv_iload_n hx hb dX5_skipIf_14 rfl (lv_at hl 0 rfl) ?_
    refine lv_if_eq (tgt := 28) hx hb dX5_skipIf_15 (by decide) (fun c_15_2 => ?_) (fun c_15_2 => ?_)
    · have t_15_2 := c_15_2
      try simp only [kb_eq0, kb_ne0, lg_cmp_lt, lg_cmp_le, lg_cmp_gt, lg_cmp_ge, lg_cmp_eq] at t_15_2
      try simp only [Int32.lt_iff_toInt_lt, Int32.le_iff_toInt_le, ← Int32.toInt_inj, Int64.lt_iff_toInt_lt, Int64.le_iff_toInt_le, ← Int64.toInt_inj, Int32.toInt_toInt64, Int32.reduceToInt, Int64.reduceToInt] at t_15_2
      refine lv_iload_n hx hb dX5_skipIf_28 rfl (lv_at hl 0 rfl) ?_
      refine kIret (u := ta) hx hb hr rfl hlocks hS dX5_skipIf_29 ?_ (hP.sub [0, 1] rfl) (hD.sub [0, 1] (by decide) rfl)
      try dsimp only
      first | exact ⟨(kb_t (by omega)).symm, (kif_t (by omega)).symm⟩ | exact ⟨(kb_f (by omega)).symm, (kif_f (by omega)).symm⟩
    · exact absurd (by decide) c_15_2
  · have t_5_1 := c_5_1
    try simp only [kb_eq0, kb_ne0, lg_cmp_lt, lg_cmp_le, lg_cmp_gt, lg_cmp_ge, lg_cmp_eq] at t_5_1
    try simp only [Int32.lt_iff_toInt_lt, Int32.le_iff_toInt_le, ← Int32.toInt_inj, Int64.lt_iff_toInt_lt, Int64.le_iff_toInt_le, ← Int64.toInt_inj, Int32.toInt_toInt64, Int32.reduceToInt, Int64.reduceToInt] at t_5_1
    refine lv_iconst (v := 1) hx hb dX5_skipIf_8 (by decide) ?_
    refine lv_goto (tgt := 13) hx hb dX5_skipIf_9 (by decide) ?_
    refine lv_istore_n (lv' := [(2, .int 1), (0, .ref aX), (1, .int b)]) hx hb dX5_skipIf_13 rfl hl (by decide) rfl (fun ls hl => ?_)
    refine lv_iload_n hx hb dX5_skipIf_14 rfl (lv_at hl 0 rfl) ?_
    refine lv_if_eq (tgt := 28) hx hb dX5_skipIf_15 (by decide) (fun c_15_3 => ?_) (fun c_15_3 => ?_)
    · exact absurd c_15_3 (by decide)
    · have t_15_3 := c_15_3
      try simp only [kb_eq0, kb_ne0, lg_cmp_lt, lg_cmp_le, lg_cmp_gt, lg_cmp_ge, lg_cmp_eq] at t_15_3
      try simp only [Int32.lt_iff_toInt_lt, Int32.le_iff_toInt_le, ← Int32.toInt_inj, Int64.lt_iff_toInt_lt, Int64.le_iff_toInt_le, ← Int64.toInt_inj, Int32.toInt_toInt64, Int32.reduceToInt, Int64.reduceToInt] at t_15_3
      refine lv_aload_n hx hb dX5_skipIf_18 rfl (lv_at hl 1 rfl) ?_
      refine lv_dup hx hb dX5_skipIf_19 rfl ?_
      refine va_get (D := D) (ci := 5) (v := .int ta) (C := RX5) (T := TX5) (N := 7) hx hb hts iX5_skipIf_X5 hown hK hP 0 rfl rfl 3 (by decide) (hts (.fieldLink RX5 22 "TapeCalculator$Text" "at" "I") (List.mem_of_getElem? (i := 1) rfl)) (fun _ h9 => h9) rfl dX5_skipIf_20 ?_
      refine lv_iconst (v := 1) hx hb dX5_skipIf_23 (by decide) ?_
      refine lv_iadd hx hb dX5_skipIf_24 ?_
      refine lv_topi (fun x_5 ex_5 => ?_)
      refine va_put (D := D) (ci := 5) (v := .int x_5) (ty := .int) (C := RX5) (T := TX5) (N := 7) hx hb hts iX5_skipIf_X5 tyX5 tyX5_ok nmX5 hown hK hP hD hS 0 rfl rfl 3 (by decide) (hts (.fieldLink RX5 22 "TapeCalculator$Text" "at" "I") (List.mem_of_getElem? (i := 1) rfl)) (fun _ h9 => h9) rfl (by decide +kernel) rfl rfl (Nat.le_of_ble_eq_true rfl) dX5_skipIf_25 (fun H locs hP hD hS => ?_)
      have hP : va_P D vwCl [(aX, .inr (5, [.ref bX, .int tl, .int tf, .int x_5, .int td, .int tw, .long tv])), (bX, .inl (cB, 2000, .inl fx))] H := hP
      have hD : va_D A [(aX, .inr (5, [.ref bX, .int tl, .int tf, .int x_5, .int td, .int tw, .long tv])), (bX, .inl (cB, 2000, .inl fx))] := hD
      refine lv_iload_n hx hb dX5_skipIf_28 rfl (lv_at hl 0 rfl) ?_
      refine kIret (u := x_5) hx hb hr rfl hlocks hS dX5_skipIf_29 ?_ (hP.sub [0, 1] rfl) (hD.sub [0, 1] (by decide) rfl)
      try dsimp only
      try subst ex_5
      first | exact ⟨(kb_t (by omega)).symm, (kif_t (by omega)).symm⟩ | exact ⟨(kb_f (by omega)).symm, (kif_f (by omega)).symm⟩
set_option maxRecDepth 100000 in
theorem iX5_expect_X5 : ∀ w ∈ wsX50, w ∈ wsX5_expect := fun w h => (goodIn_r (big := wsX5_expect) wsX50 [22, 23, 24, 25, 26, 27, 28] rfl (by decide +kernel) w h).1
set_option maxRecDepth 100000 in
set_option maxHeartbeats 4000000 in
theorem g_expect (l : Launch) (D : va_G) (cI cL cB cZ cT : ClassId) (sz : Nat) (aX bX : Nat) (tl tf ta td tw : Int32) (tv : Int64) (fx : Nat → Int32) (b : Int32) (bi : Int) (hta : 0 ≤ ta.toInt ∧ ta.toInt ≤ tl.toInt) (htl : tl.toInt ≤ 2000) (hbi : b.toInt = bi) : kM (S := (Int32 × Int32)) l yX5_expect wsX5_expect ({ frames := 2, cells := 0, slots := 0, locals := 42 }) D (kT cI cL cB cZ cT) [.ref aX, .int b] [(aX, .inr (5, [.ref bX, .int tl, .int tf, .int ta, .int td, .int tw, .long tv])), (bX, .inl (cB, 2000, .inl fx))] sz eV (fun r u => (u.2) = kSk ta tl fx bi ∧ (u.1) = kif ((kHere ta tl fx).toInt = bi) tf (kF tf ta)) (fun u => [(aX, .inr (5, [.ref bX, .int tl, .int u.1, .int u.2, .int td, .int tw, .long tv])), (bX, .inl (cB, 2000, .inl fx))]) 0 0 := by
  refine kStart (cc := cX5_expect) (maxL := 2) (ret := none) (own := RX5) (by decide) rfl rfl (Nat.le_of_ble_eq_true rfl) ?_
  intro p e s m args below meth c A ls hx hb hr hml hown hts hlocks hnm hsz hA hG hP hD hS hl
  have hK := hG.1
  have hl : lv_has ls 2 [(0, .ref aX), (1, .int b)] := hl
  refine lv_aload_n hx hb dX5_expect_0 rfl (lv_at hl 0 rfl) ?_
  refine lv_iload_n hx hb dX5_expect_1 rfl (lv_at hl 1 rfl) ?_
  refine kCallI (wr := []) (va_runV (As := [.int b]) (rest := []) ⟨hx, hb, hml, hown, hts⟩ (g_skipIf l D cI cL cB cZ cT _ aX bX tl tf ta td tw tv fx b bi (by omega) htl hbi) (cwV 1 hts gX5_expect_X5_skipIf rfl rfl rfl (by decide +kernel) ⟨Nat.le_of_ble_eq_true rfl, Nat.le_of_ble_eq_true rfl⟩) (kPreV hG hP hD [0, 1] rfl (by decide) 0 5 rfl rfl rfl) rfl rfl hl.1 rfl (lv_room (Nat.le_of_ble_eq_true rfl)) dX5_expect_2 ⟨Nat.le_of_ble_eq_true rfl, Nat.le_of_ble_eq_true rfl⟩) hA hP hD hS [0, 1] [] rfl rfl (by decide) (by decide) (fun r_1 u_r_1 H locs wr_1 hP hD hS => ?_)
  have hP : va_P D vwCl [(aX, .inr (5, [.ref bX, .int tl, .int tf, .int u_r_1, .int td, .int tw, .long tv])), (bX, .inl (cB, 2000, .inl fx))] H := hP
  have hD : va_D A [(aX, .inr (5, [.ref bX, .int tl, .int tf, .int u_r_1, .int td, .int tw, .long tv])), (bX, .inl (cB, 2000, .inl fx))] := hD
  try dsimp only at wr_1
  obtain ⟨wr_1_0, wr_1_1⟩ := wr_1
  subst wr_1_0
  refine lv_if_ne (tgt := 16) hx hb dX5_expect_5 (by decide) (fun c_5_1 => ?_) (fun c_5_1 => ?_)
  · have t_5_1 := c_5_1
    try simp only [kb_eq0, kb_ne0, lg_cmp_lt, lg_cmp_le, lg_cmp_gt, lg_cmp_ge, lg_cmp_eq] at t_5_1
    try simp only [Int32.lt_iff_toInt_lt, Int32.le_iff_toInt_le, ← Int32.toInt_inj, Int64.lt_iff_toInt_lt, Int64.le_iff_toInt_le, ← Int64.toInt_inj, Int32.toInt_toInt64, Int32.reduceToInt, Int64.reduceToInt] at t_5_1
    refine kVret (u := (tf, u_r_1)) hx hb hr hlocks hS dX5_expect_16 ?_ (hP.sub [0, 1] rfl) (hD.sub [0, 1] (by decide) rfl)
    try dsimp only
    exact ⟨wr_1_1, (kif_t (by omega)).symm⟩
  · have t_5_1 := c_5_1
    try simp only [kb_eq0, kb_ne0, lg_cmp_lt, lg_cmp_le, lg_cmp_gt, lg_cmp_ge, lg_cmp_eq] at t_5_1
    try simp only [Int32.lt_iff_toInt_lt, Int32.le_iff_toInt_le, ← Int32.toInt_inj, Int64.lt_iff_toInt_lt, Int64.le_iff_toInt_le, ← Int64.toInt_inj, Int32.toInt_toInt64, Int32.reduceToInt, Int64.reduceToInt] at t_5_1
    refine lv_aload_n hx hb dX5_expect_8 rfl (lv_at hl 0 rfl) ?_
    refine lv_aload_n hx hb dX5_expect_9 rfl (lv_at hl 0 rfl) ?_
    refine va_get (D := D) (ci := 5) (v := .int u_r_1) (C := RX5) (T := TX5) (N := 7) hx hb hts iX5_expect_X5 hown hK hP 0 rfl rfl 3 (by decide) (hts (.fieldLink RX5 22 "TapeCalculator$Text" "at" "I") (List.mem_of_getElem? (i := 1) rfl)) (fun _ h9 => h9) rfl dX5_expect_10 ?_
    refine kCallVd (wr := []) (va_runV (As := [.int u_r_1]) (rest := []) ⟨hx, hb, hml, hown, hts⟩ (g_faultAt l D cI cL cB cZ cT _ aX bX tl tf u_r_1 td tw tv fx u_r_1) (cwV 1 hts gX5_expect_X5_faultAt rfl rfl rfl (by decide +kernel) ⟨Nat.le_of_ble_eq_true rfl, Nat.le_of_ble_eq_true rfl⟩) (kPreV hG hP hD [0, 1] rfl (by decide) 0 5 rfl rfl rfl) rfl rfl hl.1 rfl (lv_room (Nat.le_of_ble_eq_true rfl)) dX5_expect_13 ⟨Nat.le_of_ble_eq_true rfl, Nat.le_of_ble_eq_true rfl⟩) hA hP hD hS [0, 1] [] rfl rfl (by decide) (by decide) (fun _ u_r_3 H locs wr_3 hP hD hS => ?_)
    have hP : va_P D vwCl [(aX, .inr (5, [.ref bX, .int tl, .int u_r_3, .int u_r_1, .int td, .int tw, .long tv])), (bX, .inl (cB, 2000, .inl fx))] H := hP
    have hD : va_D A [(aX, .inr (5, [.ref bX, .int tl, .int u_r_3, .int u_r_1, .int td, .int tw, .long tv])), (bX, .inl (cB, 2000, .inl fx))] := hD
    try dsimp only at wr_3
    refine kVret (u := (u_r_3, u_r_1)) hx hb hr hlocks hS dX5_expect_16 ?_ (hP.sub [0, 1] rfl) (hD.sub [0, 1] (by decide) rfl)
    try dsimp only
    have hsame : u_r_1 = ta := wr_1_1.trans (kif_f (by omega))
    exact ⟨wr_1_1, by rw [wr_3, hsame]; exact (kif_f (by omega)).symm⟩
set_option maxRecDepth 100000 in
set_option maxHeartbeats 4000000 in
theorem g_readSign (l : Launch) (D : va_G) (cI cL cB cZ cT : ClassId) (sz : Nat) (aX bX : Nat) (tl tf ta td tw : Int32) (tv : Int64) (fx : Nat → Int32) (hta : 0 ≤ ta.toInt ∧ ta.toInt ≤ tl.toInt) (htl : tl.toInt ≤ 2000) : kM (S := (Int32 × Int32)) l yX5_readSign wsX5_readSign ({ frames := 3, cells := 0, slots := 0, locals := 63 }) D (kT cI cL cB cZ cT) [.ref aX] [(aX, .inr (5, [.ref bX, .int tl, .int tf, .int ta, .int td, .int tw, .long tv])), (bX, .inl (cB, 2000, .inl fx))] sz eI (fun r u => (u.2) = kSg ta tl fx ∧ (u.1) = kif ((kHere ta tl fx).toInt = 45 ∨ (kHere ta tl fx).toInt = 43) tf (kF tf ta)) (fun u => [(aX, .inr (5, [.ref bX, .int tl, .int u.1, .int u.2, .int td, .int tw, .long tv])), (bX, .inl (cB, 2000, .inl fx))]) 0 0 := by
  refine kStart (cc := cX5_readSign) (maxL := 2) (ret := (some .int)) (own := RX5) (by decide) rfl rfl (Nat.le_of_ble_eq_true rfl) ?_
  intro p e s m args below meth c A ls hx hb hr hml hown hts hlocks hnm hsz hA hG hP hD hS hl
  have hK := hG.1
  have hl : lv_has ls 2 [(0, .ref aX)] := hl
  refine lv_aload_n hx hb dX5_readSign_0 rfl (lv_at hl 0 rfl) ?_
  refine lv_bipush (v := 45) hx hb dX5_readSign_1 (by decide) ?_
  refine kCallI (wr := []) (va_runV (As := [.int 45]) (rest := []) ⟨hx, hb, hml, hown, hts⟩ (g_skipIf l D cI cL cB cZ cT _ aX bX tl tf ta td tw tv fx 45 45 (by omega) htl (by decide)) (cwV 1 hts gX5_readSign_X5_skipIf rfl rfl rfl (by decide +kernel) ⟨Nat.le_of_ble_eq_true rfl, Nat.le_of_ble_eq_true rfl⟩) (kPreV hG hP hD [0, 1] rfl (by decide) 0 5 rfl rfl rfl) rfl rfl hl.1 rfl (lv_room (Nat.le_of_ble_eq_true rfl)) dX5_readSign_3 ⟨Nat.le_of_ble_eq_true rfl, Nat.le_of_ble_eq_true rfl⟩) hA hP hD hS [0, 1] [] rfl rfl (by decide) (by decide) (fun r_1 u_r_1 H locs wr_1 hP hD hS => ?_)
  have hP : va_P D vwCl [(aX, .inr (5, [.ref bX, .int tl, .int tf, .int u_r_1, .int td, .int tw, .long tv])), (bX, .inl (cB, 2000, .inl fx))] H := hP
  have hD : va_D A [(aX, .inr (5, [.ref bX, .int tl, .int tf, .int u_r_1, .int td, .int tw, .long tv])), (bX, .inl (cB, 2000, .inl fx))] := hD
  try dsimp only at wr_1
  obtain ⟨wr_1_0, wr_1_1⟩ := wr_1
  subst wr_1_0
  have rgr_1 := kSk_r (a := ta) (t := tl) (f := fx) (b := 45) (by omega) htl (by decide)
  rw [← wr_1_1] at rgr_1
  refine lv_topi (fun x_2 ex_2 => ?_)
  refine lv_istore_n (lv' := [(1, .int x_2), (0, .ref aX)]) hx hb dX5_readSign_6 rfl hl (by decide) rfl (fun ls hl => ?_)
  refine lv_iload_n hx hb dX5_readSign_7 rfl (lv_at hl 0 rfl) ?_
  refine lv_if_ne (tgt := 17) hx hb dX5_readSign_8 (by decide) (fun c_8_2 => ?_) (fun c_8_2 => ?_)
  · have t_8_2 := c_8_2
    try simp only [kb_eq0, kb_ne0, lg_cmp_lt, lg_cmp_le, lg_cmp_gt, lg_cmp_ge, lg_cmp_eq] at t_8_2
    try simp only [Int32.lt_iff_toInt_lt, Int32.le_iff_toInt_le, ← Int32.toInt_inj, Int64.lt_iff_toInt_lt, Int64.le_iff_toInt_le, ← Int64.toInt_inj, Int32.toInt_toInt64, Int32.reduceToInt, Int64.reduceToInt] at t_8_2
    have u8 := c_8_2
    rw [ex_2] at u8
    simp only [kb_eq0, kb_ne0] at u8
    refine lv_iload_n hx hb dX5_readSign_17 rfl (lv_at hl 0 rfl) ?_
    refine lv_if_eq (tgt := 25) hx hb dX5_readSign_18 (by decide) (fun c_18_3 => ?_) (fun c_18_3 => ?_)
    · have t_18_3 := c_18_3
      try simp only [kb_eq0, kb_ne0, lg_cmp_lt, lg_cmp_le, lg_cmp_gt, lg_cmp_ge, lg_cmp_eq] at t_18_3
      try simp only [Int32.lt_iff_toInt_lt, Int32.le_iff_toInt_le, ← Int32.toInt_inj, Int64.lt_iff_toInt_lt, Int64.le_iff_toInt_le, ← Int64.toInt_inj, Int32.toInt_toInt64, Int32.reduceToInt, Int64.reduceToInt] at t_18_3
      refine lv_iconst (v := 0) hx hb dX5_readSign_25 (by decide) ?_
      refine kIret (u := (tf, u_r_1)) hx hb hr rfl hlocks hS dX5_readSign_26 ?_ (hP.sub [0, 1] rfl) (hD.sub [0, 1] (by decide) rfl)
      try dsimp only
      exact ⟨wr_1_1.trans ((kif_t (by omega)).trans (kif_t (Or.inl (by omega))).symm), (kif_t (Or.inl (by omega))).symm⟩
    · have t_18_3 := c_18_3
      try simp only [kb_eq0, kb_ne0, lg_cmp_lt, lg_cmp_le, lg_cmp_gt, lg_cmp_ge, lg_cmp_eq] at t_18_3
      try simp only [Int32.lt_iff_toInt_lt, Int32.le_iff_toInt_le, ← Int32.toInt_inj, Int64.lt_iff_toInt_lt, Int64.le_iff_toInt_le, ← Int64.toInt_inj, Int32.toInt_toInt64, Int32.reduceToInt, Int64.reduceToInt] at t_18_3
      refine lv_iconst (v := 1) hx hb dX5_readSign_21 (by decide) ?_
      refine lv_goto (tgt := 26) hx hb dX5_readSign_22 (by decide) ?_
      refine kIret (u := (tf, u_r_1)) hx hb hr rfl hlocks hS dX5_readSign_26 ?_ (hP.sub [0, 1] rfl) (hD.sub [0, 1] (by decide) rfl)
      try dsimp only
      exact ⟨wr_1_1.trans ((kif_t (by omega)).trans (kif_t (Or.inl (by omega))).symm), (kif_t (Or.inl (by omega))).symm⟩
  · have t_8_2 := c_8_2
    try simp only [kb_eq0, kb_ne0, lg_cmp_lt, lg_cmp_le, lg_cmp_gt, lg_cmp_ge, lg_cmp_eq] at t_8_2
    try simp only [Int32.lt_iff_toInt_lt, Int32.le_iff_toInt_le, ← Int32.toInt_inj, Int64.lt_iff_toInt_lt, Int64.le_iff_toInt_le, ← Int64.toInt_inj, Int32.toInt_toInt64, Int32.reduceToInt, Int64.reduceToInt] at t_8_2
    have u8 := c_8_2
    rw [ex_2] at u8
    simp only [kb_eq0, kb_ne0] at u8
    refine lv_aload_n hx hb dX5_readSign_11 rfl (lv_at hl 1 rfl) ?_
    refine lv_bipush (v := 43) hx hb dX5_readSign_12 (by decide) ?_
    refine kCallVd (wr := []) (va_runV (As := [.int 43]) (rest := []) ⟨hx, hb, hml, hown, hts⟩ (g_expect l D cI cL cB cZ cT _ aX bX tl tf u_r_1 td tw tv fx 43 43 (by omega) htl (by decide)) (cwV 1 hts gX5_readSign_X5_expect rfl rfl rfl (by decide +kernel) ⟨Nat.le_of_ble_eq_true rfl, Nat.le_of_ble_eq_true rfl⟩) (kPreV hG hP hD [0, 1] rfl (by decide) 0 5 rfl rfl rfl) rfl rfl hl.1 rfl (lv_room (Nat.le_of_ble_eq_true rfl)) dX5_readSign_14 ⟨Nat.le_of_ble_eq_true rfl, Nat.le_of_ble_eq_true rfl⟩) hA hP hD hS [0, 1] [] rfl rfl (by decide) (by decide) (fun _ u_r_5 H locs wr_5 hP hD hS => ?_)
    have hP : va_P D vwCl [(aX, .inr (5, [.ref bX, .int tl, .int u_r_5.1, .int u_r_5.2, .int td, .int tw, .long tv])), (bX, .inl (cB, 2000, .inl fx))] H := hP
    have hD : va_D A [(aX, .inr (5, [.ref bX, .int tl, .int u_r_5.1, .int u_r_5.2, .int td, .int tw, .long tv])), (bX, .inl (cB, 2000, .inl fx))] := hD
    try dsimp only at wr_5
    obtain ⟨wr_5_0, wr_5_1⟩ := wr_5
    have rgr_5 := kSk_r (a := u_r_1) (t := tl) (f := fx) (b := 43) (by omega) htl (by decide)
    rw [← wr_5_0] at rgr_5
    refine lv_iload_n hx hb dX5_readSign_17 rfl (lv_at hl 0 rfl) ?_
    refine lv_if_eq (tgt := 25) hx hb dX5_readSign_18 (by decide) (fun c_18_5 => ?_) (fun c_18_5 => ?_)
    · have t_18_5 := c_18_5
      try simp only [kb_eq0, kb_ne0, lg_cmp_lt, lg_cmp_le, lg_cmp_gt, lg_cmp_ge, lg_cmp_eq] at t_18_5
      try simp only [Int32.lt_iff_toInt_lt, Int32.le_iff_toInt_le, ← Int32.toInt_inj, Int64.lt_iff_toInt_lt, Int64.le_iff_toInt_le, ← Int64.toInt_inj, Int32.toInt_toInt64, Int32.reduceToInt, Int64.reduceToInt] at t_18_5
      refine lv_iconst (v := 0) hx hb dX5_readSign_25 (by decide) ?_
      refine kIret (u := (u_r_5.1, u_r_5.2)) hx hb hr rfl hlocks hS dX5_readSign_26 ?_ (hP.sub [0, 1] rfl) (hD.sub [0, 1] (by decide) rfl)
      try dsimp only
      have hsame : u_r_1 = ta := wr_1_1.trans (kif_f (by omega))
      have h0 := wr_5_0
      have h1 := wr_5_1
      rw [hsame] at h0 h1
      by_cases hc : (kHere ta tl fx).toInt = 43
      · exact ⟨h0.trans ((kif_t hc).trans (kif_t (Or.inr hc)).symm), h1.trans ((kif_t hc).trans (kif_t (Or.inr hc)).symm)⟩
      · exact ⟨h0.trans ((kif_f hc).trans (kif_f (by omega)).symm), h1.trans ((kif_f hc).trans (kif_f (by omega)).symm)⟩
    · have t_18_5 := c_18_5
      try simp only [kb_eq0, kb_ne0, lg_cmp_lt, lg_cmp_le, lg_cmp_gt, lg_cmp_ge, lg_cmp_eq] at t_18_5
      try simp only [Int32.lt_iff_toInt_lt, Int32.le_iff_toInt_le, ← Int32.toInt_inj, Int64.lt_iff_toInt_lt, Int64.le_iff_toInt_le, ← Int64.toInt_inj, Int32.toInt_toInt64, Int32.reduceToInt, Int64.reduceToInt] at t_18_5
      refine lv_iconst (v := 1) hx hb dX5_readSign_21 (by decide) ?_
      refine lv_goto (tgt := 26) hx hb dX5_readSign_22 (by decide) ?_
      refine kIret (u := (u_r_5.1, u_r_5.2)) hx hb hr rfl hlocks hS dX5_readSign_26 ?_ (hP.sub [0, 1] rfl) (hD.sub [0, 1] (by decide) rfl)
      try dsimp only
      have hsame : u_r_1 = ta := wr_1_1.trans (kif_f (by omega))
      have h0 := wr_5_0
      have h1 := wr_5_1
      rw [hsame] at h0 h1
      by_cases hc : (kHere ta tl fx).toInt = 43
      · exact ⟨h0.trans ((kif_t hc).trans (kif_t (Or.inr hc)).symm), h1.trans ((kif_t hc).trans (kif_t (Or.inr hc)).symm)⟩
      · exact ⟨h0.trans ((kif_f hc).trans (kif_f (by omega)).symm), h1.trans ((kif_f hc).trans (kif_f (by omega)).symm)⟩
set_option maxRecDepth 100000 in
theorem iX5_readNumber_X5 : ∀ w ∈ wsX50, w ∈ wsX5_readNumber := fun w h => (goodIn_r (big := wsX5_readNumber) wsX50 [23, 24, 25, 26, 27, 28, 29] rfl (by decide +kernel) w h).1
set_option maxRecDepth 100000 in
set_option maxHeartbeats 4000000 in
theorem g_readNumber (l : Launch) (D : va_G) (cI cL cB cZ cT : ClassId) (sz : Nat) (aX bX : Nat) (tl tf ta td tw : Int32) (tv : Int64) (fx : Nat → Int32) (mf : Int32) (mv : Int64) (mm : Nat) (mx : Int) (hta : 0 ≤ ta.toInt ∧ ta.toInt ≤ tl.toInt) (htl : tl.toInt ≤ 2000) (hmm : mf.toInt = mm) (hmv : mv.toInt = mx) : kM (S := (Int32 × Int32)) l yX5_readNumber wsX5_readNumber ({ frames := 2, cells := 0, slots := 0, locals := 41 }) D (kT cI cL cB cZ cT) [.ref aX, .int mf, .long mv] [(aX, .inr (5, [.ref bX, .int tl, .int tf, .int ta, .int td, .int tw, .long tv])), (bX, .inl (cB, 2000, .inl fx))] sz eL (fun r u => r = (kNm tl fx mm ta 0).2 ∧ (u.2) = (kNm tl fx mm ta 0).1 ∧ (u.1) = kif ((kNm tl fx mm ta 0).1.toInt = ta.toInt ∨ mx < (kNm tl fx mm ta 0).2.toInt) (kF tf ta) tf) (fun u => [(aX, .inr (5, [.ref bX, .int tl, .int u.1, .int u.2, .int td, .int tw, .long tv])), (bX, .inl (cB, 2000, .inl fx))]) 0 0 := by
  refine kStart (cc := cX5_readNumber) (maxL := 8) (ret := (some .long)) (own := RX5) (by decide) rfl rfl (Nat.le_of_ble_eq_true rfl) ?_
  intro p e s m args below meth c A ls hx hb hr hml hown hts hlocks hnm hsz hA hG hP hD hS hl
  have hK := hG.1
  have hl : lv_has ls 8 [(0, .ref aX), (1, .int mf), (2, .long mv)] := hl
  refine lv_aload_n hx hb dX5_readNumber_0 rfl (lv_at hl 0 rfl) ?_
  refine va_get (D := D) (ci := 5) (v := .int ta) (C := RX5) (T := TX5) (N := 7) hx hb hts iX5_readNumber_X5 hown hK hP 0 rfl rfl 3 (by decide) (hts (.fieldLink RX5 22 "TapeCalculator$Text" "at" "I") (List.mem_of_getElem? (i := 1) rfl)) (fun _ h9 => h9) rfl dX5_readNumber_1 ?_
  refine lv_istore (lv' := [(4, .int ta), (0, .ref aX), (1, .int mf), (2, .long mv)]) hx hb dX5_readNumber_4 hl (by decide) rfl (fun ls hl => ?_)
  refine lv_lconst (v := 0) hx hb dX5_readNumber_6 (by decide) ?_
  refine lv_lstore (lv' := [(5, .long 0), (4, .int ta), (0, .ref aX), (1, .int mf), (2, .long mv)]) hx hb dX5_readNumber_7 hl (by decide) rfl (fun ls hl => ?_)
  refine lv_iconst (v := 0) hx hb dX5_readNumber_9 (by decide) ?_
  refine lv_istore (lv' := [(7, .int 0), (5, .long 0), (4, .int ta), (0, .ref aX), (1, .int mf), (2, .long mv)]) hx hb dX5_readNumber_10 hl (by decide) rfl (fun ls hl => ?_)
  have J12 : ∀ (k : Nat) (j : Int32) (nu : Int64) (tj : Int32), (mf.toInt - j.toInt).toNat < k → (∃ g : Nat, j.toInt = g ∧ g ≤ mm ∧ kNm tl fx (mm - g) tj nu = kNm tl fx mm ta 0 ∧ ta.toInt ≤ tj.toInt ∧ tj.toInt ≤ tl.toInt) → ∀ (H : Heap) (locs : List Loc), va_P D vwCl [(aX, .inr (5, [.ref bX, .int tl, .int tf, .int tj, .int td, .int tw, .long tv])), (bX, .inl (cB, 2000, .inl fx))] H → va_D A [(aX, .inr (5, [.ref bX, .int tl, .int tf, .int tj, .int td, .int tw, .long tv])), (bX, .inl (cB, 2000, .inl fx))] → va_S A s.heap H locs → ∀ ls : Array Slot, lv_has ls 8 [(7, .int j), (5, .long nu), (4, .int ta), (0, .ref aX), (1, .int mf), (2, .long mv)] → W p l e ({ frames := 2, cells := 0, slots := 0, locals := 41 }) s m args below meth c H locs 0 0 (MQ below (kQ (S := (Int32 × Int32)) eL (fun r u => r = (kNm tl fx mm ta 0).2 ∧ (u.2) = (kNm tl fx mm ta 0).1 ∧ (u.1) = kif ((kNm tl fx mm ta 0).1.toInt = ta.toInt ∨ mx < (kNm tl fx mm ta 0).2.toInt) (kF tf ta) tf) D (fun u => [(aX, .inr (5, [.ref bX, .int tl, .int u.1, .int u.2, .int td, .int tw, .long tv])), (bX, .inl (cB, 2000, .inl fx))]) A) args s 0 0 A) (F0 m 12 ls []) := by
    intro k
    induction k with
    | zero =>
      intro j nu tj hm
      exact absurd hm (Nat.not_lt_zero _)
    | succ k ih =>
      intro j nu tj hm hj H locs hP hD hS ls hl
      refine lv_iload hx hb dX5_readNumber_12 (lv_at hl 0 rfl) ?_
      refine lv_iload_n hx hb dX5_readNumber_14 rfl (lv_at hl 4 rfl) ?_
      refine lv_icmp_ge (tgt := 62) hx hb dX5_readNumber_15 (by decide) (fun c_15_0 => ?_) (fun c_15_0 => ?_)
      · have t_15_0 := c_15_0
        try simp only [kb_eq0, kb_ne0, lg_cmp_lt, lg_cmp_le, lg_cmp_gt, lg_cmp_ge, lg_cmp_eq] at t_15_0
        try simp only [Int32.lt_iff_toInt_lt, Int32.le_iff_toInt_le, ← Int32.toInt_inj, Int64.lt_iff_toInt_lt, Int64.le_iff_toInt_le, ← Int64.toInt_inj, Int32.toInt_toInt64, Int32.reduceToInt, Int64.reduceToInt] at t_15_0
        obtain ⟨g, g1, g2, g3, g4, g5⟩ := hj
        have hend : kNm tl fx mm ta 0 = (tj, nu) := by
          rw [← g3]
          rw [show mm - g = 0 by omega]; rfl
        have hend1 : (kNm tl fx mm ta 0).1 = tj := by rw [hend]
        have hend2 : (kNm tl fx mm ta 0).2 = nu := by rw [hend]
        refine lv_aload_n hx hb dX5_readNumber_62 rfl (lv_at hl 3 rfl) ?_
        refine va_get (D := D) (ci := 5) (v := .int tj) (C := RX5) (T := TX5) (N := 7) hx hb hts iX5_readNumber_X5 hown hK hP 0 rfl rfl 3 (by decide) (hts (.fieldLink RX5 22 "TapeCalculator$Text" "at" "I") (List.mem_of_getElem? (i := 1) rfl)) (fun _ h9 => h9) rfl dX5_readNumber_63 ?_
        refine lv_iload hx hb dX5_readNumber_66 (lv_at hl 2 rfl) ?_
        refine lv_icmp_eq (tgt := 78) hx hb dX5_readNumber_68 (by decide) (fun c_68_1 => ?_) (fun c_68_1 => ?_)
        · have t_68_1 := c_68_1
          try simp only [kb_eq0, kb_ne0, lg_cmp_lt, lg_cmp_le, lg_cmp_gt, lg_cmp_ge, lg_cmp_eq] at t_68_1
          try simp only [Int32.lt_iff_toInt_lt, Int32.le_iff_toInt_le, ← Int32.toInt_inj, Int64.lt_iff_toInt_lt, Int64.le_iff_toInt_le, ← Int64.toInt_inj, Int32.toInt_toInt64, Int32.reduceToInt, Int64.reduceToInt] at t_68_1
          refine lv_aload_n hx hb dX5_readNumber_78 rfl (lv_at hl 3 rfl) ?_
          refine lv_iload hx hb dX5_readNumber_79 (lv_at hl 2 rfl) ?_
          refine kCallVd (wr := []) (va_runV (As := [.int ta]) (rest := []) ⟨hx, hb, hml, hown, hts⟩ (g_faultAt l D cI cL cB cZ cT _ aX bX tl tf tj td tw tv fx ta) (cwV 1 hts gX5_readNumber_X5_faultAt rfl rfl rfl (by decide +kernel) ⟨Nat.le_of_ble_eq_true rfl, Nat.le_of_ble_eq_true rfl⟩) (kPreV hG hP hD [0, 1] rfl (by decide) 0 5 rfl rfl rfl) rfl rfl hl.1 rfl (lv_room (Nat.le_of_ble_eq_true rfl)) dX5_readNumber_81 ⟨Nat.le_of_ble_eq_true rfl, Nat.le_of_ble_eq_true rfl⟩) hA hP hD hS [0, 1] [] rfl rfl (by decide) (by decide) (fun _ u_r_3 H locs wr_3 hP hD hS => ?_)
          have hP : va_P D vwCl [(aX, .inr (5, [.ref bX, .int tl, .int u_r_3, .int tj, .int td, .int tw, .long tv])), (bX, .inl (cB, 2000, .inl fx))] H := hP
          have hD : va_D A [(aX, .inr (5, [.ref bX, .int tl, .int u_r_3, .int tj, .int td, .int tw, .long tv])), (bX, .inl (cB, 2000, .inl fx))] := hD
          try dsimp only at wr_3
          refine lv_lload hx hb dX5_readNumber_84 (lv_at hl 1 rfl) ?_
          refine kLret (u := (u_r_3, tj)) hx hb hr hlocks hS dX5_readNumber_86 ?_ (hP.sub [0, 1] rfl) (hD.sub [0, 1] (by decide) rfl)
          try dsimp only
          rw [hend1, hend2]
          exact ⟨rfl, rfl, wr_3.trans (kif_t (by omega)).symm⟩
        · have t_68_1 := c_68_1
          try simp only [kb_eq0, kb_ne0, lg_cmp_lt, lg_cmp_le, lg_cmp_gt, lg_cmp_ge, lg_cmp_eq] at t_68_1
          try simp only [Int32.lt_iff_toInt_lt, Int32.le_iff_toInt_le, ← Int32.toInt_inj, Int64.lt_iff_toInt_lt, Int64.le_iff_toInt_le, ← Int64.toInt_inj, Int32.toInt_toInt64, Int32.reduceToInt, Int64.reduceToInt] at t_68_1
          refine lv_lload hx hb dX5_readNumber_71 (lv_at hl 1 rfl) ?_
          refine lv_lload_n hx hb dX5_readNumber_73 rfl (lv_at hl 5 rfl) ?_
          refine W.lcmp hx hb dX5_readNumber_74 ?_
          refine lv_if_le (tgt := 84) hx hb dX5_readNumber_75 (by decide) (fun c_75_3 => ?_) (fun c_75_3 => ?_)
          · have t_75_3 := c_75_3
            try simp only [kb_eq0, kb_ne0, lg_cmp_lt, lg_cmp_le, lg_cmp_gt, lg_cmp_ge, lg_cmp_eq] at t_75_3
            try simp only [Int32.lt_iff_toInt_lt, Int32.le_iff_toInt_le, ← Int32.toInt_inj, Int64.lt_iff_toInt_lt, Int64.le_iff_toInt_le, ← Int64.toInt_inj, Int32.toInt_toInt64, Int32.reduceToInt, Int64.reduceToInt] at t_75_3
            refine lv_lload hx hb dX5_readNumber_84 (lv_at hl 1 rfl) ?_
            refine kLret (u := (tf, tj)) hx hb hr hlocks hS dX5_readNumber_86 ?_ (hP.sub [0, 1] rfl) (hD.sub [0, 1] (by decide) rfl)
            try dsimp only
            rw [hend1, hend2]
            exact ⟨rfl, rfl, (kif_f (by omega)).symm⟩
          · have t_75_3 := c_75_3
            try simp only [kb_eq0, kb_ne0, lg_cmp_lt, lg_cmp_le, lg_cmp_gt, lg_cmp_ge, lg_cmp_eq] at t_75_3
            try simp only [Int32.lt_iff_toInt_lt, Int32.le_iff_toInt_le, ← Int32.toInt_inj, Int64.lt_iff_toInt_lt, Int64.le_iff_toInt_le, ← Int64.toInt_inj, Int32.toInt_toInt64, Int32.reduceToInt, Int64.reduceToInt] at t_75_3
            refine lv_aload_n hx hb dX5_readNumber_78 rfl (lv_at hl 3 rfl) ?_
            refine lv_iload hx hb dX5_readNumber_79 (lv_at hl 2 rfl) ?_
            refine kCallVd (wr := []) (va_runV (As := [.int ta]) (rest := []) ⟨hx, hb, hml, hown, hts⟩ (g_faultAt l D cI cL cB cZ cT _ aX bX tl tf tj td tw tv fx ta) (cwV 1 hts gX5_readNumber_X5_faultAt rfl rfl rfl (by decide +kernel) ⟨Nat.le_of_ble_eq_true rfl, Nat.le_of_ble_eq_true rfl⟩) (kPreV hG hP hD [0, 1] rfl (by decide) 0 5 rfl rfl rfl) rfl rfl hl.1 rfl (lv_room (Nat.le_of_ble_eq_true rfl)) dX5_readNumber_81 ⟨Nat.le_of_ble_eq_true rfl, Nat.le_of_ble_eq_true rfl⟩) hA hP hD hS [0, 1] [] rfl rfl (by decide) (by decide) (fun _ u_r_5 H locs wr_5 hP hD hS => ?_)
            have hP : va_P D vwCl [(aX, .inr (5, [.ref bX, .int tl, .int u_r_5, .int tj, .int td, .int tw, .long tv])), (bX, .inl (cB, 2000, .inl fx))] H := hP
            have hD : va_D A [(aX, .inr (5, [.ref bX, .int tl, .int u_r_5, .int tj, .int td, .int tw, .long tv])), (bX, .inl (cB, 2000, .inl fx))] := hD
            try dsimp only at wr_5
            refine lv_lload hx hb dX5_readNumber_84 (lv_at hl 1 rfl) ?_
            refine kLret (u := (u_r_5, tj)) hx hb hr hlocks hS dX5_readNumber_86 ?_ (hP.sub [0, 1] rfl) (hD.sub [0, 1] (by decide) rfl)
            try dsimp only
            rw [hend1, hend2]
            exact ⟨rfl, rfl, wr_5.trans (kif_t (by omega)).symm⟩
      · have t_15_0 := c_15_0
        try simp only [kb_eq0, kb_ne0, lg_cmp_lt, lg_cmp_le, lg_cmp_gt, lg_cmp_ge, lg_cmp_eq] at t_15_0
        try simp only [Int32.lt_iff_toInt_lt, Int32.le_iff_toInt_le, ← Int32.toInt_inj, Int64.lt_iff_toInt_lt, Int64.le_iff_toInt_le, ← Int64.toInt_inj, Int32.toInt_toInt64, Int32.reduceToInt, Int64.reduceToInt] at t_15_0
        obtain ⟨g, g1, g2, g3, g4, g5⟩ := hj
        refine lv_aload_n hx hb dX5_readNumber_18 rfl (lv_at hl 3 rfl) ?_
        refine kCallI (wr := []) (va_runV (As := []) (rest := []) ⟨hx, hb, hml, hown, hts⟩ (g_byteHere l D cI cL cB cZ cT _ aX bX tl tf tj td tw tv fx (by omega) htl) (cwV 0 hts gX5_readNumber_X5_byteHere rfl rfl rfl (by decide +kernel) ⟨Nat.le_of_ble_eq_true rfl, Nat.le_of_ble_eq_true rfl⟩) (kPreV hG hP hD [0, 1] rfl (by decide) 0 5 rfl rfl rfl) rfl rfl hl.1 rfl (lv_room (Nat.le_of_ble_eq_true rfl)) dX5_readNumber_19 ⟨Nat.le_of_ble_eq_true rfl, Nat.le_of_ble_eq_true rfl⟩) hA hP hD hS [0, 1] [] rfl rfl (by decide) (by decide) (fun r_6 u_r_6 H locs wr_6 hP hD hS => ?_)
        have hP : va_P D vwCl [(aX, .inr (5, [.ref bX, .int tl, .int tf, .int tj, .int td, .int tw, .long tv])), (bX, .inl (cB, 2000, .inl fx))] H := hP
        have hD : va_D A [(aX, .inr (5, [.ref bX, .int tl, .int tf, .int tj, .int td, .int tw, .long tv])), (bX, .inl (cB, 2000, .inl fx))] := hD
        try dsimp only at wr_6
        subst wr_6
        refine kCallI (wr := [(aX, .inr (5, [.ref bX, .int tl, .int tf, .int tj, .int td, .int tw, .long tv])), (bX, .inl (cB, 2000, .inl fx))]) (va_runS (As := [.int (kHere tj tl fx)]) (rest := []) ⟨hx, hb, hml, hown, hts⟩ (g_isFigure l D cI cL cB cZ cT _ (kHere tj tl fx)) (va_cwS 1 hts gX5_readNumber_X5_isFigure rfl rfl rfl (by decide +kernel) ⟨Nat.le_of_ble_eq_true rfl, Nat.le_of_ble_eq_true rfl⟩) (kPreS hG hP hD [] rfl (by decide)) rfl rfl hl.1 rfl (lv_room (Nat.le_of_ble_eq_true rfl)) dX5_readNumber_22 ⟨Nat.le_of_ble_eq_true rfl, Nat.le_of_ble_eq_true rfl⟩) hA hP hD hS [] [0, 1] rfl rfl (by decide) (by decide) (fun r_7 u_r_7 H locs wr_7 hP hD hS => ?_)
        have hP : va_P D vwCl [(aX, .inr (5, [.ref bX, .int tl, .int tf, .int tj, .int td, .int tw, .long tv])), (bX, .inl (cB, 2000, .inl fx))] H := hP
        have hD : va_D A [(aX, .inr (5, [.ref bX, .int tl, .int tf, .int tj, .int td, .int tw, .long tv])), (bX, .inl (cB, 2000, .inl fx))] := hD
        try dsimp only at wr_7
        subst wr_7
        refine lv_if_eq (tgt := 62) hx hb dX5_readNumber_25 (by decide) (fun c_25_7 => ?_) (fun c_25_7 => ?_)
        · have t_25_7 := c_25_7
          try simp only [kb_eq0, kb_ne0, lg_cmp_lt, lg_cmp_le, lg_cmp_gt, lg_cmp_ge, lg_cmp_eq] at t_25_7
          try simp only [Int32.lt_iff_toInt_lt, Int32.le_iff_toInt_le, ← Int32.toInt_inj, Int64.lt_iff_toInt_lt, Int64.le_iff_toInt_le, ← Int64.toInt_inj, Int32.toInt_toInt64, Int32.reduceToInt, Int64.reduceToInt] at t_25_7
          have hend : kNm tl fx mm ta 0 = (tj, nu) := by
            rw [← g3]
            exact kNm_e (by omega)
          have hend1 : (kNm tl fx mm ta 0).1 = tj := by rw [hend]
          have hend2 : (kNm tl fx mm ta 0).2 = nu := by rw [hend]
          refine lv_aload_n hx hb dX5_readNumber_62 rfl (lv_at hl 3 rfl) ?_
          refine va_get (D := D) (ci := 5) (v := .int tj) (C := RX5) (T := TX5) (N := 7) hx hb hts iX5_readNumber_X5 hown hK hP 0 rfl rfl 3 (by decide) (hts (.fieldLink RX5 22 "TapeCalculator$Text" "at" "I") (List.mem_of_getElem? (i := 1) rfl)) (fun _ h9 => h9) rfl dX5_readNumber_63 ?_
          refine lv_iload hx hb dX5_readNumber_66 (lv_at hl 2 rfl) ?_
          refine lv_icmp_eq (tgt := 78) hx hb dX5_readNumber_68 (by decide) (fun c_68_8 => ?_) (fun c_68_8 => ?_)
          · have t_68_8 := c_68_8
            try simp only [kb_eq0, kb_ne0, lg_cmp_lt, lg_cmp_le, lg_cmp_gt, lg_cmp_ge, lg_cmp_eq] at t_68_8
            try simp only [Int32.lt_iff_toInt_lt, Int32.le_iff_toInt_le, ← Int32.toInt_inj, Int64.lt_iff_toInt_lt, Int64.le_iff_toInt_le, ← Int64.toInt_inj, Int32.toInt_toInt64, Int32.reduceToInt, Int64.reduceToInt] at t_68_8
            refine lv_aload_n hx hb dX5_readNumber_78 rfl (lv_at hl 3 rfl) ?_
            refine lv_iload hx hb dX5_readNumber_79 (lv_at hl 2 rfl) ?_
            refine kCallVd (wr := []) (va_runV (As := [.int ta]) (rest := []) ⟨hx, hb, hml, hown, hts⟩ (g_faultAt l D cI cL cB cZ cT _ aX bX tl tf tj td tw tv fx ta) (cwV 1 hts gX5_readNumber_X5_faultAt rfl rfl rfl (by decide +kernel) ⟨Nat.le_of_ble_eq_true rfl, Nat.le_of_ble_eq_true rfl⟩) (kPreV hG hP hD [0, 1] rfl (by decide) 0 5 rfl rfl rfl) rfl rfl hl.1 rfl (lv_room (Nat.le_of_ble_eq_true rfl)) dX5_readNumber_81 ⟨Nat.le_of_ble_eq_true rfl, Nat.le_of_ble_eq_true rfl⟩) hA hP hD hS [0, 1] [] rfl rfl (by decide) (by decide) (fun _ u_r_10 H locs wr_10 hP hD hS => ?_)
            have hP : va_P D vwCl [(aX, .inr (5, [.ref bX, .int tl, .int u_r_10, .int tj, .int td, .int tw, .long tv])), (bX, .inl (cB, 2000, .inl fx))] H := hP
            have hD : va_D A [(aX, .inr (5, [.ref bX, .int tl, .int u_r_10, .int tj, .int td, .int tw, .long tv])), (bX, .inl (cB, 2000, .inl fx))] := hD
            try dsimp only at wr_10
            refine lv_lload hx hb dX5_readNumber_84 (lv_at hl 1 rfl) ?_
            refine kLret (u := (u_r_10, tj)) hx hb hr hlocks hS dX5_readNumber_86 ?_ (hP.sub [0, 1] rfl) (hD.sub [0, 1] (by decide) rfl)
            try dsimp only
            rw [hend1, hend2]
            exact ⟨rfl, rfl, wr_10.trans (kif_t (by omega)).symm⟩
          · have t_68_8 := c_68_8
            try simp only [kb_eq0, kb_ne0, lg_cmp_lt, lg_cmp_le, lg_cmp_gt, lg_cmp_ge, lg_cmp_eq] at t_68_8
            try simp only [Int32.lt_iff_toInt_lt, Int32.le_iff_toInt_le, ← Int32.toInt_inj, Int64.lt_iff_toInt_lt, Int64.le_iff_toInt_le, ← Int64.toInt_inj, Int32.toInt_toInt64, Int32.reduceToInt, Int64.reduceToInt] at t_68_8
            refine lv_lload hx hb dX5_readNumber_71 (lv_at hl 1 rfl) ?_
            refine lv_lload_n hx hb dX5_readNumber_73 rfl (lv_at hl 5 rfl) ?_
            refine W.lcmp hx hb dX5_readNumber_74 ?_
            refine lv_if_le (tgt := 84) hx hb dX5_readNumber_75 (by decide) (fun c_75_10 => ?_) (fun c_75_10 => ?_)
            · have t_75_10 := c_75_10
              try simp only [kb_eq0, kb_ne0, lg_cmp_lt, lg_cmp_le, lg_cmp_gt, lg_cmp_ge, lg_cmp_eq] at t_75_10
              try simp only [Int32.lt_iff_toInt_lt, Int32.le_iff_toInt_le, ← Int32.toInt_inj, Int64.lt_iff_toInt_lt, Int64.le_iff_toInt_le, ← Int64.toInt_inj, Int32.toInt_toInt64, Int32.reduceToInt, Int64.reduceToInt] at t_75_10
              refine lv_lload hx hb dX5_readNumber_84 (lv_at hl 1 rfl) ?_
              refine kLret (u := (tf, tj)) hx hb hr hlocks hS dX5_readNumber_86 ?_ (hP.sub [0, 1] rfl) (hD.sub [0, 1] (by decide) rfl)
              try dsimp only
              rw [hend1, hend2]
              exact ⟨rfl, rfl, (kif_f (by omega)).symm⟩
            · have t_75_10 := c_75_10
              try simp only [kb_eq0, kb_ne0, lg_cmp_lt, lg_cmp_le, lg_cmp_gt, lg_cmp_ge, lg_cmp_eq] at t_75_10
              try simp only [Int32.lt_iff_toInt_lt, Int32.le_iff_toInt_le, ← Int32.toInt_inj, Int64.lt_iff_toInt_lt, Int64.le_iff_toInt_le, ← Int64.toInt_inj, Int32.toInt_toInt64, Int32.reduceToInt, Int64.reduceToInt] at t_75_10
              refine lv_aload_n hx hb dX5_readNumber_78 rfl (lv_at hl 3 rfl) ?_
              refine lv_iload hx hb dX5_readNumber_79 (lv_at hl 2 rfl) ?_
              refine kCallVd (wr := []) (va_runV (As := [.int ta]) (rest := []) ⟨hx, hb, hml, hown, hts⟩ (g_faultAt l D cI cL cB cZ cT _ aX bX tl tf tj td tw tv fx ta) (cwV 1 hts gX5_readNumber_X5_faultAt rfl rfl rfl (by decide +kernel) ⟨Nat.le_of_ble_eq_true rfl, Nat.le_of_ble_eq_true rfl⟩) (kPreV hG hP hD [0, 1] rfl (by decide) 0 5 rfl rfl rfl) rfl rfl hl.1 rfl (lv_room (Nat.le_of_ble_eq_true rfl)) dX5_readNumber_81 ⟨Nat.le_of_ble_eq_true rfl, Nat.le_of_ble_eq_true rfl⟩) hA hP hD hS [0, 1] [] rfl rfl (by decide) (by decide) (fun _ u_r_12 H locs wr_12 hP hD hS => ?_)
              have hP : va_P D vwCl [(aX, .inr (5, [.ref bX, .int tl, .int u_r_12, .int tj, .int td, .int tw, .long tv])), (bX, .inl (cB, 2000, .inl fx))] H := hP
              have hD : va_D A [(aX, .inr (5, [.ref bX, .int tl, .int u_r_12, .int tj, .int td, .int tw, .long tv])), (bX, .inl (cB, 2000, .inl fx))] := hD
              try dsimp only at wr_12
              refine lv_lload hx hb dX5_readNumber_84 (lv_at hl 1 rfl) ?_
              refine kLret (u := (u_r_12, tj)) hx hb hr hlocks hS dX5_readNumber_86 ?_ (hP.sub [0, 1] rfl) (hD.sub [0, 1] (by decide) rfl)
              try dsimp only
              rw [hend1, hend2]
              exact ⟨rfl, rfl, wr_12.trans (kif_t (by omega)).symm⟩
        · have t_25_7 := c_25_7
          try simp only [kb_eq0, kb_ne0, lg_cmp_lt, lg_cmp_le, lg_cmp_gt, lg_cmp_ge, lg_cmp_eq] at t_25_7
          try simp only [Int32.lt_iff_toInt_lt, Int32.le_iff_toInt_le, ← Int32.toInt_inj, Int64.lt_iff_toInt_lt, Int64.le_iff_toInt_le, ← Int64.toInt_inj, Int32.toInt_toInt64, Int32.reduceToInt, Int64.reduceToInt] at t_25_7
          refine lv_ldc2 (v := 10) hx hb hown (hts (.constantLong RX5 97 (10)) (List.mem_of_getElem? (i := 2) rfl)) dX5_readNumber_28 ?_
          refine lv_lload hx hb dX5_readNumber_31 (lv_at hl 1 rfl) ?_
          refine lv_lmul hx hb dX5_readNumber_33 ?_
          refine lv_aload_n hx hb dX5_readNumber_34 rfl (lv_at hl 3 rfl) ?_
          refine kCallI (wr := []) (va_runV (As := []) (rest := [.long (10 * nu)]) ⟨hx, hb, hml, hown, hts⟩ (g_byteHere l D cI cL cB cZ cT _ aX bX tl tf tj td tw tv fx (by omega) htl) (cwV 0 hts gX5_readNumber_X5_byteHere rfl rfl rfl (by decide +kernel) ⟨Nat.le_of_ble_eq_true rfl, Nat.le_of_ble_eq_true rfl⟩) (kPreV hG hP hD [0, 1] rfl (by decide) 0 5 rfl rfl rfl) rfl rfl hl.1 rfl (lv_room (Nat.le_of_ble_eq_true rfl)) dX5_readNumber_35 ⟨Nat.le_of_ble_eq_true rfl, Nat.le_of_ble_eq_true rfl⟩) hA hP hD hS [0, 1] [] rfl rfl (by decide) (by decide) (fun r_13 u_r_13 H locs wr_13 hP hD hS => ?_)
          have hP : va_P D vwCl [(aX, .inr (5, [.ref bX, .int tl, .int tf, .int tj, .int td, .int tw, .long tv])), (bX, .inl (cB, 2000, .inl fx))] H := hP
          have hD : va_D A [(aX, .inr (5, [.ref bX, .int tl, .int tf, .int tj, .int td, .int tw, .long tv])), (bX, .inl (cB, 2000, .inl fx))] := hD
          try dsimp only at wr_13
          subst wr_13
          refine lv_i2l hx hb dX5_readNumber_38 rfl ?_
          refine lv_ladd hx hb dX5_readNumber_39 ?_
          refine lv_ldc2 (v := 48) hx hb hown (hts (.constantLong RX5 99 (48)) (List.mem_of_getElem? (i := 3) rfl)) dX5_readNumber_40 ?_
          refine lv_lsub hx hb dX5_readNumber_43 ?_
          refine lv_topl (fun x_14 ex_14 => ?_)
          refine lv_lstore (lv' := [(5, .long x_14), (7, .int j), (4, .int ta), (0, .ref aX), (1, .int mf), (2, .long mv)]) hx hb dX5_readNumber_44 hl (by decide) rfl (fun ls hl => ?_)
          refine lv_aload_n hx hb dX5_readNumber_46 rfl (lv_at hl 3 rfl) ?_
          refine lv_dup hx hb dX5_readNumber_47 rfl ?_
          refine va_get (D := D) (ci := 5) (v := .int tj) (C := RX5) (T := TX5) (N := 7) hx hb hts iX5_readNumber_X5 hown hK hP 0 rfl rfl 3 (by decide) (hts (.fieldLink RX5 22 "TapeCalculator$Text" "at" "I") (List.mem_of_getElem? (i := 1) rfl)) (fun _ h9 => h9) rfl dX5_readNumber_48 ?_
          refine lv_iconst (v := 1) hx hb dX5_readNumber_51 (by decide) ?_
          refine lv_iadd hx hb dX5_readNumber_52 ?_
          refine lv_topi (fun x_15 ex_15 => ?_)
          refine va_put (D := D) (ci := 5) (v := .int x_15) (ty := .int) (C := RX5) (T := TX5) (N := 7) hx hb hts iX5_readNumber_X5 tyX5 tyX5_ok nmX5 hown hK hP hD hS 0 rfl rfl 3 (by decide) (hts (.fieldLink RX5 22 "TapeCalculator$Text" "at" "I") (List.mem_of_getElem? (i := 1) rfl)) (fun _ h9 => h9) rfl (by decide +kernel) rfl rfl (Nat.le_of_ble_eq_true rfl) dX5_readNumber_53 (fun H locs hP hD hS => ?_)
          have hP : va_P D vwCl [(aX, .inr (5, [.ref bX, .int tl, .int tf, .int x_15, .int td, .int tw, .long tv])), (bX, .inl (cB, 2000, .inl fx))] H := hP
          have hD : va_D A [(aX, .inr (5, [.ref bX, .int tl, .int tf, .int x_15, .int td, .int tw, .long tv])), (bX, .inl (cB, 2000, .inl fx))] := hD
          obtain ⟨x_16, ex_16⟩ : ∃ y : Int32, y = j + 1 := ⟨_, rfl⟩
          refine lv_iinc (v := x_16) (lv' := [(7, .int x_16), (5, .long x_14), (4, .int ta), (0, .ref aX), (1, .int mf), (2, .long mv)]) hx hb dX5_readNumber_56 hl (k := 1) rfl (by rw [ex_16]; rfl) (by decide) rfl (fun ls hl => ?_)
          refine lv_goto (tgt := 12) hx hb dX5_readNumber_59 (by decide) ?_
          have hd := k_inc (i := j) (n := mf) (by omega)
          rw [← ex_16] at hd
          have hc := kHere_c (a := tj) (t := tl) (f := fx) (by omega)
          have hd2 := k_add1 (a := tj) (by omega)
          rw [← ex_15] at hd2
          have hq : mm - g = (mm - (g + 1)) + 1 := by omega
          rw [hq, kNm_s (t := tl) (f := fx) (a := tj) (by omega)] at g3
          exact ih x_16 x_14 x_15 (by omega) ⟨g + 1, by omega, by omega, by rw [ex_15, ex_14]; exact g3, by omega, by omega⟩ _ _ (hP.sub [0, 1] rfl) (hD.sub [0, 1] (by decide) rfl) hS ls (lv_sub hl [0, 1, 2, 3, 4, 5] rfl)
  have hz0 : (0 : Int32).toInt = 0 := by decide
  exact J12 _ 0 0 ta (Nat.lt_succ_self _) ⟨0, by omega, by omega, rfl, by omega, by omega⟩ _ _ (hP.sub [0, 1] rfl) (hD.sub [0, 1] (by decide) rfl) hS ls (lv_sub hl [0, 1, 2, 3, 4, 5] rfl)
set_option maxRecDepth 100000 in
theorem iX5_readLine_X5 : ∀ w ∈ wsX50, w ∈ wsX5_readLine := fun w h => (goodIn_r (big := wsX5_readLine) wsX50 [51, 52, 53, 54, 55, 56, 57] rfl (by decide +kernel) w h).1
set_option maxRecDepth 100000 in
set_option maxHeartbeats 4000000 in
theorem g_readLine (l : Launch) (D : va_G) (cI cL cB cZ cT : ClassId) (sz : Nat) (aX bX : Nat) (tl tf ta td tw : Int32) (tv : Int64) (fx : Nat → Int32) (hta : 0 ≤ ta.toInt ∧ ta.toInt ≤ tl.toInt) (htl : tl.toInt ≤ 2000) (htf : tf.toInt = -1) : kM (S := (Int32 × Int32 × Int32 × Int32 × Int64)) l yX5_readLine wsX5_readLine ({ frames := 4, cells := 0, slots := 0, locals := 84 }) D (kT cI cL cB cZ cT) [.ref aX] [(aX, .inr (5, [.ref bX, .int tl, .int tf, .int ta, .int td, .int tw, .long tv])), (bX, .inl (cB, 2000, .inl fx))] sz eV (fun r u => kOk (kLn tl fx ta) (u.1) (u.2.1) ∧ (0 ≤ ((u.2.1)).toInt ∧ ((u.2.1)).toInt ≤ tl.toInt)) (fun u => [(aX, .inr (5, [.ref bX, .int tl, .int u.1, .int u.2.1, .int u.2.2.1, .int u.2.2.2.1, .long u.2.2.2.2])), (bX, .inl (cB, 2000, .inl fx))]) 0 0 := by
  refine kStart (cc := cX5_readLine) (maxL := 5) (ret := none) (own := RX5) (by decide) rfl rfl (Nat.le_of_ble_eq_true rfl) ?_
  intro p e s m args below meth c A ls hx hb hr hml hown hts hlocks hnm hsz hA hG hP hD hS hl
  have hK := hG.1
  have hl : lv_has ls 5 [(0, .ref aX)] := hl
  refine lv_aload_n hx hb dX5_readLine_0 rfl (lv_at hl 0 rfl) ?_
  refine va_get (D := D) (ci := 5) (v := .int ta) (C := RX5) (T := TX5) (N := 7) hx hb hts iX5_readLine_X5 hown hK hP 0 rfl rfl 3 (by decide) (hts (.fieldLink RX5 22 "TapeCalculator$Text" "at" "I") (List.mem_of_getElem? (i := 1) rfl)) (fun _ h9 => h9) rfl dX5_readLine_1 ?_
  refine lv_istore_n (lv' := [(1, .int ta), (0, .ref aX)]) hx hb dX5_readLine_4 rfl hl (by decide) rfl (fun ls hl => ?_)
  refine lv_aload_n hx hb dX5_readLine_5 rfl (lv_at hl 1 rfl) ?_
  refine lv_aload_n hx hb dX5_readLine_6 rfl (lv_at hl 1 rfl) ?_
  refine lv_iconst (v := 4) hx hb dX5_readLine_7 (by decide) ?_
  refine lv_ldc2 (v := 511) hx hb hown (hts (.constantLong RX5 61 (511)) (List.mem_of_getElem? (i := 2) rfl)) dX5_readLine_8 ?_
  refine kCallL (wr := []) (va_runV (As := [.int 4, .long 511]) (rest := [.ref aX]) ⟨hx, hb, hml, hown, hts⟩ (g_readNumber l D cI cL cB cZ cT _ aX bX tl tf ta td tw tv fx 4 511 4 511 (by omega) htl (by decide) (by decide)) (cwV 2 hts gX5_readLine_X5_readNumber rfl rfl rfl (by decide +kernel) ⟨Nat.le_of_ble_eq_true rfl, Nat.le_of_ble_eq_true rfl⟩) (kPreV hG hP hD [0, 1] rfl (by decide) 0 5 rfl rfl rfl) rfl rfl hl.1 rfl (lv_room (Nat.le_of_ble_eq_true rfl)) dX5_readLine_11 ⟨Nat.le_of_ble_eq_true rfl, Nat.le_of_ble_eq_true rfl⟩) hA hP hD hS [0, 1] [] rfl rfl (by decide) (by decide) (fun r_1 u_r_1 H locs wr_1 hP hD hS => ?_)
  have hP : va_P D vwCl [(aX, .inr (5, [.ref bX, .int tl, .int u_r_1.1, .int u_r_1.2, .int td, .int tw, .long tv])), (bX, .inl (cB, 2000, .inl fx))] H := hP
  have hD : va_D A [(aX, .inr (5, [.ref bX, .int tl, .int u_r_1.1, .int u_r_1.2, .int td, .int tw, .long tv])), (bX, .inl (cB, 2000, .inl fx))] := hD
  try dsimp only at wr_1
  obtain ⟨wr_1_0, wr_1_1, wr_1_2⟩ := wr_1
  have rgr_1 := kNm_r (f := fx) htl 4 (ta) 0 (by omega) (by omega)
  rw [← wr_1_1] at rgr_1
  refine lv_l2i hx hb dX5_readLine_14 rfl ?_
  refine va_put (D := D) (ci := 5) (v := .int r_1.toInt32) (ty := .int) (C := RX5) (T := TX5) (N := 7) hx hb hts iX5_readLine_X5 tyX5 tyX5_ok nmX5 hown hK hP hD hS 0 rfl rfl 4 (by decide) (hts (.fieldLink RX5 44 "TapeCalculator$Text" "address" "I") (List.mem_of_getElem? (i := 3) rfl)) (fun _ h9 => h9) rfl (by decide +kernel) rfl rfl (Nat.le_of_ble_eq_true rfl) dX5_readLine_15 (fun H locs hP hD hS => ?_)
  have hP : va_P D vwCl [(aX, .inr (5, [.ref bX, .int tl, .int u_r_1.1, .int u_r_1.2, .int r_1.toInt32, .int tw, .long tv])), (bX, .inl (cB, 2000, .inl fx))] H := hP
  have hD : va_D A [(aX, .inr (5, [.ref bX, .int tl, .int u_r_1.1, .int u_r_1.2, .int r_1.toInt32, .int tw, .long tv])), (bX, .inl (cB, 2000, .inl fx))] := hD
  refine lv_aload_n hx hb dX5_readLine_18 rfl (lv_at hl 1 rfl) ?_
  refine lv_bipush (v := 32) hx hb dX5_readLine_19 (by decide) ?_
  refine kCallVd (wr := []) (va_runV (As := [.int 32]) (rest := []) ⟨hx, hb, hml, hown, hts⟩ (g_expect l D cI cL cB cZ cT _ aX bX tl (u_r_1.1) (u_r_1.2) (r_1.toInt32) tw tv fx 32 32 (by omega) htl (by decide)) (cwV 1 hts gX5_readLine_X5_expect rfl rfl rfl (by decide +kernel) ⟨Nat.le_of_ble_eq_true rfl, Nat.le_of_ble_eq_true rfl⟩) (kPreV hG hP hD [0, 1] rfl (by decide) 0 5 rfl rfl rfl) rfl rfl hl.1 rfl (lv_room (Nat.le_of_ble_eq_true rfl)) dX5_readLine_21 ⟨Nat.le_of_ble_eq_true rfl, Nat.le_of_ble_eq_true rfl⟩) hA hP hD hS [0, 1] [] rfl rfl (by decide) (by decide) (fun _ u_r_2 H locs wr_2 hP hD hS => ?_)
  have hP : va_P D vwCl [(aX, .inr (5, [.ref bX, .int tl, .int u_r_2.1, .int u_r_2.2, .int r_1.toInt32, .int tw, .long tv])), (bX, .inl (cB, 2000, .inl fx))] H := hP
  have hD : va_D A [(aX, .inr (5, [.ref bX, .int tl, .int u_r_2.1, .int u_r_2.2, .int r_1.toInt32, .int tw, .long tv])), (bX, .inl (cB, 2000, .inl fx))] := hD
  try dsimp only at wr_2
  obtain ⟨wr_2_0, wr_2_1⟩ := wr_2
  have rgr_2 := kSk_r (a := u_r_1.2) (t := tl) (f := fx) (b := 32) (by omega) htl (by decide)
  rw [← wr_2_0] at rgr_2
  refine lv_aload_n hx hb dX5_readLine_24 rfl (lv_at hl 1 rfl) ?_
  refine lv_bipush (v := 61) hx hb dX5_readLine_25 (by decide) ?_
  refine kCallI (wr := []) (va_runV (As := [.int 61]) (rest := []) ⟨hx, hb, hml, hown, hts⟩ (g_skipIf l D cI cL cB cZ cT _ aX bX tl (u_r_2.1) (u_r_2.2) (r_1.toInt32) tw tv fx 61 61 (by omega) htl (by decide)) (cwV 1 hts gX5_readLine_X5_skipIf rfl rfl rfl (by decide +kernel) ⟨Nat.le_of_ble_eq_true rfl, Nat.le_of_ble_eq_true rfl⟩) (kPreV hG hP hD [0, 1] rfl (by decide) 0 5 rfl rfl rfl) rfl rfl hl.1 rfl (lv_room (Nat.le_of_ble_eq_true rfl)) dX5_readLine_27 ⟨Nat.le_of_ble_eq_true rfl, Nat.le_of_ble_eq_true rfl⟩) hA hP hD hS [0, 1] [] rfl rfl (by decide) (by decide) (fun r_3 u_r_3 H locs wr_3 hP hD hS => ?_)
  have hP : va_P D vwCl [(aX, .inr (5, [.ref bX, .int tl, .int u_r_2.1, .int u_r_3, .int r_1.toInt32, .int tw, .long tv])), (bX, .inl (cB, 2000, .inl fx))] H := hP
  have hD : va_D A [(aX, .inr (5, [.ref bX, .int tl, .int u_r_2.1, .int u_r_3, .int r_1.toInt32, .int tw, .long tv])), (bX, .inl (cB, 2000, .inl fx))] := hD
  try dsimp only at wr_3
  obtain ⟨wr_3_0, wr_3_1⟩ := wr_3
  subst wr_3_0
  have rgr_3 := kSk_r (a := u_r_2.2) (t := tl) (f := fx) (b := 61) (by omega) htl (by decide)
  rw [← wr_3_1] at rgr_3
  refine lv_topi (fun x_4 ex_4 => ?_)
  refine lv_istore_n (lv' := [(2, .int x_4), (1, .int ta), (0, .ref aX)]) hx hb dX5_readLine_30 rfl hl (by decide) rfl (fun ls hl => ?_)
  refine lv_aload_n hx hb dX5_readLine_31 rfl (lv_at hl 2 rfl) ?_
  refine lv_iload_n hx hb dX5_readLine_32 rfl (lv_at hl 0 rfl) ?_
  refine lv_if_eq (tgt := 49) hx hb dX5_readLine_33 (by decide) (fun c_33_4 => ?_) (fun c_33_4 => ?_)
  · have t_33_4 := c_33_4
    try simp only [kb_eq0, kb_ne0, lg_cmp_lt, lg_cmp_le, lg_cmp_gt, lg_cmp_ge, lg_cmp_eq] at t_33_4
    try simp only [Int32.lt_iff_toInt_lt, Int32.le_iff_toInt_le, ← Int32.toInt_inj, Int64.lt_iff_toInt_lt, Int64.le_iff_toInt_le, ← Int64.toInt_inj, Int32.toInt_toInt64, Int32.reduceToInt, Int64.reduceToInt] at t_33_4
    have u33 := c_33_4
    rw [ex_4] at u33
    simp only [kb_eq0, kb_ne0] at u33
    refine lv_iconst (v := 0) hx hb dX5_readLine_49 (by decide) ?_
    refine va_put (D := D) (ci := 5) (v := .int 0) (ty := .boolean) (C := RX5) (T := TX5) (N := 7) hx hb hts iX5_readLine_X5 tyX5 tyX5_ok nmX5 hown hK hP hD hS 0 rfl rfl 5 (by decide) (hts (.fieldLink RX5 40 "TapeCalculator$Text" "isWhole" "Z") (List.mem_of_getElem? (i := 4) rfl)) (fun _ h9 => h9) rfl (by decide +kernel) rfl rfl (Nat.le_of_ble_eq_true rfl) dX5_readLine_50 (fun H locs hP hD hS => ?_)
    have hP : va_P D vwCl [(aX, .inr (5, [.ref bX, .int tl, .int u_r_2.1, .int u_r_3, .int r_1.toInt32, .int 0, .long tv])), (bX, .inl (cB, 2000, .inl fx))] H := hP
    have hD : va_D A [(aX, .inr (5, [.ref bX, .int tl, .int u_r_2.1, .int u_r_3, .int r_1.toInt32, .int 0, .long tv])), (bX, .inl (cB, 2000, .inl fx))] := hD
    refine lv_aload_n hx hb dX5_readLine_53 rfl (lv_at hl 2 rfl) ?_
    refine va_get (D := D) (ci := 5) (v := .int 0) (C := RX5) (T := TX5) (N := 7) hx hb hts iX5_readLine_X5 hown hK hP 0 rfl rfl 5 (by decide) (hts (.fieldLink RX5 40 "TapeCalculator$Text" "isWhole" "Z") (List.mem_of_getElem? (i := 4) rfl)) (fun _ h9 => h9) rfl dX5_readLine_54 ?_
    refine lv_if_eq (tgt := 74) hx hb dX5_readLine_57 (by decide) (fun c_57_5 => ?_) (fun c_57_5 => ?_)
    · have t_57_5 := c_57_5
      try simp only [kb_eq0, kb_ne0, lg_cmp_lt, lg_cmp_le, lg_cmp_gt, lg_cmp_ge, lg_cmp_eq] at t_57_5
      try simp only [Int32.lt_iff_toInt_lt, Int32.le_iff_toInt_le, ← Int32.toInt_inj, Int64.lt_iff_toInt_lt, Int64.le_iff_toInt_le, ← Int64.toInt_inj, Int32.toInt_toInt64, Int32.reduceToInt, Int64.reduceToInt] at t_57_5
      refine lv_aload_n hx hb dX5_readLine_74 rfl (lv_at hl 2 rfl) ?_
      refine va_get (D := D) (ci := 5) (v := .int 0) (C := RX5) (T := TX5) (N := 7) hx hb hts iX5_readLine_X5 hown hK hP 0 rfl rfl 5 (by decide) (hts (.fieldLink RX5 40 "TapeCalculator$Text" "isWhole" "Z") (List.mem_of_getElem? (i := 4) rfl)) (fun _ h9 => h9) rfl dX5_readLine_75 ?_
      refine lv_if_eq (tgt := 104) hx hb dX5_readLine_78 (by decide) (fun c_78_6 => ?_) (fun c_78_6 => ?_)
      · have t_78_6 := c_78_6
        try simp only [kb_eq0, kb_ne0, lg_cmp_lt, lg_cmp_le, lg_cmp_gt, lg_cmp_ge, lg_cmp_eq] at t_78_6
        try simp only [Int32.lt_iff_toInt_lt, Int32.le_iff_toInt_le, ← Int32.toInt_inj, Int64.lt_iff_toInt_lt, Int64.le_iff_toInt_le, ← Int64.toInt_inj, Int32.toInt_toInt64, Int32.reduceToInt, Int64.reduceToInt] at t_78_6
        refine lv_iload_n hx hb dX5_readLine_104 rfl (lv_at hl 0 rfl) ?_
        refine lv_if_eq (tgt := 133) hx hb dX5_readLine_105 (by decide) (fun c_105_7 => ?_) (fun c_105_7 => ?_)
        · have t_105_7 := c_105_7
          try simp only [kb_eq0, kb_ne0, lg_cmp_lt, lg_cmp_le, lg_cmp_gt, lg_cmp_ge, lg_cmp_eq] at t_105_7
          try simp only [Int32.lt_iff_toInt_lt, Int32.le_iff_toInt_le, ← Int32.toInt_inj, Int64.lt_iff_toInt_lt, Int64.le_iff_toInt_le, ← Int64.toInt_inj, Int32.toInt_toInt64, Int32.reduceToInt, Int64.reduceToInt] at t_105_7
          refine lv_aload_n hx hb dX5_readLine_133 rfl (lv_at hl 2 rfl) ?_
          refine lv_iconst (v := 2) hx hb dX5_readLine_134 (by decide) ?_
          refine lv_ldc2 (v := 31) hx hb hown (hts (.constantLong RX5 86 (31)) (List.mem_of_getElem? (i := 8) rfl)) dX5_readLine_135 ?_
          refine kCallL (wr := []) (va_runV (As := [.int 2, .long 31]) (rest := []) ⟨hx, hb, hml, hown, hts⟩ (g_readNumber l D cI cL cB cZ cT _ aX bX tl (u_r_2.1) u_r_3 (r_1.toInt32) 0 tv fx 2 31 2 31 (by omega) htl (by decide) (by decide)) (cwV 2 hts gX5_readLine_X5_readNumber rfl rfl rfl (by decide +kernel) ⟨Nat.le_of_ble_eq_true rfl, Nat.le_of_ble_eq_true rfl⟩) (kPreV hG hP hD [0, 1] rfl (by decide) 0 5 rfl rfl rfl) rfl rfl hl.1 rfl (lv_room (Nat.le_of_ble_eq_true rfl)) dX5_readLine_138 ⟨Nat.le_of_ble_eq_true rfl, Nat.le_of_ble_eq_true rfl⟩) hA hP hD hS [0, 1] [] rfl rfl (by decide) (by decide) (fun r_9 u_r_9 H locs wr_9 hP hD hS => ?_)
          have hP : va_P D vwCl [(aX, .inr (5, [.ref bX, .int tl, .int u_r_9.1, .int u_r_9.2, .int r_1.toInt32, .int 0, .long tv])), (bX, .inl (cB, 2000, .inl fx))] H := hP
          have hD : va_D A [(aX, .inr (5, [.ref bX, .int tl, .int u_r_9.1, .int u_r_9.2, .int r_1.toInt32, .int 0, .long tv])), (bX, .inl (cB, 2000, .inl fx))] := hD
          try dsimp only at wr_9
          obtain ⟨wr_9_0, wr_9_1, wr_9_2⟩ := wr_9
          have rgr_9 := kNm_r (f := fx) htl 2 (u_r_3) 0 (by omega) (by omega)
          rw [← wr_9_1] at rgr_9
          refine lv_bipush (v := 12) hx hb dX5_readLine_141 (by decide) ?_
          refine lv_lshl hx hb dX5_readLine_143 rfl ?_
          refine lv_topl (fun x_10 ex_10 => ?_)
          refine lv_lstore_n (lv' := [(3, .long x_10), (2, .int x_4), (1, .int ta), (0, .ref aX)]) hx hb dX5_readLine_144 rfl hl (by decide) rfl (fun ls hl => ?_)
          refine lv_aload_n hx hb dX5_readLine_145 rfl (lv_at hl 3 rfl) ?_
          refine lv_aload_n hx hb dX5_readLine_146 rfl (lv_at hl 3 rfl) ?_
          refine kCallI (wr := []) (va_runV (As := []) (rest := [.ref aX]) ⟨hx, hb, hml, hown, hts⟩ (g_readSign l D cI cL cB cZ cT _ aX bX tl (u_r_9.1) (u_r_9.2) (r_1.toInt32) 0 tv fx (by omega) htl) (cwV 0 hts gX5_readLine_X5_readSign rfl rfl rfl (by decide +kernel) ⟨Nat.le_of_ble_eq_true rfl, Nat.le_of_ble_eq_true rfl⟩) (kPreV hG hP hD [0, 1] rfl (by decide) 0 5 rfl rfl rfl) rfl rfl hl.1 rfl (lv_room (Nat.le_of_ble_eq_true rfl)) dX5_readLine_147 ⟨Nat.le_of_ble_eq_true rfl, Nat.le_of_ble_eq_true rfl⟩) hA hP hD hS [0, 1] [] rfl rfl (by decide) (by decide) (fun r_11 u_r_11 H locs wr_11 hP hD hS => ?_)
          have hP : va_P D vwCl [(aX, .inr (5, [.ref bX, .int tl, .int u_r_11.1, .int u_r_11.2, .int r_1.toInt32, .int 0, .long tv])), (bX, .inl (cB, 2000, .inl fx))] H := hP
          have hD : va_D A [(aX, .inr (5, [.ref bX, .int tl, .int u_r_11.1, .int u_r_11.2, .int r_1.toInt32, .int 0, .long tv])), (bX, .inl (cB, 2000, .inl fx))] := hD
          try dsimp only at wr_11
          obtain ⟨wr_11_0, wr_11_1⟩ := wr_11
          have rgr_11 := kSg_r (a := u_r_9.2) (t := tl) (f := fx) (by omega) htl
          rw [← wr_11_0] at rgr_11
          refine lv_bipush (v := 17) hx hb dX5_readLine_150 (by decide) ?_
          refine lv_ishl hx hb dX5_readLine_152 ?_
          refine lv_i2l hx hb dX5_readLine_153 rfl ?_
          refine lv_lload_n hx hb dX5_readLine_154 rfl (lv_at hl 0 rfl) ?_
          refine lv_lor hx hb dX5_readLine_155 ?_
          refine lv_aload_n hx hb dX5_readLine_156 rfl (lv_at hl 3 rfl) ?_
          refine lv_iconst (v := 4) hx hb dX5_readLine_157 (by decide) ?_
          refine lv_ldc2 (v := 4095) hx hb hown (hts (.constantLong RX5 88 (4095)) (List.mem_of_getElem? (i := 9) rfl)) dX5_readLine_158 ?_
          refine kCallL (wr := []) (va_runV (As := [.int 4, .long 4095]) (rest := [.long ((r_11 <<< (17 &&& 31)).toInt64 ||| x_10), .ref aX]) ⟨hx, hb, hml, hown, hts⟩ (g_readNumber l D cI cL cB cZ cT _ aX bX tl (u_r_11.1) (u_r_11.2) (r_1.toInt32) 0 tv fx 4 4095 4 4095 (by omega) htl (by decide) (by decide)) (cwV 2 hts gX5_readLine_X5_readNumber rfl rfl rfl (by decide +kernel) ⟨Nat.le_of_ble_eq_true rfl, Nat.le_of_ble_eq_true rfl⟩) (kPreV hG hP hD [0, 1] rfl (by decide) 0 5 rfl rfl rfl) rfl rfl hl.1 rfl (lv_room (Nat.le_of_ble_eq_true rfl)) dX5_readLine_161 ⟨Nat.le_of_ble_eq_true rfl, Nat.le_of_ble_eq_true rfl⟩) hA hP hD hS [0, 1] [] rfl rfl (by decide) (by decide) (fun r_12 u_r_12 H locs wr_12 hP hD hS => ?_)
          have hP : va_P D vwCl [(aX, .inr (5, [.ref bX, .int tl, .int u_r_12.1, .int u_r_12.2, .int r_1.toInt32, .int 0, .long tv])), (bX, .inl (cB, 2000, .inl fx))] H := hP
          have hD : va_D A [(aX, .inr (5, [.ref bX, .int tl, .int u_r_12.1, .int u_r_12.2, .int r_1.toInt32, .int 0, .long tv])), (bX, .inl (cB, 2000, .inl fx))] := hD
          try dsimp only at wr_12
          obtain ⟨wr_12_0, wr_12_1, wr_12_2⟩ := wr_12
          have rgr_12 := kNm_r (f := fx) htl 4 (u_r_11.2) 0 (by omega) (by omega)
          rw [← wr_12_1] at rgr_12
          refine lv_lor hx hb dX5_readLine_164 ?_
          refine va_put (D := D) (ci := 5) (v := .long (((r_11 <<< (17 &&& 31)).toInt64 ||| x_10) ||| r_12)) (ty := .long) (C := RX5) (T := TX5) (N := 7) hx hb hts iX5_readLine_X5 tyX5 tyX5_ok nmX5 hown hK hP hD hS 0 rfl rfl 6 (by decide) (hts (.fieldLink RX5 47 "TapeCalculator$Text" "value" "J") (List.mem_of_getElem? (i := 6) rfl)) (fun _ h9 => h9) rfl (by decide +kernel) rfl rfl (Nat.le_of_ble_eq_true rfl) dX5_readLine_165 (fun H locs hP hD hS => ?_)
          have hP : va_P D vwCl [(aX, .inr (5, [.ref bX, .int tl, .int u_r_12.1, .int u_r_12.2, .int r_1.toInt32, .int 0, .long (((r_11 <<< (17 &&& 31)).toInt64 ||| x_10) ||| r_12)])), (bX, .inl (cB, 2000, .inl fx))] H := hP
          have hD : va_D A [(aX, .inr (5, [.ref bX, .int tl, .int u_r_12.1, .int u_r_12.2, .int r_1.toInt32, .int 0, .long (((r_11 <<< (17 &&& 31)).toInt64 ||| x_10) ||| r_12)])), (bX, .inl (cB, 2000, .inl fx))] := hD
          refine lv_aload_n hx hb dX5_readLine_168 rfl (lv_at hl 3 rfl) ?_
          refine lv_bipush (v := 10) hx hb dX5_readLine_169 (by decide) ?_
          refine kCallVd (wr := []) (va_runV (As := [.int 10]) (rest := []) ⟨hx, hb, hml, hown, hts⟩ (g_expect l D cI cL cB cZ cT _ aX bX tl (u_r_12.1) (u_r_12.2) (r_1.toInt32) 0 (((r_11 <<< (17 &&& 31)).toInt64 ||| x_10) ||| r_12) fx 10 10 (by omega) htl (by decide)) (cwV 1 hts gX5_readLine_X5_expect rfl rfl rfl (by decide +kernel) ⟨Nat.le_of_ble_eq_true rfl, Nat.le_of_ble_eq_true rfl⟩) (kPreV hG hP hD [0, 1] rfl (by decide) 0 5 rfl rfl rfl) rfl rfl hl.1 rfl (lv_room (Nat.le_of_ble_eq_true rfl)) dX5_readLine_171 ⟨Nat.le_of_ble_eq_true rfl, Nat.le_of_ble_eq_true rfl⟩) hA hP hD hS [0, 1] [] rfl rfl (by decide) (by decide) (fun _ u_r_13 H locs wr_13 hP hD hS => ?_)
          have hP : va_P D vwCl [(aX, .inr (5, [.ref bX, .int tl, .int u_r_13.1, .int u_r_13.2, .int r_1.toInt32, .int 0, .long (((r_11 <<< (17 &&& 31)).toInt64 ||| x_10) ||| r_12)])), (bX, .inl (cB, 2000, .inl fx))] H := hP
          have hD : va_D A [(aX, .inr (5, [.ref bX, .int tl, .int u_r_13.1, .int u_r_13.2, .int r_1.toInt32, .int 0, .long (((r_11 <<< (17 &&& 31)).toInt64 ||| x_10) ||| r_12)])), (bX, .inl (cB, 2000, .inl fx))] := hD
          try dsimp only at wr_13
          obtain ⟨wr_13_0, wr_13_1⟩ := wr_13
          have rgr_13 := kSk_r (a := u_r_12.2) (t := tl) (f := fx) (b := 10) (by omega) htl (by decide)
          rw [← wr_13_0] at rgr_13
          refine kVret (u := (u_r_13.1, u_r_13.2, r_1.toInt32, 0, (((r_11 <<< (17 &&& 31)).toInt64 ||| x_10) ||| r_12))) hx hb hr hlocks hS dX5_readLine_174 ?_ (hP.sub [0, 1] rfl) (hD.sub [0, 1] (by decide) rfl)
          try dsimp only
          have FR := kFr_c (f := fx) hta htl htf wr_1_1 wr_1_0 wr_1_2 wr_2_0 wr_2_1
          have TL := kTl_c (f := fx) (by omega) htl wr_11_0 wr_11_1 wr_12_1 wr_12_2 wr_13_0 wr_13_1
          refine ⟨kLn_a (f := fx) htl (by omega) FR (by omega) wr_3_1 wr_9_1 wr_9_2 TL, by omega⟩
        · have t_105_7 := c_105_7
          try simp only [kb_eq0, kb_ne0, lg_cmp_lt, lg_cmp_le, lg_cmp_gt, lg_cmp_ge, lg_cmp_eq] at t_105_7
          try simp only [Int32.lt_iff_toInt_lt, Int32.le_iff_toInt_le, ← Int32.toInt_inj, Int64.lt_iff_toInt_lt, Int64.le_iff_toInt_le, ← Int64.toInt_inj, Int32.toInt_toInt64, Int32.reduceToInt, Int64.reduceToInt] at t_105_7
          omega
      · exact absurd (by decide) c_78_6
    · exact absurd (by decide) c_57_5
  · have t_33_4 := c_33_4
    try simp only [kb_eq0, kb_ne0, lg_cmp_lt, lg_cmp_le, lg_cmp_gt, lg_cmp_ge, lg_cmp_eq] at t_33_4
    try simp only [Int32.lt_iff_toInt_lt, Int32.le_iff_toInt_le, ← Int32.toInt_inj, Int64.lt_iff_toInt_lt, Int64.le_iff_toInt_le, ← Int64.toInt_inj, Int32.toInt_toInt64, Int32.reduceToInt, Int64.reduceToInt] at t_33_4
    have u33 := c_33_4
    rw [ex_4] at u33
    simp only [kb_eq0, kb_ne0] at u33
    refine lv_aload_n hx hb dX5_readLine_36 rfl (lv_at hl 2 rfl) ?_
    refine lv_bipush (v := 61) hx hb dX5_readLine_37 (by decide) ?_
    refine kCallI (wr := []) (va_runV (As := [.int 61]) (rest := [.ref aX]) ⟨hx, hb, hml, hown, hts⟩ (g_skipIf l D cI cL cB cZ cT _ aX bX tl (u_r_2.1) u_r_3 (r_1.toInt32) tw tv fx 61 61 (by omega) htl (by decide)) (cwV 1 hts gX5_readLine_X5_skipIf rfl rfl rfl (by decide +kernel) ⟨Nat.le_of_ble_eq_true rfl, Nat.le_of_ble_eq_true rfl⟩) (kPreV hG hP hD [0, 1] rfl (by decide) 0 5 rfl rfl rfl) rfl rfl hl.1 rfl (lv_room (Nat.le_of_ble_eq_true rfl)) dX5_readLine_39 ⟨Nat.le_of_ble_eq_true rfl, Nat.le_of_ble_eq_true rfl⟩) hA hP hD hS [0, 1] [] rfl rfl (by decide) (by decide) (fun r_14 u_r_14 H locs wr_14 hP hD hS => ?_)
    have hP : va_P D vwCl [(aX, .inr (5, [.ref bX, .int tl, .int u_r_2.1, .int u_r_14, .int r_1.toInt32, .int tw, .long tv])), (bX, .inl (cB, 2000, .inl fx))] H := hP
    have hD : va_D A [(aX, .inr (5, [.ref bX, .int tl, .int u_r_2.1, .int u_r_14, .int r_1.toInt32, .int tw, .long tv])), (bX, .inl (cB, 2000, .inl fx))] := hD
    try dsimp only at wr_14
    obtain ⟨wr_14_0, wr_14_1⟩ := wr_14
    subst wr_14_0
    have rgr_14 := kSk_r (a := u_r_3) (t := tl) (f := fx) (b := 61) (by omega) htl (by decide)
    rw [← wr_14_1] at rgr_14
    refine lv_if_eq (tgt := 49) hx hb dX5_readLine_42 (by decide) (fun c_42_14 => ?_) (fun c_42_14 => ?_)
    · have t_42_14 := c_42_14
      try simp only [kb_eq0, kb_ne0, lg_cmp_lt, lg_cmp_le, lg_cmp_gt, lg_cmp_ge, lg_cmp_eq] at t_42_14
      try simp only [Int32.lt_iff_toInt_lt, Int32.le_iff_toInt_le, ← Int32.toInt_inj, Int64.lt_iff_toInt_lt, Int64.le_iff_toInt_le, ← Int64.toInt_inj, Int32.toInt_toInt64, Int32.reduceToInt, Int64.reduceToInt] at t_42_14
      refine lv_iconst (v := 0) hx hb dX5_readLine_49 (by decide) ?_
      refine va_put (D := D) (ci := 5) (v := .int 0) (ty := .boolean) (C := RX5) (T := TX5) (N := 7) hx hb hts iX5_readLine_X5 tyX5 tyX5_ok nmX5 hown hK hP hD hS 0 rfl rfl 5 (by decide) (hts (.fieldLink RX5 40 "TapeCalculator$Text" "isWhole" "Z") (List.mem_of_getElem? (i := 4) rfl)) (fun _ h9 => h9) rfl (by decide +kernel) rfl rfl (Nat.le_of_ble_eq_true rfl) dX5_readLine_50 (fun H locs hP hD hS => ?_)
      have hP : va_P D vwCl [(aX, .inr (5, [.ref bX, .int tl, .int u_r_2.1, .int u_r_14, .int r_1.toInt32, .int 0, .long tv])), (bX, .inl (cB, 2000, .inl fx))] H := hP
      have hD : va_D A [(aX, .inr (5, [.ref bX, .int tl, .int u_r_2.1, .int u_r_14, .int r_1.toInt32, .int 0, .long tv])), (bX, .inl (cB, 2000, .inl fx))] := hD
      refine lv_aload_n hx hb dX5_readLine_53 rfl (lv_at hl 2 rfl) ?_
      refine va_get (D := D) (ci := 5) (v := .int 0) (C := RX5) (T := TX5) (N := 7) hx hb hts iX5_readLine_X5 hown hK hP 0 rfl rfl 5 (by decide) (hts (.fieldLink RX5 40 "TapeCalculator$Text" "isWhole" "Z") (List.mem_of_getElem? (i := 4) rfl)) (fun _ h9 => h9) rfl dX5_readLine_54 ?_
      refine lv_if_eq (tgt := 74) hx hb dX5_readLine_57 (by decide) (fun c_57_15 => ?_) (fun c_57_15 => ?_)
      · have t_57_15 := c_57_15
        try simp only [kb_eq0, kb_ne0, lg_cmp_lt, lg_cmp_le, lg_cmp_gt, lg_cmp_ge, lg_cmp_eq] at t_57_15
        try simp only [Int32.lt_iff_toInt_lt, Int32.le_iff_toInt_le, ← Int32.toInt_inj, Int64.lt_iff_toInt_lt, Int64.le_iff_toInt_le, ← Int64.toInt_inj, Int32.toInt_toInt64, Int32.reduceToInt, Int64.reduceToInt] at t_57_15
        refine lv_aload_n hx hb dX5_readLine_74 rfl (lv_at hl 2 rfl) ?_
        refine va_get (D := D) (ci := 5) (v := .int 0) (C := RX5) (T := TX5) (N := 7) hx hb hts iX5_readLine_X5 hown hK hP 0 rfl rfl 5 (by decide) (hts (.fieldLink RX5 40 "TapeCalculator$Text" "isWhole" "Z") (List.mem_of_getElem? (i := 4) rfl)) (fun _ h9 => h9) rfl dX5_readLine_75 ?_
        refine lv_if_eq (tgt := 104) hx hb dX5_readLine_78 (by decide) (fun c_78_16 => ?_) (fun c_78_16 => ?_)
        · have t_78_16 := c_78_16
          try simp only [kb_eq0, kb_ne0, lg_cmp_lt, lg_cmp_le, lg_cmp_gt, lg_cmp_ge, lg_cmp_eq] at t_78_16
          try simp only [Int32.lt_iff_toInt_lt, Int32.le_iff_toInt_le, ← Int32.toInt_inj, Int64.lt_iff_toInt_lt, Int64.le_iff_toInt_le, ← Int64.toInt_inj, Int32.toInt_toInt64, Int32.reduceToInt, Int64.reduceToInt] at t_78_16
          refine lv_iload_n hx hb dX5_readLine_104 rfl (lv_at hl 0 rfl) ?_
          refine lv_if_eq (tgt := 133) hx hb dX5_readLine_105 (by decide) (fun c_105_17 => ?_) (fun c_105_17 => ?_)
          · have t_105_17 := c_105_17
            try simp only [kb_eq0, kb_ne0, lg_cmp_lt, lg_cmp_le, lg_cmp_gt, lg_cmp_ge, lg_cmp_eq] at t_105_17
            try simp only [Int32.lt_iff_toInt_lt, Int32.le_iff_toInt_le, ← Int32.toInt_inj, Int64.lt_iff_toInt_lt, Int64.le_iff_toInt_le, ← Int64.toInt_inj, Int32.toInt_toInt64, Int32.reduceToInt, Int64.reduceToInt] at t_105_17
            omega
          · have t_105_17 := c_105_17
            try simp only [kb_eq0, kb_ne0, lg_cmp_lt, lg_cmp_le, lg_cmp_gt, lg_cmp_ge, lg_cmp_eq] at t_105_17
            try simp only [Int32.lt_iff_toInt_lt, Int32.le_iff_toInt_le, ← Int32.toInt_inj, Int64.lt_iff_toInt_lt, Int64.le_iff_toInt_le, ← Int64.toInt_inj, Int32.toInt_toInt64, Int32.reduceToInt, Int64.reduceToInt] at t_105_17
            refine lv_aload_n hx hb dX5_readLine_108 rfl (lv_at hl 2 rfl) ?_
            refine lv_aload_n hx hb dX5_readLine_109 rfl (lv_at hl 2 rfl) ?_
            refine kCallI (wr := []) (va_runV (As := []) (rest := [.ref aX]) ⟨hx, hb, hml, hown, hts⟩ (g_readSign l D cI cL cB cZ cT _ aX bX tl (u_r_2.1) u_r_14 (r_1.toInt32) 0 tv fx (by omega) htl) (cwV 0 hts gX5_readLine_X5_readSign rfl rfl rfl (by decide +kernel) ⟨Nat.le_of_ble_eq_true rfl, Nat.le_of_ble_eq_true rfl⟩) (kPreV hG hP hD [0, 1] rfl (by decide) 0 5 rfl rfl rfl) rfl rfl hl.1 rfl (lv_room (Nat.le_of_ble_eq_true rfl)) dX5_readLine_110 ⟨Nat.le_of_ble_eq_true rfl, Nat.le_of_ble_eq_true rfl⟩) hA hP hD hS [0, 1] [] rfl rfl (by decide) (by decide) (fun r_19 u_r_19 H locs wr_19 hP hD hS => ?_)
            have hP : va_P D vwCl [(aX, .inr (5, [.ref bX, .int tl, .int u_r_19.1, .int u_r_19.2, .int r_1.toInt32, .int 0, .long tv])), (bX, .inl (cB, 2000, .inl fx))] H := hP
            have hD : va_D A [(aX, .inr (5, [.ref bX, .int tl, .int u_r_19.1, .int u_r_19.2, .int r_1.toInt32, .int 0, .long tv])), (bX, .inl (cB, 2000, .inl fx))] := hD
            try dsimp only at wr_19
            obtain ⟨wr_19_0, wr_19_1⟩ := wr_19
            have rgr_19 := kSg_r (a := u_r_14) (t := tl) (f := fx) (by omega) htl
            rw [← wr_19_0] at rgr_19
            refine lv_bipush (v := 17) hx hb dX5_readLine_113 (by decide) ?_
            refine lv_ishl hx hb dX5_readLine_115 ?_
            refine lv_i2l hx hb dX5_readLine_116 rfl ?_
            refine lv_aload_n hx hb dX5_readLine_117 rfl (lv_at hl 2 rfl) ?_
            refine lv_bipush (v := 6) hx hb dX5_readLine_118 (by decide) ?_
            refine lv_ldc2 (v := 131071) hx hb hown (hts (.constantLong RX5 84 (131071)) (List.mem_of_getElem? (i := 7) rfl)) dX5_readLine_120 ?_
            refine kCallL (wr := []) (va_runV (As := [.int 6, .long 131071]) (rest := [.long (r_19 <<< (17 &&& 31)).toInt64, .ref aX]) ⟨hx, hb, hml, hown, hts⟩ (g_readNumber l D cI cL cB cZ cT _ aX bX tl (u_r_19.1) (u_r_19.2) (r_1.toInt32) 0 tv fx 6 131071 6 131071 (by omega) htl (by decide) (by decide)) (cwV 2 hts gX5_readLine_X5_readNumber rfl rfl rfl (by decide +kernel) ⟨Nat.le_of_ble_eq_true rfl, Nat.le_of_ble_eq_true rfl⟩) (kPreV hG hP hD [0, 1] rfl (by decide) 0 5 rfl rfl rfl) rfl rfl hl.1 rfl (lv_room (Nat.le_of_ble_eq_true rfl)) dX5_readLine_123 ⟨Nat.le_of_ble_eq_true rfl, Nat.le_of_ble_eq_true rfl⟩) hA hP hD hS [0, 1] [] rfl rfl (by decide) (by decide) (fun r_20 u_r_20 H locs wr_20 hP hD hS => ?_)
            have hP : va_P D vwCl [(aX, .inr (5, [.ref bX, .int tl, .int u_r_20.1, .int u_r_20.2, .int r_1.toInt32, .int 0, .long tv])), (bX, .inl (cB, 2000, .inl fx))] H := hP
            have hD : va_D A [(aX, .inr (5, [.ref bX, .int tl, .int u_r_20.1, .int u_r_20.2, .int r_1.toInt32, .int 0, .long tv])), (bX, .inl (cB, 2000, .inl fx))] := hD
            try dsimp only at wr_20
            obtain ⟨wr_20_0, wr_20_1, wr_20_2⟩ := wr_20
            have rgr_20 := kNm_r (f := fx) htl 6 (u_r_19.2) 0 (by omega) (by omega)
            rw [← wr_20_1] at rgr_20
            refine lv_lor hx hb dX5_readLine_126 ?_
            refine va_put (D := D) (ci := 5) (v := .long ((r_19 <<< (17 &&& 31)).toInt64 ||| r_20)) (ty := .long) (C := RX5) (T := TX5) (N := 7) hx hb hts iX5_readLine_X5 tyX5 tyX5_ok nmX5 hown hK hP hD hS 0 rfl rfl 6 (by decide) (hts (.fieldLink RX5 47 "TapeCalculator$Text" "value" "J") (List.mem_of_getElem? (i := 6) rfl)) (fun _ h9 => h9) rfl (by decide +kernel) rfl rfl (Nat.le_of_ble_eq_true rfl) dX5_readLine_127 (fun H locs hP hD hS => ?_)
            have hP : va_P D vwCl [(aX, .inr (5, [.ref bX, .int tl, .int u_r_20.1, .int u_r_20.2, .int r_1.toInt32, .int 0, .long ((r_19 <<< (17 &&& 31)).toInt64 ||| r_20)])), (bX, .inl (cB, 2000, .inl fx))] H := hP
            have hD : va_D A [(aX, .inr (5, [.ref bX, .int tl, .int u_r_20.1, .int u_r_20.2, .int r_1.toInt32, .int 0, .long ((r_19 <<< (17 &&& 31)).toInt64 ||| r_20)])), (bX, .inl (cB, 2000, .inl fx))] := hD
            refine lv_goto (tgt := 168) hx hb dX5_readLine_130 (by decide) ?_
            refine lv_aload_n hx hb dX5_readLine_168 rfl (lv_at hl 2 rfl) ?_
            refine lv_bipush (v := 10) hx hb dX5_readLine_169 (by decide) ?_
            refine kCallVd (wr := []) (va_runV (As := [.int 10]) (rest := []) ⟨hx, hb, hml, hown, hts⟩ (g_expect l D cI cL cB cZ cT _ aX bX tl (u_r_20.1) (u_r_20.2) (r_1.toInt32) 0 ((r_19 <<< (17 &&& 31)).toInt64 ||| r_20) fx 10 10 (by omega) htl (by decide)) (cwV 1 hts gX5_readLine_X5_expect rfl rfl rfl (by decide +kernel) ⟨Nat.le_of_ble_eq_true rfl, Nat.le_of_ble_eq_true rfl⟩) (kPreV hG hP hD [0, 1] rfl (by decide) 0 5 rfl rfl rfl) rfl rfl hl.1 rfl (lv_room (Nat.le_of_ble_eq_true rfl)) dX5_readLine_171 ⟨Nat.le_of_ble_eq_true rfl, Nat.le_of_ble_eq_true rfl⟩) hA hP hD hS [0, 1] [] rfl rfl (by decide) (by decide) (fun _ u_r_21 H locs wr_21 hP hD hS => ?_)
            have hP : va_P D vwCl [(aX, .inr (5, [.ref bX, .int tl, .int u_r_21.1, .int u_r_21.2, .int r_1.toInt32, .int 0, .long ((r_19 <<< (17 &&& 31)).toInt64 ||| r_20)])), (bX, .inl (cB, 2000, .inl fx))] H := hP
            have hD : va_D A [(aX, .inr (5, [.ref bX, .int tl, .int u_r_21.1, .int u_r_21.2, .int r_1.toInt32, .int 0, .long ((r_19 <<< (17 &&& 31)).toInt64 ||| r_20)])), (bX, .inl (cB, 2000, .inl fx))] := hD
            try dsimp only at wr_21
            obtain ⟨wr_21_0, wr_21_1⟩ := wr_21
            have rgr_21 := kSk_r (a := u_r_20.2) (t := tl) (f := fx) (b := 10) (by omega) htl (by decide)
            rw [← wr_21_0] at rgr_21
            refine kVret (u := (u_r_21.1, u_r_21.2, r_1.toInt32, 0, ((r_19 <<< (17 &&& 31)).toInt64 ||| r_20))) hx hb hr hlocks hS dX5_readLine_174 ?_ (hP.sub [0, 1] rfl) (hD.sub [0, 1] (by decide) rfl)
            try dsimp only
            have FR := kFr_c (f := fx) hta htl htf wr_1_1 wr_1_0 wr_1_2 wr_2_0 wr_2_1
            have TL := kTl_c (f := fx) (by omega) htl wr_19_0 wr_19_1 wr_20_1 wr_20_2 wr_21_0 wr_21_1
            refine ⟨kLn_e (f := fx) FR (by omega) wr_3_1 (by omega) wr_14_1 TL, by omega⟩
        · exact absurd (by decide) c_78_16
      · exact absurd (by decide) c_57_15
    · have t_42_14 := c_42_14
      try simp only [kb_eq0, kb_ne0, lg_cmp_lt, lg_cmp_le, lg_cmp_gt, lg_cmp_ge, lg_cmp_eq] at t_42_14
      try simp only [Int32.lt_iff_toInt_lt, Int32.le_iff_toInt_le, ← Int32.toInt_inj, Int64.lt_iff_toInt_lt, Int64.le_iff_toInt_le, ← Int64.toInt_inj, Int32.toInt_toInt64, Int32.reduceToInt, Int64.reduceToInt] at t_42_14
      refine lv_iconst (v := 1) hx hb dX5_readLine_45 (by decide) ?_
      refine lv_goto (tgt := 50) hx hb dX5_readLine_46 (by decide) ?_
      refine va_put (D := D) (ci := 5) (v := .int 1) (ty := .boolean) (C := RX5) (T := TX5) (N := 7) hx hb hts iX5_readLine_X5 tyX5 tyX5_ok nmX5 hown hK hP hD hS 0 rfl rfl 5 (by decide) (hts (.fieldLink RX5 40 "TapeCalculator$Text" "isWhole" "Z") (List.mem_of_getElem? (i := 4) rfl)) (fun _ h9 => h9) rfl (by decide +kernel) rfl rfl (Nat.le_of_ble_eq_true rfl) dX5_readLine_50 (fun H locs hP hD hS => ?_)
      have hP : va_P D vwCl [(aX, .inr (5, [.ref bX, .int tl, .int u_r_2.1, .int u_r_14, .int r_1.toInt32, .int 1, .long tv])), (bX, .inl (cB, 2000, .inl fx))] H := hP
      have hD : va_D A [(aX, .inr (5, [.ref bX, .int tl, .int u_r_2.1, .int u_r_14, .int r_1.toInt32, .int 1, .long tv])), (bX, .inl (cB, 2000, .inl fx))] := hD
      refine lv_aload_n hx hb dX5_readLine_53 rfl (lv_at hl 2 rfl) ?_
      refine va_get (D := D) (ci := 5) (v := .int 1) (C := RX5) (T := TX5) (N := 7) hx hb hts iX5_readLine_X5 hown hK hP 0 rfl rfl 5 (by decide) (hts (.fieldLink RX5 40 "TapeCalculator$Text" "isWhole" "Z") (List.mem_of_getElem? (i := 4) rfl)) (fun _ h9 => h9) rfl dX5_readLine_54 ?_
      refine lv_if_eq (tgt := 74) hx hb dX5_readLine_57 (by decide) (fun c_57_21 => ?_) (fun c_57_21 => ?_)
      · exact absurd c_57_21 (by decide)
      · have t_57_21 := c_57_21
        try simp only [kb_eq0, kb_ne0, lg_cmp_lt, lg_cmp_le, lg_cmp_gt, lg_cmp_ge, lg_cmp_eq] at t_57_21
        try simp only [Int32.lt_iff_toInt_lt, Int32.le_iff_toInt_le, ← Int32.toInt_inj, Int64.lt_iff_toInt_lt, Int64.le_iff_toInt_le, ← Int64.toInt_inj, Int32.toInt_toInt64, Int32.reduceToInt, Int64.reduceToInt] at t_57_21
        refine lv_aload_n hx hb dX5_readLine_60 rfl (lv_at hl 2 rfl) ?_
        refine va_get (D := D) (ci := 5) (v := .int r_1.toInt32) (C := RX5) (T := TX5) (N := 7) hx hb hts iX5_readLine_X5 hown hK hP 0 rfl rfl 4 (by decide) (hts (.fieldLink RX5 44 "TapeCalculator$Text" "address" "I") (List.mem_of_getElem? (i := 3) rfl)) (fun _ h9 => h9) rfl dX5_readLine_61 ?_
        refine lv_iconst (v := 1) hx hb dX5_readLine_64 (by decide) ?_
        refine lv_iand hx hb dX5_readLine_65 ?_
        refine lv_if_eq (tgt := 74) hx hb dX5_readLine_66 (by decide) (fun c_66_22 => ?_) (fun c_66_22 => ?_)
        · have t_66_22 := c_66_22
          try simp only [kb_eq0, kb_ne0, lg_cmp_lt, lg_cmp_le, lg_cmp_gt, lg_cmp_ge, lg_cmp_eq] at t_66_22
          try simp only [Int32.lt_iff_toInt_lt, Int32.le_iff_toInt_le, ← Int32.toInt_inj, Int64.lt_iff_toInt_lt, Int64.le_iff_toInt_le, ← Int64.toInt_inj, Int32.toInt_toInt64, Int32.reduceToInt, Int64.reduceToInt] at t_66_22
          refine lv_aload_n hx hb dX5_readLine_74 rfl (lv_at hl 2 rfl) ?_
          refine va_get (D := D) (ci := 5) (v := .int 1) (C := RX5) (T := TX5) (N := 7) hx hb hts iX5_readLine_X5 hown hK hP 0 rfl rfl 5 (by decide) (hts (.fieldLink RX5 40 "TapeCalculator$Text" "isWhole" "Z") (List.mem_of_getElem? (i := 4) rfl)) (fun _ h9 => h9) rfl dX5_readLine_75 ?_
          refine lv_if_eq (tgt := 104) hx hb dX5_readLine_78 (by decide) (fun c_78_23 => ?_) (fun c_78_23 => ?_)
          · exact absurd c_78_23 (by decide)
          · have t_78_23 := c_78_23
            try simp only [kb_eq0, kb_ne0, lg_cmp_lt, lg_cmp_le, lg_cmp_gt, lg_cmp_ge, lg_cmp_eq] at t_78_23
            try simp only [Int32.lt_iff_toInt_lt, Int32.le_iff_toInt_le, ← Int32.toInt_inj, Int64.lt_iff_toInt_lt, Int64.le_iff_toInt_le, ← Int64.toInt_inj, Int32.toInt_toInt64, Int32.reduceToInt, Int64.reduceToInt] at t_78_23
            refine lv_aload_n hx hb dX5_readLine_81 rfl (lv_at hl 2 rfl) ?_
            refine lv_aload_n hx hb dX5_readLine_82 rfl (lv_at hl 2 rfl) ?_
            refine kCallI (wr := []) (va_runV (As := []) (rest := [.ref aX]) ⟨hx, hb, hml, hown, hts⟩ (g_readSign l D cI cL cB cZ cT _ aX bX tl (u_r_2.1) u_r_14 (r_1.toInt32) 1 tv fx (by omega) htl) (cwV 0 hts gX5_readLine_X5_readSign rfl rfl rfl (by decide +kernel) ⟨Nat.le_of_ble_eq_true rfl, Nat.le_of_ble_eq_true rfl⟩) (kPreV hG hP hD [0, 1] rfl (by decide) 0 5 rfl rfl rfl) rfl rfl hl.1 rfl (lv_room (Nat.le_of_ble_eq_true rfl)) dX5_readLine_83 ⟨Nat.le_of_ble_eq_true rfl, Nat.le_of_ble_eq_true rfl⟩) hA hP hD hS [0, 1] [] rfl rfl (by decide) (by decide) (fun r_25 u_r_25 H locs wr_25 hP hD hS => ?_)
            have hP : va_P D vwCl [(aX, .inr (5, [.ref bX, .int tl, .int u_r_25.1, .int u_r_25.2, .int r_1.toInt32, .int 1, .long tv])), (bX, .inl (cB, 2000, .inl fx))] H := hP
            have hD : va_D A [(aX, .inr (5, [.ref bX, .int tl, .int u_r_25.1, .int u_r_25.2, .int r_1.toInt32, .int 1, .long tv])), (bX, .inl (cB, 2000, .inl fx))] := hD
            try dsimp only at wr_25
            obtain ⟨wr_25_0, wr_25_1⟩ := wr_25
            have rgr_25 := kSg_r (a := u_r_14) (t := tl) (f := fx) (by omega) htl
            rw [← wr_25_0] at rgr_25
            refine lv_aload_n hx hb dX5_readLine_86 rfl (lv_at hl 2 rfl) ?_
            refine lv_bipush (v := 11) hx hb dX5_readLine_87 (by decide) ?_
            refine lv_ldc2 (v := 34359738367) hx hb hown (hts (.constantLong RX5 79 (34359738367)) (List.mem_of_getElem? (i := 5) rfl)) dX5_readLine_89 ?_
            refine kCallL (wr := []) (va_runV (As := [.int 11, .long 34359738367]) (rest := [.int r_25, .ref aX]) ⟨hx, hb, hml, hown, hts⟩ (g_readNumber l D cI cL cB cZ cT _ aX bX tl (u_r_25.1) (u_r_25.2) (r_1.toInt32) 1 tv fx 11 34359738367 11 34359738367 (by omega) htl (by decide) (by decide)) (cwV 2 hts gX5_readLine_X5_readNumber rfl rfl rfl (by decide +kernel) ⟨Nat.le_of_ble_eq_true rfl, Nat.le_of_ble_eq_true rfl⟩) (kPreV hG hP hD [0, 1] rfl (by decide) 0 5 rfl rfl rfl) rfl rfl hl.1 rfl (lv_room (Nat.le_of_ble_eq_true rfl)) dX5_readLine_92 ⟨Nat.le_of_ble_eq_true rfl, Nat.le_of_ble_eq_true rfl⟩) hA hP hD hS [0, 1] [] rfl rfl (by decide) (by decide) (fun r_26 u_r_26 H locs wr_26 hP hD hS => ?_)
            have hP : va_P D vwCl [(aX, .inr (5, [.ref bX, .int tl, .int u_r_26.1, .int u_r_26.2, .int r_1.toInt32, .int 1, .long tv])), (bX, .inl (cB, 2000, .inl fx))] H := hP
            have hD : va_D A [(aX, .inr (5, [.ref bX, .int tl, .int u_r_26.1, .int u_r_26.2, .int r_1.toInt32, .int 1, .long tv])), (bX, .inl (cB, 2000, .inl fx))] := hD
            try dsimp only at wr_26
            obtain ⟨wr_26_0, wr_26_1, wr_26_2⟩ := wr_26
            have rgr_26 := kNm_r (f := fx) htl 11 (u_r_25.2) 0 (by omega) (by omega)
            rw [← wr_26_1] at rgr_26
            refine kCallL (wr := [(aX, .inr (5, [.ref bX, .int tl, .int u_r_26.1, .int u_r_26.2, .int r_1.toInt32, .int 1, .long tv])), (bX, .inl (cB, 2000, .inl fx))]) (va_runSN (As := [.int r_25, .long r_26]) (rest := [.ref aX]) ⟨hx, hb, hml, hown, hts⟩ (g_wordOf l D cI cL cB cZ cT _ r_25 r_26) ⟨va_cnB 2 hts gX5_readLine_X7_wordOf_n81 rfl rfl rfl hG.2.2.2.1 (hts (.initialized RX7) (List.mem_of_getElem? (i := 48) rfl)) (by decide +kernel) ⟨Nat.le_of_ble_eq_true rfl, Nat.le_of_ble_eq_true rfl⟩, hts (.static yX7_wordOf) (by decide +kernel), trivial⟩ (kPreS hG hP hD [] rfl (by decide)) rfl rfl hl.1 rfl (lv_room (Nat.le_of_ble_eq_true rfl)) dX5_readLine_95 ⟨Nat.le_of_ble_eq_true rfl, Nat.le_of_ble_eq_true rfl⟩) hA hP hD hS [] [0, 1] rfl rfl (by decide) (by decide) (fun r_27 u_r_27 H locs wr_27 hP hD hS => ?_)
            have hP : va_P D vwCl [(aX, .inr (5, [.ref bX, .int tl, .int u_r_26.1, .int u_r_26.2, .int r_1.toInt32, .int 1, .long tv])), (bX, .inl (cB, 2000, .inl fx))] H := hP
            have hD : va_D A [(aX, .inr (5, [.ref bX, .int tl, .int u_r_26.1, .int u_r_26.2, .int r_1.toInt32, .int 1, .long tv])), (bX, .inl (cB, 2000, .inl fx))] := hD
            try dsimp only at wr_27
            refine va_put (D := D) (ci := 5) (v := .long r_27) (ty := .long) (C := RX5) (T := TX5) (N := 7) hx hb hts iX5_readLine_X5 tyX5 tyX5_ok nmX5 hown hK hP hD hS 0 rfl rfl 6 (by decide) (hts (.fieldLink RX5 47 "TapeCalculator$Text" "value" "J") (List.mem_of_getElem? (i := 6) rfl)) (fun _ h9 => h9) rfl (by decide +kernel) rfl rfl (Nat.le_of_ble_eq_true rfl) dX5_readLine_98 (fun H locs hP hD hS => ?_)
            have hP : va_P D vwCl [(aX, .inr (5, [.ref bX, .int tl, .int u_r_26.1, .int u_r_26.2, .int r_1.toInt32, .int 1, .long r_27])), (bX, .inl (cB, 2000, .inl fx))] H := hP
            have hD : va_D A [(aX, .inr (5, [.ref bX, .int tl, .int u_r_26.1, .int u_r_26.2, .int r_1.toInt32, .int 1, .long r_27])), (bX, .inl (cB, 2000, .inl fx))] := hD
            refine lv_goto (tgt := 168) hx hb dX5_readLine_101 (by decide) ?_
            refine lv_aload_n hx hb dX5_readLine_168 rfl (lv_at hl 2 rfl) ?_
            refine lv_bipush (v := 10) hx hb dX5_readLine_169 (by decide) ?_
            refine kCallVd (wr := []) (va_runV (As := [.int 10]) (rest := []) ⟨hx, hb, hml, hown, hts⟩ (g_expect l D cI cL cB cZ cT _ aX bX tl (u_r_26.1) (u_r_26.2) (r_1.toInt32) 1 r_27 fx 10 10 (by omega) htl (by decide)) (cwV 1 hts gX5_readLine_X5_expect rfl rfl rfl (by decide +kernel) ⟨Nat.le_of_ble_eq_true rfl, Nat.le_of_ble_eq_true rfl⟩) (kPreV hG hP hD [0, 1] rfl (by decide) 0 5 rfl rfl rfl) rfl rfl hl.1 rfl (lv_room (Nat.le_of_ble_eq_true rfl)) dX5_readLine_171 ⟨Nat.le_of_ble_eq_true rfl, Nat.le_of_ble_eq_true rfl⟩) hA hP hD hS [0, 1] [] rfl rfl (by decide) (by decide) (fun _ u_r_28 H locs wr_28 hP hD hS => ?_)
            have hP : va_P D vwCl [(aX, .inr (5, [.ref bX, .int tl, .int u_r_28.1, .int u_r_28.2, .int r_1.toInt32, .int 1, .long r_27])), (bX, .inl (cB, 2000, .inl fx))] H := hP
            have hD : va_D A [(aX, .inr (5, [.ref bX, .int tl, .int u_r_28.1, .int u_r_28.2, .int r_1.toInt32, .int 1, .long r_27])), (bX, .inl (cB, 2000, .inl fx))] := hD
            try dsimp only at wr_28
            obtain ⟨wr_28_0, wr_28_1⟩ := wr_28
            have rgr_28 := kSk_r (a := u_r_26.2) (t := tl) (f := fx) (b := 10) (by omega) htl (by decide)
            rw [← wr_28_0] at rgr_28
            refine kVret (u := (u_r_28.1, u_r_28.2, r_1.toInt32, 1, r_27)) hx hb hr hlocks hS dX5_readLine_174 ?_ (hP.sub [0, 1] rfl) (hD.sub [0, 1] (by decide) rfl)
            try dsimp only
            have FR := kFr_c (f := fx) hta htl htf wr_1_1 wr_1_0 wr_1_2 wr_2_0 wr_2_1
            have TL := kTl_c (f := fx) (by omega) htl wr_25_0 wr_25_1 wr_26_1 wr_26_2 wr_28_0 wr_28_1
            refine ⟨kLn_w (f := fx) hta htl (by omega) FR (by omega) wr_3_1 (by omega) wr_14_1 (fun hv => Or.inr ⟨?_, rfl⟩) (fun _ => rfl) TL, by omega⟩
            have ho := k_odd hv
            have hx2 := t_66_22
            omega
        · have t_66_22 := c_66_22
          try simp only [kb_eq0, kb_ne0, lg_cmp_lt, lg_cmp_le, lg_cmp_gt, lg_cmp_ge, lg_cmp_eq] at t_66_22
          try simp only [Int32.lt_iff_toInt_lt, Int32.le_iff_toInt_le, ← Int32.toInt_inj, Int64.lt_iff_toInt_lt, Int64.le_iff_toInt_le, ← Int64.toInt_inj, Int32.toInt_toInt64, Int32.reduceToInt, Int64.reduceToInt] at t_66_22
          refine lv_aload_n hx hb dX5_readLine_69 rfl (lv_at hl 2 rfl) ?_
          refine lv_iload_n hx hb dX5_readLine_70 rfl (lv_at hl 1 rfl) ?_
          refine kCallVd (wr := []) (va_runV (As := [.int ta]) (rest := []) ⟨hx, hb, hml, hown, hts⟩ (g_faultAt l D cI cL cB cZ cT _ aX bX tl (u_r_2.1) u_r_14 (r_1.toInt32) 1 tv fx ta) (cwV 1 hts gX5_readLine_X5_faultAt rfl rfl rfl (by decide +kernel) ⟨Nat.le_of_ble_eq_true rfl, Nat.le_of_ble_eq_true rfl⟩) (kPreV hG hP hD [0, 1] rfl (by decide) 0 5 rfl rfl rfl) rfl rfl hl.1 rfl (lv_room (Nat.le_of_ble_eq_true rfl)) dX5_readLine_71 ⟨Nat.le_of_ble_eq_true rfl, Nat.le_of_ble_eq_true rfl⟩) hA hP hD hS [0, 1] [] rfl rfl (by decide) (by decide) (fun _ u_r_29 H locs wr_29 hP hD hS => ?_)
          have hP : va_P D vwCl [(aX, .inr (5, [.ref bX, .int tl, .int u_r_29, .int u_r_14, .int r_1.toInt32, .int 1, .long tv])), (bX, .inl (cB, 2000, .inl fx))] H := hP
          have hD : va_D A [(aX, .inr (5, [.ref bX, .int tl, .int u_r_29, .int u_r_14, .int r_1.toInt32, .int 1, .long tv])), (bX, .inl (cB, 2000, .inl fx))] := hD
          try dsimp only at wr_29
          refine lv_aload_n hx hb dX5_readLine_74 rfl (lv_at hl 2 rfl) ?_
          refine va_get (D := D) (ci := 5) (v := .int 1) (C := RX5) (T := TX5) (N := 7) hx hb hts iX5_readLine_X5 hown hK hP 0 rfl rfl 5 (by decide) (hts (.fieldLink RX5 40 "TapeCalculator$Text" "isWhole" "Z") (List.mem_of_getElem? (i := 4) rfl)) (fun _ h9 => h9) rfl dX5_readLine_75 ?_
          refine lv_if_eq (tgt := 104) hx hb dX5_readLine_78 (by decide) (fun c_78_29 => ?_) (fun c_78_29 => ?_)
          · exact absurd c_78_29 (by decide)
          · have t_78_29 := c_78_29
            try simp only [kb_eq0, kb_ne0, lg_cmp_lt, lg_cmp_le, lg_cmp_gt, lg_cmp_ge, lg_cmp_eq] at t_78_29
            try simp only [Int32.lt_iff_toInt_lt, Int32.le_iff_toInt_le, ← Int32.toInt_inj, Int64.lt_iff_toInt_lt, Int64.le_iff_toInt_le, ← Int64.toInt_inj, Int32.toInt_toInt64, Int32.reduceToInt, Int64.reduceToInt] at t_78_29
            refine lv_aload_n hx hb dX5_readLine_81 rfl (lv_at hl 2 rfl) ?_
            refine lv_aload_n hx hb dX5_readLine_82 rfl (lv_at hl 2 rfl) ?_
            refine kCallI (wr := []) (va_runV (As := []) (rest := [.ref aX]) ⟨hx, hb, hml, hown, hts⟩ (g_readSign l D cI cL cB cZ cT _ aX bX tl u_r_29 u_r_14 (r_1.toInt32) 1 tv fx (by omega) htl) (cwV 0 hts gX5_readLine_X5_readSign rfl rfl rfl (by decide +kernel) ⟨Nat.le_of_ble_eq_true rfl, Nat.le_of_ble_eq_true rfl⟩) (kPreV hG hP hD [0, 1] rfl (by decide) 0 5 rfl rfl rfl) rfl rfl hl.1 rfl (lv_room (Nat.le_of_ble_eq_true rfl)) dX5_readLine_83 ⟨Nat.le_of_ble_eq_true rfl, Nat.le_of_ble_eq_true rfl⟩) hA hP hD hS [0, 1] [] rfl rfl (by decide) (by decide) (fun r_31 u_r_31 H locs wr_31 hP hD hS => ?_)
            have hP : va_P D vwCl [(aX, .inr (5, [.ref bX, .int tl, .int u_r_31.1, .int u_r_31.2, .int r_1.toInt32, .int 1, .long tv])), (bX, .inl (cB, 2000, .inl fx))] H := hP
            have hD : va_D A [(aX, .inr (5, [.ref bX, .int tl, .int u_r_31.1, .int u_r_31.2, .int r_1.toInt32, .int 1, .long tv])), (bX, .inl (cB, 2000, .inl fx))] := hD
            try dsimp only at wr_31
            obtain ⟨wr_31_0, wr_31_1⟩ := wr_31
            have rgr_31 := kSg_r (a := u_r_14) (t := tl) (f := fx) (by omega) htl
            rw [← wr_31_0] at rgr_31
            refine lv_aload_n hx hb dX5_readLine_86 rfl (lv_at hl 2 rfl) ?_
            refine lv_bipush (v := 11) hx hb dX5_readLine_87 (by decide) ?_
            refine lv_ldc2 (v := 34359738367) hx hb hown (hts (.constantLong RX5 79 (34359738367)) (List.mem_of_getElem? (i := 5) rfl)) dX5_readLine_89 ?_
            refine kCallL (wr := []) (va_runV (As := [.int 11, .long 34359738367]) (rest := [.int r_31, .ref aX]) ⟨hx, hb, hml, hown, hts⟩ (g_readNumber l D cI cL cB cZ cT _ aX bX tl (u_r_31.1) (u_r_31.2) (r_1.toInt32) 1 tv fx 11 34359738367 11 34359738367 (by omega) htl (by decide) (by decide)) (cwV 2 hts gX5_readLine_X5_readNumber rfl rfl rfl (by decide +kernel) ⟨Nat.le_of_ble_eq_true rfl, Nat.le_of_ble_eq_true rfl⟩) (kPreV hG hP hD [0, 1] rfl (by decide) 0 5 rfl rfl rfl) rfl rfl hl.1 rfl (lv_room (Nat.le_of_ble_eq_true rfl)) dX5_readLine_92 ⟨Nat.le_of_ble_eq_true rfl, Nat.le_of_ble_eq_true rfl⟩) hA hP hD hS [0, 1] [] rfl rfl (by decide) (by decide) (fun r_32 u_r_32 H locs wr_32 hP hD hS => ?_)
            have hP : va_P D vwCl [(aX, .inr (5, [.ref bX, .int tl, .int u_r_32.1, .int u_r_32.2, .int r_1.toInt32, .int 1, .long tv])), (bX, .inl (cB, 2000, .inl fx))] H := hP
            have hD : va_D A [(aX, .inr (5, [.ref bX, .int tl, .int u_r_32.1, .int u_r_32.2, .int r_1.toInt32, .int 1, .long tv])), (bX, .inl (cB, 2000, .inl fx))] := hD
            try dsimp only at wr_32
            obtain ⟨wr_32_0, wr_32_1, wr_32_2⟩ := wr_32
            have rgr_32 := kNm_r (f := fx) htl 11 (u_r_31.2) 0 (by omega) (by omega)
            rw [← wr_32_1] at rgr_32
            refine kCallL (wr := [(aX, .inr (5, [.ref bX, .int tl, .int u_r_32.1, .int u_r_32.2, .int r_1.toInt32, .int 1, .long tv])), (bX, .inl (cB, 2000, .inl fx))]) (va_runSN (As := [.int r_31, .long r_32]) (rest := [.ref aX]) ⟨hx, hb, hml, hown, hts⟩ (g_wordOf l D cI cL cB cZ cT _ r_31 r_32) ⟨va_cnB 2 hts gX5_readLine_X7_wordOf_n81 rfl rfl rfl hG.2.2.2.1 (hts (.initialized RX7) (List.mem_of_getElem? (i := 48) rfl)) (by decide +kernel) ⟨Nat.le_of_ble_eq_true rfl, Nat.le_of_ble_eq_true rfl⟩, hts (.static yX7_wordOf) (by decide +kernel), trivial⟩ (kPreS hG hP hD [] rfl (by decide)) rfl rfl hl.1 rfl (lv_room (Nat.le_of_ble_eq_true rfl)) dX5_readLine_95 ⟨Nat.le_of_ble_eq_true rfl, Nat.le_of_ble_eq_true rfl⟩) hA hP hD hS [] [0, 1] rfl rfl (by decide) (by decide) (fun r_33 u_r_33 H locs wr_33 hP hD hS => ?_)
            have hP : va_P D vwCl [(aX, .inr (5, [.ref bX, .int tl, .int u_r_32.1, .int u_r_32.2, .int r_1.toInt32, .int 1, .long tv])), (bX, .inl (cB, 2000, .inl fx))] H := hP
            have hD : va_D A [(aX, .inr (5, [.ref bX, .int tl, .int u_r_32.1, .int u_r_32.2, .int r_1.toInt32, .int 1, .long tv])), (bX, .inl (cB, 2000, .inl fx))] := hD
            try dsimp only at wr_33
            refine va_put (D := D) (ci := 5) (v := .long r_33) (ty := .long) (C := RX5) (T := TX5) (N := 7) hx hb hts iX5_readLine_X5 tyX5 tyX5_ok nmX5 hown hK hP hD hS 0 rfl rfl 6 (by decide) (hts (.fieldLink RX5 47 "TapeCalculator$Text" "value" "J") (List.mem_of_getElem? (i := 6) rfl)) (fun _ h9 => h9) rfl (by decide +kernel) rfl rfl (Nat.le_of_ble_eq_true rfl) dX5_readLine_98 (fun H locs hP hD hS => ?_)
            have hP : va_P D vwCl [(aX, .inr (5, [.ref bX, .int tl, .int u_r_32.1, .int u_r_32.2, .int r_1.toInt32, .int 1, .long r_33])), (bX, .inl (cB, 2000, .inl fx))] H := hP
            have hD : va_D A [(aX, .inr (5, [.ref bX, .int tl, .int u_r_32.1, .int u_r_32.2, .int r_1.toInt32, .int 1, .long r_33])), (bX, .inl (cB, 2000, .inl fx))] := hD
            refine lv_goto (tgt := 168) hx hb dX5_readLine_101 (by decide) ?_
            refine lv_aload_n hx hb dX5_readLine_168 rfl (lv_at hl 2 rfl) ?_
            refine lv_bipush (v := 10) hx hb dX5_readLine_169 (by decide) ?_
            refine kCallVd (wr := []) (va_runV (As := [.int 10]) (rest := []) ⟨hx, hb, hml, hown, hts⟩ (g_expect l D cI cL cB cZ cT _ aX bX tl (u_r_32.1) (u_r_32.2) (r_1.toInt32) 1 r_33 fx 10 10 (by omega) htl (by decide)) (cwV 1 hts gX5_readLine_X5_expect rfl rfl rfl (by decide +kernel) ⟨Nat.le_of_ble_eq_true rfl, Nat.le_of_ble_eq_true rfl⟩) (kPreV hG hP hD [0, 1] rfl (by decide) 0 5 rfl rfl rfl) rfl rfl hl.1 rfl (lv_room (Nat.le_of_ble_eq_true rfl)) dX5_readLine_171 ⟨Nat.le_of_ble_eq_true rfl, Nat.le_of_ble_eq_true rfl⟩) hA hP hD hS [0, 1] [] rfl rfl (by decide) (by decide) (fun _ u_r_34 H locs wr_34 hP hD hS => ?_)
            have hP : va_P D vwCl [(aX, .inr (5, [.ref bX, .int tl, .int u_r_34.1, .int u_r_34.2, .int r_1.toInt32, .int 1, .long r_33])), (bX, .inl (cB, 2000, .inl fx))] H := hP
            have hD : va_D A [(aX, .inr (5, [.ref bX, .int tl, .int u_r_34.1, .int u_r_34.2, .int r_1.toInt32, .int 1, .long r_33])), (bX, .inl (cB, 2000, .inl fx))] := hD
            try dsimp only at wr_34
            obtain ⟨wr_34_0, wr_34_1⟩ := wr_34
            have rgr_34 := kSk_r (a := u_r_32.2) (t := tl) (f := fx) (b := 10) (by omega) htl (by decide)
            rw [← wr_34_0] at rgr_34
            refine kVret (u := (u_r_34.1, u_r_34.2, r_1.toInt32, 1, r_33)) hx hb hr hlocks hS dX5_readLine_174 ?_ (hP.sub [0, 1] rfl) (hD.sub [0, 1] (by decide) rfl)
            try dsimp only
            have FR := kFr_c (f := fx) hta htl htf wr_1_1 wr_1_0 wr_1_2 wr_2_0 wr_2_1
            have TL := kTl_c (f := fx) (by omega) htl wr_31_0 wr_31_1 wr_32_1 wr_32_2 wr_34_0 wr_34_1
            refine ⟨kLn_w (f := fx) hta htl (by omega) FR (by omega) wr_3_1 (by omega) wr_14_1 (fun hv => Or.inl ⟨?_, wr_29⟩) (fun hn => wr_29.trans (kF_k hn)) TL, by omega⟩
            have ho := k_odd hv
            omega
set_option maxRecDepth 100000 in
theorem iX5_keepLine_X5 : ∀ w ∈ wsX50, w ∈ wsX5_keepLine := fun w h => (goodIn_r (big := wsX5_keepLine) wsX50 [20, 21, 22, 23, 24, 25, 26] rfl (by decide +kernel) w h).1
set_option maxRecDepth 100000 in
set_option maxHeartbeats 4000000 in
theorem g_keepLine (l : Launch) (D : va_G) (cI cL cB cZ cT : ClassId) (sz : Nat) (aX bX : Nat) (tl tf ta td tw : Int32) (tv : Int64) (fx : Nat → Int32) (aS bS : Nat) (f : Nat → Int32) : kM (S := ((Nat → Int32))) l yX5_keepLine wsX5_keepLine ({ frames := 3, cells := 0, slots := 0, locals := 65 }) D (kT cI cL cB cZ cT) [.ref aX, .ref aS] [(aX, .inr (5, [.ref bX, .int tl, .int tf, .int ta, .int td, .int tw, .long tv])), (bX, .inl (cB, 2000, .inl fx)), (aS, .inr (3, [.ref bS])), (bS, .inl (cI, 512, .inl f))] sz eV (fun _ _ => True) (fun u => [(aX, .inr (5, [.ref bX, .int tl, .int tf, .int ta, .int td, .int tw, .long tv])), (bX, .inl (cB, 2000, .inl fx)), (aS, .inr (3, [.ref bS])), (bS, .inl (cI, 512, .inl u))]) 0 0 := by
  refine kStart (cc := cX5_keepLine) (maxL := 2) (ret := none) (own := RX5) (by decide) rfl rfl (Nat.le_of_ble_eq_true rfl) ?_
  intro p e s m args below meth c A ls hx hb hr hml hown hts hlocks hnm hsz hA hG hP hD hS hl
  have hK := hG.1
  have hl : lv_has ls 2 [(0, .ref aX), (1, .ref aS)] := hl
  refine lv_aload_n hx hb dX5_keepLine_0 rfl (lv_at hl 0 rfl) ?_
  refine va_get (D := D) (ci := 5) (v := .int tw) (C := RX5) (T := TX5) (N := 7) hx hb hts iX5_keepLine_X5 hown hK hP 0 rfl rfl 5 (by decide) (hts (.fieldLink RX5 40 "TapeCalculator$Text" "isWhole" "Z") (List.mem_of_getElem? (i := 1) rfl)) (fun _ h9 => h9) rfl dX5_keepLine_1 ?_
  refine lv_if_eq (tgt := 22) hx hb dX5_keepLine_4 (by decide) (fun c_4_0 => ?_) (fun c_4_0 => ?_)
  · have t_4_0 := c_4_0
    try simp only [kb_eq0, kb_ne0, lg_cmp_lt, lg_cmp_le, lg_cmp_gt, lg_cmp_ge, lg_cmp_eq] at t_4_0
    try simp only [Int32.lt_iff_toInt_lt, Int32.le_iff_toInt_le, ← Int32.toInt_inj, Int64.lt_iff_toInt_lt, Int64.le_iff_toInt_le, ← Int64.toInt_inj, Int32.toInt_toInt64, Int32.reduceToInt, Int64.reduceToInt] at t_4_0
    refine lv_aload_n hx hb dX5_keepLine_22 rfl (lv_at hl 1 rfl) ?_
    refine lv_aload_n hx hb dX5_keepLine_23 rfl (lv_at hl 0 rfl) ?_
    refine va_get (D := D) (ci := 5) (v := .int td) (C := RX5) (T := TX5) (N := 7) hx hb hts iX5_keepLine_X5 hown hK hP 0 rfl rfl 4 (by decide) (hts (.fieldLink RX5 44 "TapeCalculator$Text" "address" "I") (List.mem_of_getElem? (i := 2) rfl)) (fun _ h9 => h9) rfl dX5_keepLine_24 ?_
    refine lv_aload_n hx hb dX5_keepLine_27 rfl (lv_at hl 0 rfl) ?_
    refine va_get (D := D) (ci := 5) (v := .long tv) (C := RX5) (T := TX5) (N := 7) hx hb hts iX5_keepLine_X5 hown hK hP 0 rfl rfl 6 (by decide) (hts (.fieldLink RX5 47 "TapeCalculator$Text" "value" "J") (List.mem_of_getElem? (i := 3) rfl)) (fun _ h9 => h9) rfl dX5_keepLine_28 ?_
    refine lv_l2i hx hb dX5_keepLine_31 rfl ?_
    refine kCallVd (wr := [(aX, .inr (5, [.ref bX, .int tl, .int tf, .int ta, .int td, .int tw, .long tv])), (bX, .inl (cB, 2000, .inl fx))]) (va_runV (As := [.int td, .int tv.toInt32]) (rest := []) ⟨hx, hb, hml, hown, hts⟩ (g_keepHalf l D cI cL cB cZ cT _ aS bS f td (tv.toInt32)) (cwV 2 hts gX5_keepLine_X3_keepHalf rfl rfl rfl (by decide +kernel) ⟨Nat.le_of_ble_eq_true rfl, Nat.le_of_ble_eq_true rfl⟩) (kPreV hG hP hD [2, 3] rfl (by decide) 0 3 rfl rfl rfl) rfl rfl hl.1 rfl (lv_room (Nat.le_of_ble_eq_true rfl)) dX5_keepLine_32 ⟨Nat.le_of_ble_eq_true rfl, Nat.le_of_ble_eq_true rfl⟩) hA hP hD hS [2, 3] [0, 1] rfl rfl (by decide) (by decide) (fun _ u_r_2 H locs wr_2 hP hD hS => ?_)
    have hP : va_P D vwCl [(aX, .inr (5, [.ref bX, .int tl, .int tf, .int ta, .int td, .int tw, .long tv])), (bX, .inl (cB, 2000, .inl fx)), (aS, .inr (3, [.ref bS])), (bS, .inl (cI, 512, .inl u_r_2))] H := hP
    have hD : va_D A [(aX, .inr (5, [.ref bX, .int tl, .int tf, .int ta, .int td, .int tw, .long tv])), (bX, .inl (cB, 2000, .inl fx)), (aS, .inr (3, [.ref bS])), (bS, .inl (cI, 512, .inl u_r_2))] := hD
    try dsimp only at wr_2
    refine kVret (u := u_r_2) hx hb hr hlocks hS dX5_keepLine_35 ?_ (hP.sub [0, 1, 2, 3] rfl) (hD.sub [0, 1, 2, 3] (by decide) rfl)
    exact trivial
  · have t_4_0 := c_4_0
    try simp only [kb_eq0, kb_ne0, lg_cmp_lt, lg_cmp_le, lg_cmp_gt, lg_cmp_ge, lg_cmp_eq] at t_4_0
    try simp only [Int32.lt_iff_toInt_lt, Int32.le_iff_toInt_le, ← Int32.toInt_inj, Int64.lt_iff_toInt_lt, Int64.le_iff_toInt_le, ← Int64.toInt_inj, Int32.toInt_toInt64, Int32.reduceToInt, Int64.reduceToInt] at t_4_0
    refine lv_aload_n hx hb dX5_keepLine_7 rfl (lv_at hl 1 rfl) ?_
    refine lv_aload_n hx hb dX5_keepLine_8 rfl (lv_at hl 0 rfl) ?_
    refine va_get (D := D) (ci := 5) (v := .int td) (C := RX5) (T := TX5) (N := 7) hx hb hts iX5_keepLine_X5 hown hK hP 0 rfl rfl 4 (by decide) (hts (.fieldLink RX5 44 "TapeCalculator$Text" "address" "I") (List.mem_of_getElem? (i := 2) rfl)) (fun _ h9 => h9) rfl dX5_keepLine_9 ?_
    refine lv_aload_n hx hb dX5_keepLine_12 rfl (lv_at hl 0 rfl) ?_
    refine va_get (D := D) (ci := 5) (v := .long tv) (C := RX5) (T := TX5) (N := 7) hx hb hts iX5_keepLine_X5 hown hK hP 0 rfl rfl 6 (by decide) (hts (.fieldLink RX5 47 "TapeCalculator$Text" "value" "J") (List.mem_of_getElem? (i := 3) rfl)) (fun _ h9 => h9) rfl dX5_keepLine_13 ?_
    refine kCallVd (wr := [(aX, .inr (5, [.ref bX, .int tl, .int tf, .int ta, .int td, .int tw, .long tv])), (bX, .inl (cB, 2000, .inl fx))]) (va_runV (As := [.int td, .long tv]) (rest := []) ⟨hx, hb, hml, hown, hts⟩ (g_keepWhole l D cI cL cB cZ cT _ aS bS f td tv) (cwV 2 hts gX5_keepLine_X3_keepWhole rfl rfl rfl (by decide +kernel) ⟨Nat.le_of_ble_eq_true rfl, Nat.le_of_ble_eq_true rfl⟩) (kPreV hG hP hD [2, 3] rfl (by decide) 0 3 rfl rfl rfl) rfl rfl hl.1 rfl (lv_room (Nat.le_of_ble_eq_true rfl)) dX5_keepLine_16 ⟨Nat.le_of_ble_eq_true rfl, Nat.le_of_ble_eq_true rfl⟩) hA hP hD hS [2, 3] [0, 1] rfl rfl (by decide) (by decide) (fun _ u_r_3 H locs wr_3 hP hD hS => ?_)
    have hP : va_P D vwCl [(aX, .inr (5, [.ref bX, .int tl, .int tf, .int ta, .int td, .int tw, .long tv])), (bX, .inl (cB, 2000, .inl fx)), (aS, .inr (3, [.ref bS])), (bS, .inl (cI, 512, .inl u_r_3))] H := hP
    have hD : va_D A [(aX, .inr (5, [.ref bX, .int tl, .int tf, .int ta, .int td, .int tw, .long tv])), (bX, .inl (cB, 2000, .inl fx)), (aS, .inr (3, [.ref bS])), (bS, .inl (cI, 512, .inl u_r_3))] := hD
    try dsimp only at wr_3
    refine lv_goto (tgt := 35) hx hb dX5_keepLine_19 (by decide) ?_
    refine kVret (u := u_r_3) hx hb hr hlocks hS dX5_keepLine_35 ?_ (hP.sub [0, 1, 2, 3] rfl) (hD.sub [0, 1, 2, 3] (by decide) rfl)
    exact trivial
set_option maxRecDepth 100000 in
theorem iX5_readLines_X5 : ∀ w ∈ wsX50, w ∈ wsX5_readLines := fun w h => (goodIn_r (big := wsX5_readLines) wsX50 [74, 75, 76, 77, 78, 79, 80] rfl (by decide +kernel) w h).1
set_option maxRecDepth 100000 in
set_option maxHeartbeats 4000000 in
theorem g_readLines (l : Launch) (D : va_G) (cI cL cB cZ cT : ClassId) (sz : Nat) (aX bX : Nat) (tl tf ta td tw : Int32) (tv : Int64) (fx : Nat → Int32) (aS bS : Nat) (f : Nat → Int32) (z : Int32) (ht0 : 0 ≤ tl.toInt) (htl : tl.toInt ≤ 2000) : kM (S := (Int32 × Int32 × Int32 × Int32 × Int64 × (Nat → Int32))) l yX5_readLines wsX5_readLines ({ frames := 5, cells := 0, slots := 0, locals := 108 }) D (kT cI cL cB cZ cT) [.ref aX, .ref aS, .int z] [(aX, .inr (5, [.ref bX, .int tl, .int tf, .int ta, .int td, .int tw, .long tv])), (bX, .inl (cB, 2000, .inl fx)), (aS, .inr (3, [.ref bS])), (bS, .inl (cI, 512, .inl f))] sz eI (fun r u => (((u.1)).toInt = -1 → r = kLd tl fx 200 0 0) ∧ (¬ ((u.1)).toInt = -1 → -10 - (u.1) = kLd tl fx 200 0 0)) (fun u => [(aX, .inr (5, [.ref bX, .int tl, .int u.1, .int u.2.1, .int u.2.2.1, .int u.2.2.2.1, .long u.2.2.2.2.1])), (bX, .inl (cB, 2000, .inl fx)), (aS, .inr (3, [.ref bS])), (bS, .inl (cI, 512, .inl u.2.2.2.2.2))]) 0 0 := by
  refine kStart (cc := cX5_readLines) (maxL := 4) (ret := (some .int)) (own := RX5) (by decide) rfl rfl (Nat.le_of_ble_eq_true rfl) ?_
  intro p e s m args below meth c A ls hx hb hr hml hown hts hlocks hnm hsz hA hG hP hD hS hl
  have hK := hG.1
  have hl : lv_has ls 4 [(0, .ref aX), (1, .ref aS), (2, .int z)] := hl
  refine lv_aload_n hx hb dX5_readLines_0 rfl (lv_at hl 0 rfl) ?_
  refine lv_iconst (v := 0) hx hb dX5_readLines_1 (by decide) ?_
  refine va_put (D := D) (ci := 5) (v := .int 0) (ty := .int) (C := RX5) (T := TX5) (N := 7) hx hb hts iX5_readLines_X5 tyX5 tyX5_ok nmX5 hown hK hP hD hS 0 rfl rfl 3 (by decide) (hts (.fieldLink RX5 22 "TapeCalculator$Text" "at" "I") (List.mem_of_getElem? (i := 1) rfl)) (fun _ h9 => h9) rfl (by decide +kernel) rfl rfl (Nat.le_of_ble_eq_true rfl) dX5_readLines_2 (fun H locs hP hD hS => ?_)
  have hP : va_P D vwCl [(aX, .inr (5, [.ref bX, .int tl, .int tf, .int 0, .int td, .int tw, .long tv])), (bX, .inl (cB, 2000, .inl fx)), (aS, .inr (3, [.ref bS])), (bS, .inl (cI, 512, .inl f))] H := hP
  have hD : va_D A [(aX, .inr (5, [.ref bX, .int tl, .int tf, .int 0, .int td, .int tw, .long tv])), (bX, .inl (cB, 2000, .inl fx)), (aS, .inr (3, [.ref bS])), (bS, .inl (cI, 512, .inl f))] := hD
  refine lv_aload_n hx hb dX5_readLines_5 rfl (lv_at hl 0 rfl) ?_
  refine lv_iconst (v := (-1)) hx hb dX5_readLines_6 (by decide) ?_
  refine va_put (D := D) (ci := 5) (v := .int (-1)) (ty := .int) (C := RX5) (T := TX5) (N := 7) hx hb hts iX5_readLines_X5 tyX5 tyX5_ok nmX5 hown hK hP hD hS 0 rfl rfl 2 (by decide) (hts (.fieldLink RX5 15 "TapeCalculator$Text" "fault" "I") (List.mem_of_getElem? (i := 2) rfl)) (fun _ h9 => h9) rfl (by decide +kernel) rfl rfl (Nat.le_of_ble_eq_true rfl) dX5_readLines_7 (fun H locs hP hD hS => ?_)
  have hP : va_P D vwCl [(aX, .inr (5, [.ref bX, .int tl, .int (-1), .int 0, .int td, .int tw, .long tv])), (bX, .inl (cB, 2000, .inl fx)), (aS, .inr (3, [.ref bS])), (bS, .inl (cI, 512, .inl f))] H := hP
  have hD : va_D A [(aX, .inr (5, [.ref bX, .int tl, .int (-1), .int 0, .int td, .int tw, .long tv])), (bX, .inl (cB, 2000, .inl fx)), (aS, .inr (3, [.ref bS])), (bS, .inl (cI, 512, .inl f))] := hD
  refine lv_iconst (v := 0) hx hb dX5_readLines_10 (by decide) ?_
  refine lv_istore_n (lv' := [(3, .int 0), (0, .ref aX), (1, .ref aS), (2, .int z)]) hx hb dX5_readLines_11 rfl hl (by decide) rfl (fun ls hl => ?_)
  have J12 : ∀ (k : Nat) (j : Int32) (vf : Int32) (va : Int32) (vd : Int32) (vw : Int32) (vv : Int64) (vh : Nat → Int32), (200 - j.toInt).toNat < k → vf.toInt = -1 → 0 ≤ va.toInt ∧ va.toInt ≤ tl.toInt → (∃ g : Nat, j.toInt = g ∧ g ≤ 200 ∧ kLd tl fx (200 - g) va j = kLd tl fx 200 0 0) → ∀ (H : Heap) (locs : List Loc), va_P D vwCl [(aX, .inr (5, [.ref bX, .int tl, .int vf, .int va, .int vd, .int vw, .long vv])), (bX, .inl (cB, 2000, .inl fx)), (aS, .inr (3, [.ref bS])), (bS, .inl (cI, 512, .inl vh))] H → va_D A [(aX, .inr (5, [.ref bX, .int tl, .int vf, .int va, .int vd, .int vw, .long vv])), (bX, .inl (cB, 2000, .inl fx)), (aS, .inr (3, [.ref bS])), (bS, .inl (cI, 512, .inl vh))] → va_S A s.heap H locs → ∀ ls : Array Slot, lv_has ls 4 [(3, .int j), (0, .ref aX), (1, .ref aS), (2, .int z)] → W p l e ({ frames := 5, cells := 0, slots := 0, locals := 108 }) s m args below meth c H locs 0 0 (MQ below (kQ (S := (Int32 × Int32 × Int32 × Int32 × Int64 × (Nat → Int32))) eI (fun r u => (((u.1)).toInt = -1 → r = kLd tl fx 200 0 0) ∧ (¬ ((u.1)).toInt = -1 → -10 - (u.1) = kLd tl fx 200 0 0)) D (fun u => [(aX, .inr (5, [.ref bX, .int tl, .int u.1, .int u.2.1, .int u.2.2.1, .int u.2.2.2.1, .long u.2.2.2.2.1])), (bX, .inl (cB, 2000, .inl fx)), (aS, .inr (3, [.ref bS])), (bS, .inl (cI, 512, .inl u.2.2.2.2.2))]) A) args s 0 0 A) (F0 m 12 ls []) := by
    intro k
    induction k with
    | zero =>
      intro j vf va vd vw vv vh hm
      exact absurd hm (Nat.not_lt_zero _)
    | succ k ih =>
      intro j vf va vd vw vv vh hm hf1 hva hj H locs hP hD hS ls hl
      refine lv_iload_n hx hb dX5_readLines_12 rfl (lv_at hl 0 rfl) ?_
      refine lv_sipush (v := 200) hx hb dX5_readLines_13 (by decide) ?_
      refine lv_icmp_ge (tgt := 60) hx hb dX5_readLines_16 (by decide) (fun c_16_0 => ?_) (fun c_16_0 => ?_)
      · have t_16_0 := c_16_0
        try simp only [kb_eq0, kb_ne0, lg_cmp_lt, lg_cmp_le, lg_cmp_gt, lg_cmp_ge, lg_cmp_eq] at t_16_0
        try simp only [Int32.lt_iff_toInt_lt, Int32.le_iff_toInt_le, ← Int32.toInt_inj, Int64.lt_iff_toInt_lt, Int64.le_iff_toInt_le, ← Int64.toInt_inj, Int32.toInt_toInt64, Int32.reduceToInt, Int64.reduceToInt] at t_16_0
        refine lv_aload_n hx hb dX5_readLines_60 rfl (lv_at hl 1 rfl) ?_
        refine va_get (D := D) (ci := 5) (v := .int va) (C := RX5) (T := TX5) (N := 7) hx hb hts iX5_readLines_X5 hown hK hP 0 rfl rfl 3 (by decide) (hts (.fieldLink RX5 22 "TapeCalculator$Text" "at" "I") (List.mem_of_getElem? (i := 1) rfl)) (fun _ h9 => h9) rfl dX5_readLines_61 ?_
        refine lv_aload_n hx hb dX5_readLines_64 rfl (lv_at hl 1 rfl) ?_
        refine va_get (D := D) (ci := 5) (v := .int tl) (C := RX5) (T := TX5) (N := 7) hx hb hts iX5_readLines_X5 hown hK hP 0 rfl rfl 1 (by decide) (hts (.fieldLink RX5 19 "TapeCalculator$Text" "length" "I") (List.mem_of_getElem? (i := 3) rfl)) (fun _ h9 => h9) rfl dX5_readLines_65 ?_
        refine lv_icmp_ge (tgt := 79) hx hb dX5_readLines_68 (by decide) (fun c_68_1 => ?_) (fun c_68_1 => ?_)
        · have t_68_1 := c_68_1
          try simp only [kb_eq0, kb_ne0, lg_cmp_lt, lg_cmp_le, lg_cmp_gt, lg_cmp_ge, lg_cmp_eq] at t_68_1
          try simp only [Int32.lt_iff_toInt_lt, Int32.le_iff_toInt_le, ← Int32.toInt_inj, Int64.lt_iff_toInt_lt, Int64.le_iff_toInt_le, ← Int64.toInt_inj, Int32.toInt_toInt64, Int32.reduceToInt, Int64.reduceToInt] at t_68_1
          refine lv_sipush (v := 200) hx hb dX5_readLines_79 (by decide) ?_
          refine kIret (u := (vf, va, vd, vw, vv, vh)) hx hb hr rfl hlocks hS dX5_readLines_82 ?_ (hP.sub [0, 1, 2, 3] rfl) (hD.sub [0, 1, 2, 3] (by decide) rfl)
          try dsimp only
          obtain ⟨g, g1, g2, g3⟩ := hj
          have hz0 : (200 : Int32).toInt = 200 := by decide
          obtain rfl : j = 200 := k_inj (by omega)
          rw [show 200 - g = 0 by omega] at g3
          refine ⟨fun _ => ?_, fun h => absurd hf1 h⟩
          rw [← g3]
          exact (kLd_o (by omega)).symm
        · have t_68_1 := c_68_1
          try simp only [kb_eq0, kb_ne0, lg_cmp_lt, lg_cmp_le, lg_cmp_gt, lg_cmp_ge, lg_cmp_eq] at t_68_1
          try simp only [Int32.lt_iff_toInt_lt, Int32.le_iff_toInt_le, ← Int32.toInt_inj, Int64.lt_iff_toInt_lt, Int64.le_iff_toInt_le, ← Int64.toInt_inj, Int32.toInt_toInt64, Int32.reduceToInt, Int64.reduceToInt] at t_68_1
          refine lv_aload_n hx hb dX5_readLines_71 rfl (lv_at hl 1 rfl) ?_
          refine lv_aload_n hx hb dX5_readLines_72 rfl (lv_at hl 1 rfl) ?_
          refine va_get (D := D) (ci := 5) (v := .int va) (C := RX5) (T := TX5) (N := 7) hx hb hts iX5_readLines_X5 hown hK hP 0 rfl rfl 3 (by decide) (hts (.fieldLink RX5 22 "TapeCalculator$Text" "at" "I") (List.mem_of_getElem? (i := 1) rfl)) (fun _ h9 => h9) rfl dX5_readLines_73 ?_
          refine kCallVd (wr := [(aS, .inr (3, [.ref bS])), (bS, .inl (cI, 512, .inl vh))]) (va_runV (As := [.int va]) (rest := []) ⟨hx, hb, hml, hown, hts⟩ (g_faultAt l D cI cL cB cZ cT _ aX bX tl vf va vd vw vv fx va) (cwV 1 hts gX5_readLines_X5_faultAt rfl rfl rfl (by decide +kernel) ⟨Nat.le_of_ble_eq_true rfl, Nat.le_of_ble_eq_true rfl⟩) (kPreV hG hP hD [0, 1] rfl (by decide) 0 5 rfl rfl rfl) rfl rfl hl.1 rfl (lv_room (Nat.le_of_ble_eq_true rfl)) dX5_readLines_76 ⟨Nat.le_of_ble_eq_true rfl, Nat.le_of_ble_eq_true rfl⟩) hA hP hD hS [0, 1] [2, 3] rfl rfl (by decide) (by decide) (fun _ u_r_3 H locs wr_3 hP hD hS => ?_)
          have hP : va_P D vwCl [(aS, .inr (3, [.ref bS])), (bS, .inl (cI, 512, .inl vh)), (aX, .inr (5, [.ref bX, .int tl, .int u_r_3, .int va, .int vd, .int vw, .long vv])), (bX, .inl (cB, 2000, .inl fx))] H := hP
          have hD : va_D A [(aS, .inr (3, [.ref bS])), (bS, .inl (cI, 512, .inl vh)), (aX, .inr (5, [.ref bX, .int tl, .int u_r_3, .int va, .int vd, .int vw, .long vv])), (bX, .inl (cB, 2000, .inl fx))] := hD
          try dsimp only at wr_3
          refine lv_sipush (v := 200) hx hb dX5_readLines_79 (by decide) ?_
          refine kIret (u := (u_r_3, va, vd, vw, vv, vh)) hx hb hr rfl hlocks hS dX5_readLines_82 ?_ (hP.sub [2, 3, 0, 1] rfl) (hD.sub [2, 3, 0, 1] (by decide) rfl)
          try dsimp only
          obtain ⟨g, g1, g2, g3⟩ := hj
          have hz0 : (200 : Int32).toInt = 200 := by decide
          obtain rfl : j = 200 := k_inj (by omega)
          rw [show 200 - g = 0 by omega] at g3
          have hfa := wr_3
          rw [kF_m hf1] at hfa
          refine ⟨fun h => absurd h (by rw [hfa]; omega), fun _ => ?_⟩
          rw [hfa, ← g3]
          exact (kLd_z (by omega)).symm
      · have t_16_0 := c_16_0
        try simp only [kb_eq0, kb_ne0, lg_cmp_lt, lg_cmp_le, lg_cmp_gt, lg_cmp_ge, lg_cmp_eq] at t_16_0
        try simp only [Int32.lt_iff_toInt_lt, Int32.le_iff_toInt_le, ← Int32.toInt_inj, Int64.lt_iff_toInt_lt, Int64.le_iff_toInt_le, ← Int64.toInt_inj, Int32.toInt_toInt64, Int32.reduceToInt, Int64.reduceToInt] at t_16_0
        obtain ⟨g, g1, g2, g3⟩ := hj
        refine lv_aload_n hx hb dX5_readLines_19 rfl (lv_at hl 1 rfl) ?_
        refine va_get (D := D) (ci := 5) (v := .int va) (C := RX5) (T := TX5) (N := 7) hx hb hts iX5_readLines_X5 hown hK hP 0 rfl rfl 3 (by decide) (hts (.fieldLink RX5 22 "TapeCalculator$Text" "at" "I") (List.mem_of_getElem? (i := 1) rfl)) (fun _ h9 => h9) rfl dX5_readLines_20 ?_
        refine lv_aload_n hx hb dX5_readLines_23 rfl (lv_at hl 1 rfl) ?_
        refine va_get (D := D) (ci := 5) (v := .int tl) (C := RX5) (T := TX5) (N := 7) hx hb hts iX5_readLines_X5 hown hK hP 0 rfl rfl 1 (by decide) (hts (.fieldLink RX5 19 "TapeCalculator$Text" "length" "I") (List.mem_of_getElem? (i := 3) rfl)) (fun _ h9 => h9) rfl dX5_readLines_24 ?_
        refine lv_icmp_lt (tgt := 32) hx hb dX5_readLines_27 (by decide) (fun c_27_3 => ?_) (fun c_27_3 => ?_)
        · have t_27_3 := c_27_3
          try simp only [kb_eq0, kb_ne0, lg_cmp_lt, lg_cmp_le, lg_cmp_gt, lg_cmp_ge, lg_cmp_eq] at t_27_3
          try simp only [Int32.lt_iff_toInt_lt, Int32.le_iff_toInt_le, ← Int32.toInt_inj, Int64.lt_iff_toInt_lt, Int64.le_iff_toInt_le, ← Int64.toInt_inj, Int32.toInt_toInt64, Int32.reduceToInt, Int64.reduceToInt] at t_27_3
          refine lv_aload_n hx hb dX5_readLines_32 rfl (lv_at hl 1 rfl) ?_
          refine kCallVd (wr := [(aS, .inr (3, [.ref bS])), (bS, .inl (cI, 512, .inl vh))]) (va_runV (As := []) (rest := []) ⟨hx, hb, hml, hown, hts⟩ (g_readLine l D cI cL cB cZ cT _ aX bX tl vf va vd vw vv fx (by omega) htl hf1) (cwV 0 hts gX5_readLines_X5_readLine rfl rfl rfl (by decide +kernel) ⟨Nat.le_of_ble_eq_true rfl, Nat.le_of_ble_eq_true rfl⟩) (kPreV hG hP hD [0, 1] rfl (by decide) 0 5 rfl rfl rfl) rfl rfl hl.1 rfl (lv_room (Nat.le_of_ble_eq_true rfl)) dX5_readLines_33 ⟨Nat.le_of_ble_eq_true rfl, Nat.le_of_ble_eq_true rfl⟩) hA hP hD hS [0, 1] [2, 3] rfl rfl (by decide) (by decide) (fun _ u_r_5 H locs wr_5 hP hD hS => ?_)
          have hP : va_P D vwCl [(aS, .inr (3, [.ref bS])), (bS, .inl (cI, 512, .inl vh)), (aX, .inr (5, [.ref bX, .int tl, .int u_r_5.1, .int u_r_5.2.1, .int u_r_5.2.2.1, .int u_r_5.2.2.2.1, .long u_r_5.2.2.2.2])), (bX, .inl (cB, 2000, .inl fx))] H := hP
          have hD : va_D A [(aS, .inr (3, [.ref bS])), (bS, .inl (cI, 512, .inl vh)), (aX, .inr (5, [.ref bX, .int tl, .int u_r_5.1, .int u_r_5.2.1, .int u_r_5.2.2.1, .int u_r_5.2.2.2.1, .long u_r_5.2.2.2.2])), (bX, .inl (cB, 2000, .inl fx))] := hD
          try dsimp only at wr_5
          obtain ⟨wr_5_0, wr_5_1⟩ := wr_5
          refine lv_aload_n hx hb dX5_readLines_36 rfl (lv_at hl 1 rfl) ?_
          refine kCallI (wr := [(aS, .inr (3, [.ref bS])), (bS, .inl (cI, 512, .inl vh))]) (va_runV (As := []) (rest := []) ⟨hx, hb, hml, hown, hts⟩ (g_isFaulty l D cI cL cB cZ cT _ aX bX tl (u_r_5.1) (u_r_5.2.1) (u_r_5.2.2.1) (u_r_5.2.2.2.1) (u_r_5.2.2.2.2) fx) (cwV 0 hts gX5_readLines_X5_isFaulty rfl rfl rfl (by decide +kernel) ⟨Nat.le_of_ble_eq_true rfl, Nat.le_of_ble_eq_true rfl⟩) (kPreV hG hP hD [2, 3] rfl (by decide) 0 5 rfl rfl rfl) rfl rfl hl.1 rfl (lv_room (Nat.le_of_ble_eq_true rfl)) dX5_readLines_37 ⟨Nat.le_of_ble_eq_true rfl, Nat.le_of_ble_eq_true rfl⟩) hA hP hD hS [2, 3] [0, 1] rfl rfl (by decide) (by decide) (fun r_6 u_r_6 H locs wr_6 hP hD hS => ?_)
          have hP : va_P D vwCl [(aS, .inr (3, [.ref bS])), (bS, .inl (cI, 512, .inl vh)), (aX, .inr (5, [.ref bX, .int tl, .int u_r_5.1, .int u_r_5.2.1, .int u_r_5.2.2.1, .int u_r_5.2.2.2.1, .long u_r_5.2.2.2.2])), (bX, .inl (cB, 2000, .inl fx))] H := hP
          have hD : va_D A [(aS, .inr (3, [.ref bS])), (bS, .inl (cI, 512, .inl vh)), (aX, .inr (5, [.ref bX, .int tl, .int u_r_5.1, .int u_r_5.2.1, .int u_r_5.2.2.1, .int u_r_5.2.2.2.1, .long u_r_5.2.2.2.2])), (bX, .inl (cB, 2000, .inl fx))] := hD
          try dsimp only at wr_6
          subst wr_6
          refine lv_if_eq (tgt := 45) hx hb dX5_readLines_40 (by decide) (fun c_40_6 => ?_) (fun c_40_6 => ?_)
          · have t_40_6 := c_40_6
            try simp only [kb_eq0, kb_ne0, lg_cmp_lt, lg_cmp_le, lg_cmp_gt, lg_cmp_ge, lg_cmp_eq] at t_40_6
            try simp only [Int32.lt_iff_toInt_lt, Int32.le_iff_toInt_le, ← Int32.toInt_inj, Int64.lt_iff_toInt_lt, Int64.le_iff_toInt_le, ← Int64.toInt_inj, Int32.toInt_toInt64, Int32.reduceToInt, Int64.reduceToInt] at t_40_6
            refine lv_iload_n hx hb dX5_readLines_45 rfl (lv_at hl 3 rfl) ?_
            refine lv_if_eq (tgt := 54) hx hb dX5_readLines_46 (by decide) (fun c_46_7 => ?_) (fun c_46_7 => ?_)
            · have t_46_7 := c_46_7
              try simp only [kb_eq0, kb_ne0, lg_cmp_lt, lg_cmp_le, lg_cmp_gt, lg_cmp_ge, lg_cmp_eq] at t_46_7
              try simp only [Int32.lt_iff_toInt_lt, Int32.le_iff_toInt_le, ← Int32.toInt_inj, Int64.lt_iff_toInt_lt, Int64.le_iff_toInt_le, ← Int64.toInt_inj, Int32.toInt_toInt64, Int32.reduceToInt, Int64.reduceToInt] at t_46_7
              obtain ⟨x_9, ex_9⟩ : ∃ y : Int32, y = j + 1 := ⟨_, rfl⟩
              refine lv_iinc (v := x_9) (lv' := [(3, .int x_9), (0, .ref aX), (1, .ref aS), (2, .int z)]) hx hb dX5_readLines_54 hl (k := 0) rfl (by rw [ex_9]; rfl) (by decide) rfl (fun ls hl => ?_)
              refine lv_goto (tgt := 12) hx hb dX5_readLines_57 (by decide) ?_
              have hz0 : (200 : Int32).toInt = 200 := by decide
              have hz1 : (0 : Int32).toInt = 0 := by decide
              have hz2 : (-1 : Int32).toInt = -1 := by decide
              have hd := k_inc (i := j) (n := 200) (by omega)
              have hok := wr_5_0
              have hln : (kLn tl fx va).1.toInt = -1 := by rw [← hok.1]; omega
              rw [show 200 - g = (200 - (g + 1)) + 1 by omega, kLd_s (by omega) hln, ← hok.2 (by omega), ← ex_9] at g3
              rw [← ex_9] at hd
              exact ih x_9 u_r_5.1 u_r_5.2.1 u_r_5.2.2.1 u_r_5.2.2.2.1 u_r_5.2.2.2.2 vh (by omega) (by omega) (by have hq := wr_5_1; omega) ⟨g + 1, by omega, by omega, g3⟩ _ _ (hP.sub [2, 3, 0, 1] rfl) (hD.sub [2, 3, 0, 1] (by decide) rfl) hS ls (lv_sub hl [0, 1, 2, 3] rfl)
            · have t_46_7 := c_46_7
              try simp only [kb_eq0, kb_ne0, lg_cmp_lt, lg_cmp_le, lg_cmp_gt, lg_cmp_ge, lg_cmp_eq] at t_46_7
              try simp only [Int32.lt_iff_toInt_lt, Int32.le_iff_toInt_le, ← Int32.toInt_inj, Int64.lt_iff_toInt_lt, Int64.le_iff_toInt_le, ← Int64.toInt_inj, Int32.toInt_toInt64, Int32.reduceToInt, Int64.reduceToInt] at t_46_7
              refine lv_aload_n hx hb dX5_readLines_49 rfl (lv_at hl 1 rfl) ?_
              refine lv_aload_n hx hb dX5_readLines_50 rfl (lv_at hl 2 rfl) ?_
              refine kCallVd (wr := []) (va_runV (As := [.ref aS]) (rest := []) ⟨hx, hb, hml, hown, hts⟩ (g_keepLine l D cI cL cB cZ cT _ aX bX tl (u_r_5.1) (u_r_5.2.1) (u_r_5.2.2.1) (u_r_5.2.2.2.1) (u_r_5.2.2.2.2) fx aS bS vh) (cwV 1 hts gX5_readLines_X5_keepLine rfl rfl rfl (by decide +kernel) ⟨Nat.le_of_ble_eq_true rfl, Nat.le_of_ble_eq_true rfl⟩) (kPreV hG hP hD [2, 3, 0, 1] rfl (by decide) 0 5 rfl rfl rfl) rfl rfl hl.1 rfl (lv_room (Nat.le_of_ble_eq_true rfl)) dX5_readLines_51 ⟨Nat.le_of_ble_eq_true rfl, Nat.le_of_ble_eq_true rfl⟩) hA hP hD hS [2, 3, 0, 1] [] rfl rfl (by decide) (by decide) (fun _ u_r_10 H locs wr_10 hP hD hS => ?_)
              have hP : va_P D vwCl [(aX, .inr (5, [.ref bX, .int tl, .int u_r_5.1, .int u_r_5.2.1, .int u_r_5.2.2.1, .int u_r_5.2.2.2.1, .long u_r_5.2.2.2.2])), (bX, .inl (cB, 2000, .inl fx)), (aS, .inr (3, [.ref bS])), (bS, .inl (cI, 512, .inl u_r_10))] H := hP
              have hD : va_D A [(aX, .inr (5, [.ref bX, .int tl, .int u_r_5.1, .int u_r_5.2.1, .int u_r_5.2.2.1, .int u_r_5.2.2.2.1, .long u_r_5.2.2.2.2])), (bX, .inl (cB, 2000, .inl fx)), (aS, .inr (3, [.ref bS])), (bS, .inl (cI, 512, .inl u_r_10))] := hD
              try dsimp only at wr_10
              obtain ⟨x_11, ex_11⟩ : ∃ y : Int32, y = j + 1 := ⟨_, rfl⟩
              refine lv_iinc (v := x_11) (lv' := [(3, .int x_11), (0, .ref aX), (1, .ref aS), (2, .int z)]) hx hb dX5_readLines_54 hl (k := 0) rfl (by rw [ex_11]; rfl) (by decide) rfl (fun ls hl => ?_)
              refine lv_goto (tgt := 12) hx hb dX5_readLines_57 (by decide) ?_
              have hz0 : (200 : Int32).toInt = 200 := by decide
              have hz1 : (0 : Int32).toInt = 0 := by decide
              have hz2 : (-1 : Int32).toInt = -1 := by decide
              have hd := k_inc (i := j) (n := 200) (by omega)
              have hok := wr_5_0
              have hln : (kLn tl fx va).1.toInt = -1 := by rw [← hok.1]; omega
              rw [show 200 - g = (200 - (g + 1)) + 1 by omega, kLd_s (by omega) hln, ← hok.2 (by omega), ← ex_11] at g3
              rw [← ex_11] at hd
              exact ih x_11 u_r_5.1 u_r_5.2.1 u_r_5.2.2.1 u_r_5.2.2.2.1 u_r_5.2.2.2.2 u_r_10 (by omega) (by omega) (by have hq := wr_5_1; omega) ⟨g + 1, by omega, by omega, g3⟩ _ _ (hP.sub [0, 1, 2, 3] rfl) (hD.sub [0, 1, 2, 3] (by decide) rfl) hS ls (lv_sub hl [0, 1, 2, 3] rfl)
          · have t_40_6 := c_40_6
            try simp only [kb_eq0, kb_ne0, lg_cmp_lt, lg_cmp_le, lg_cmp_gt, lg_cmp_ge, lg_cmp_eq] at t_40_6
            try simp only [Int32.lt_iff_toInt_lt, Int32.le_iff_toInt_le, ← Int32.toInt_inj, Int64.lt_iff_toInt_lt, Int64.le_iff_toInt_le, ← Int64.toInt_inj, Int32.toInt_toInt64, Int32.reduceToInt, Int64.reduceToInt] at t_40_6
            refine lv_iload_n hx hb dX5_readLines_43 rfl (lv_at hl 0 rfl) ?_
            refine kIret (u := (u_r_5.1, u_r_5.2.1, u_r_5.2.2.1, u_r_5.2.2.2.1, u_r_5.2.2.2.2, vh)) hx hb hr rfl hlocks hS dX5_readLines_44 ?_ (hP.sub [2, 3, 0, 1] rfl) (hD.sub [2, 3, 0, 1] (by decide) rfl)
            try dsimp only
            have hok := wr_5_0
            refine ⟨fun h => absurd h (by omega), fun h => ?_⟩
            rw [← g3, show 200 - g = (200 - (g + 1)) + 1 by omega, hok.1]
            exact (kLd_w (by omega) (by rw [← hok.1]; omega)).symm
        · have t_27_3 := c_27_3
          try simp only [kb_eq0, kb_ne0, lg_cmp_lt, lg_cmp_le, lg_cmp_gt, lg_cmp_ge, lg_cmp_eq] at t_27_3
          try simp only [Int32.lt_iff_toInt_lt, Int32.le_iff_toInt_le, ← Int32.toInt_inj, Int64.lt_iff_toInt_lt, Int64.le_iff_toInt_le, ← Int64.toInt_inj, Int32.toInt_toInt64, Int32.reduceToInt, Int64.reduceToInt] at t_27_3
          refine lv_iload_n hx hb dX5_readLines_30 rfl (lv_at hl 0 rfl) ?_
          refine kIret (u := (vf, va, vd, vw, vv, vh)) hx hb hr rfl hlocks hS dX5_readLines_31 ?_ (hP.sub [0, 1, 2, 3] rfl) (hD.sub [0, 1, 2, 3] (by decide) rfl)
          try dsimp only
          refine ⟨fun _ => ?_, fun h => absurd hf1 h⟩
          rw [← g3]
          exact (kLd_o (by omega)).symm
  have hz0 : (200 : Int32).toInt = 200 := by decide
  have hz1 : (0 : Int32).toInt = 0 := by decide
  have hz2 : (-1 : Int32).toInt = -1 := by decide
  exact J12 _ 0 (-1) 0 td tw tv f (Nat.lt_succ_self _) (by omega) (by omega) ⟨0, by omega, by omega, rfl⟩ _ _ (hP.sub [0, 1, 2, 3] rfl) (hD.sub [0, 1, 2, 3] (by decide) rfl) hS ls (lv_sub hl [0, 1, 2, 3] rfl)
set_option maxRecDepth 100000 in
theorem iX7_load_X7 : ∀ w ∈ wsX70, w ∈ wsX7_load := fun w h => (goodIn_r (big := wsX7_load) wsX70 [83, 84, 85, 86, 87, 88, 89, 90, 91, 92, 93] rfl (by decide +kernel) w h).1
set_option maxRecDepth 100000 in
theorem iX7_load_X5 : ∀ w ∈ wsX50, w ∈ wsX7_load := fun w h => (goodIn_r (big := wsX7_load) wsX50 [94, 95, 96, 97, 98, 99, 100] rfl (by decide +kernel) w h).1
set_option maxRecDepth 100000 in
set_option maxHeartbeats 4000000 in
theorem g_load (l : Launch) (D : va_G) (cI cL cB cZ cT : ClassId) (sz : Nat) (h0 aS aA aU aX aW : Nat) (pl np li sw lst : Int32) (ad : Int64) (bS : Nat) (f : Nat → Int32) (bX : Nat) (tl tf ta td tw : Int32) (tv : Int64) (fx : Nat → Int32) (ht0 : 0 ≤ tl.toInt) (htl : tl.toInt ≤ 2000) : kM (S := (Int32 × Int32 × Int32 × Int32 × Int64 × (Nat → Int32))) l yX7_load wsX7_load ({ frames := 6, cells := 0, slots := 0, locals := 131 }) D (kT cI cL cB cZ cT) [.ref h0] [(h0, .inr (7, [.ref aS, .ref aA, .ref aU, .ref aX, .ref aW, .int pl, .int np, .int li, .int sw, .int lst, .long ad])), (aS, .inr (3, [.ref bS])), (bS, .inl (cI, 512, .inl f)), (aX, .inr (5, [.ref bX, .int tl, .int tf, .int ta, .int td, .int tw, .long tv])), (bX, .inl (cB, 2000, .inl fx))] sz eI (fun r u => r = kLd tl fx 200 0 0) (fun u => [(h0, .inr (7, [.ref aS, .ref aA, .ref aU, .ref aX, .ref aW, .int pl, .int np, .int li, .int sw, .int lst, .long ad])), (aS, .inr (3, [.ref bS])), (bS, .inl (cI, 512, .inl u.2.2.2.2.2)), (aX, .inr (5, [.ref bX, .int 0, .int u.1, .int u.2.1, .int u.2.2.1, .int u.2.2.2.1, .long u.2.2.2.2.1])), (bX, .inl (cB, 2000, .inl fx))]) 0 0 := by
  refine kStart (cc := cX7_load) (maxL := 2) (ret := (some .int)) (own := RX7) (by decide) rfl rfl (Nat.le_of_ble_eq_true rfl) ?_
  intro p e s m args below meth c A ls hx hb hr hml hown hts hlocks hnm hsz hA hG hP hD hS hl
  have hK := hG.1
  have hl : lv_has ls 2 [(0, .ref h0)] := hl
  refine lv_aload_n hx hb dX7_load_0 rfl (lv_at hl 0 rfl) ?_
  refine va_get (D := D) (ci := 7) (v := .ref aX) (C := RX7) (T := TX7) (N := 11) hx hb hts iX7_load_X7 hown hK hP 0 rfl rfl 3 (by decide) (hts (.fieldLink RX7 33 "TapeCalculator" "text" "LTapeCalculator$Text;") (List.mem_of_getElem? (i := 1) rfl)) (fun _ h9 => h9) rfl dX7_load_1 ?_
  refine lv_aload_n hx hb dX7_load_4 rfl (lv_at hl 0 rfl) ?_
  refine va_get (D := D) (ci := 7) (v := .ref aS) (C := RX7) (T := TX7) (N := 11) hx hb hts iX7_load_X7 hown hK hP 0 rfl rfl 0 (by decide) (hts (.fieldLink RX7 12 "TapeCalculator" "store" "LTapeCalculator$Store;") (List.mem_of_getElem? (i := 2) rfl)) (fun _ h9 => h9) rfl dX7_load_5 ?_
  refine lv_iconst (v := 0) hx hb dX7_load_8 (by decide) ?_
  refine kCallI (wr := [(h0, .inr (7, [.ref aS, .ref aA, .ref aU, .ref aX, .ref aW, .int pl, .int np, .int li, .int sw, .int lst, .long ad]))]) (va_runV (As := [.ref aS, .int 0]) (rest := []) ⟨hx, hb, hml, hown, hts⟩ (g_readLines l D cI cL cB cZ cT _ aX bX tl tf ta td tw tv fx aS bS f 0 ht0 htl) (cwV 2 hts gX7_load_X5_readLines rfl rfl rfl (by decide +kernel) ⟨Nat.le_of_ble_eq_true rfl, Nat.le_of_ble_eq_true rfl⟩) (kPreV hG hP hD [3, 4, 1, 2] rfl (by decide) 0 5 rfl rfl rfl) rfl rfl hl.1 rfl (lv_room (Nat.le_of_ble_eq_true rfl)) dX7_load_9 ⟨Nat.le_of_ble_eq_true rfl, Nat.le_of_ble_eq_true rfl⟩) hA hP hD hS [3, 4, 1, 2] [0] rfl rfl (by decide) (by decide) (fun r_1 u_r_1 H locs wr_1 hP hD hS => ?_)
  have hP : va_P D vwCl [(h0, .inr (7, [.ref aS, .ref aA, .ref aU, .ref aX, .ref aW, .int pl, .int np, .int li, .int sw, .int lst, .long ad])), (aX, .inr (5, [.ref bX, .int tl, .int u_r_1.1, .int u_r_1.2.1, .int u_r_1.2.2.1, .int u_r_1.2.2.2.1, .long u_r_1.2.2.2.2.1])), (bX, .inl (cB, 2000, .inl fx)), (aS, .inr (3, [.ref bS])), (bS, .inl (cI, 512, .inl u_r_1.2.2.2.2.2))] H := hP
  have hD : va_D A [(h0, .inr (7, [.ref aS, .ref aA, .ref aU, .ref aX, .ref aW, .int pl, .int np, .int li, .int sw, .int lst, .long ad])), (aX, .inr (5, [.ref bX, .int tl, .int u_r_1.1, .int u_r_1.2.1, .int u_r_1.2.2.1, .int u_r_1.2.2.2.1, .long u_r_1.2.2.2.2.1])), (bX, .inl (cB, 2000, .inl fx)), (aS, .inr (3, [.ref bS])), (bS, .inl (cI, 512, .inl u_r_1.2.2.2.2.2))] := hD
  try dsimp only at wr_1
  obtain ⟨wr_1_0, wr_1_1⟩ := wr_1
  refine lv_istore_n (lv' := [(1, .int r_1), (0, .ref h0)]) hx hb dX7_load_12 rfl hl (by decide) rfl (fun ls hl => ?_)
  refine lv_aload_n hx hb dX7_load_13 rfl (lv_at hl 1 rfl) ?_
  refine va_get (D := D) (ci := 7) (v := .ref aX) (C := RX7) (T := TX7) (N := 11) hx hb hts iX7_load_X7 hown hK hP 0 rfl rfl 3 (by decide) (hts (.fieldLink RX7 33 "TapeCalculator" "text" "LTapeCalculator$Text;") (List.mem_of_getElem? (i := 1) rfl)) (fun _ h9 => h9) rfl dX7_load_14 ?_
  refine kCallI (wr := [(h0, .inr (7, [.ref aS, .ref aA, .ref aU, .ref aX, .ref aW, .int pl, .int np, .int li, .int sw, .int lst, .long ad])), (aS, .inr (3, [.ref bS])), (bS, .inl (cI, 512, .inl u_r_1.2.2.2.2.2))]) (va_runV (As := []) (rest := []) ⟨hx, hb, hml, hown, hts⟩ (g_isFaulty l D cI cL cB cZ cT _ aX bX tl (u_r_1.1) (u_r_1.2.1) (u_r_1.2.2.1) (u_r_1.2.2.2.1) (u_r_1.2.2.2.2.1) fx) (cwV 0 hts gX7_load_X5_isFaulty rfl rfl rfl (by decide +kernel) ⟨Nat.le_of_ble_eq_true rfl, Nat.le_of_ble_eq_true rfl⟩) (kPreV hG hP hD [1, 2] rfl (by decide) 0 5 rfl rfl rfl) rfl rfl hl.1 rfl (lv_room (Nat.le_of_ble_eq_true rfl)) dX7_load_17 ⟨Nat.le_of_ble_eq_true rfl, Nat.le_of_ble_eq_true rfl⟩) hA hP hD hS [1, 2] [0, 3, 4] rfl rfl (by decide) (by decide) (fun r_2 u_r_2 H locs wr_2 hP hD hS => ?_)
  have hP : va_P D vwCl [(h0, .inr (7, [.ref aS, .ref aA, .ref aU, .ref aX, .ref aW, .int pl, .int np, .int li, .int sw, .int lst, .long ad])), (aS, .inr (3, [.ref bS])), (bS, .inl (cI, 512, .inl u_r_1.2.2.2.2.2)), (aX, .inr (5, [.ref bX, .int tl, .int u_r_1.1, .int u_r_1.2.1, .int u_r_1.2.2.1, .int u_r_1.2.2.2.1, .long u_r_1.2.2.2.2.1])), (bX, .inl (cB, 2000, .inl fx))] H := hP
  have hD : va_D A [(h0, .inr (7, [.ref aS, .ref aA, .ref aU, .ref aX, .ref aW, .int pl, .int np, .int li, .int sw, .int lst, .long ad])), (aS, .inr (3, [.ref bS])), (bS, .inl (cI, 512, .inl u_r_1.2.2.2.2.2)), (aX, .inr (5, [.ref bX, .int tl, .int u_r_1.1, .int u_r_1.2.1, .int u_r_1.2.2.1, .int u_r_1.2.2.2.1, .long u_r_1.2.2.2.2.1])), (bX, .inl (cB, 2000, .inl fx))] := hD
  try dsimp only at wr_2
  subst wr_2
  refine lv_if_eq (tgt := 37) hx hb dX7_load_20 (by decide) (fun c_20_2 => ?_) (fun c_20_2 => ?_)
  · have t_20_2 := c_20_2
    try simp only [kb_eq0, kb_ne0, lg_cmp_lt, lg_cmp_le, lg_cmp_gt, lg_cmp_ge, lg_cmp_eq] at t_20_2
    try simp only [Int32.lt_iff_toInt_lt, Int32.le_iff_toInt_le, ← Int32.toInt_inj, Int64.lt_iff_toInt_lt, Int64.le_iff_toInt_le, ← Int64.toInt_inj, Int32.toInt_toInt64, Int32.reduceToInt, Int64.reduceToInt] at t_20_2
    refine lv_aload_n hx hb dX7_load_37 rfl (lv_at hl 1 rfl) ?_
    refine va_get (D := D) (ci := 7) (v := .ref aX) (C := RX7) (T := TX7) (N := 11) hx hb hts iX7_load_X7 hown hK hP 0 rfl rfl 3 (by decide) (hts (.fieldLink RX7 33 "TapeCalculator" "text" "LTapeCalculator$Text;") (List.mem_of_getElem? (i := 1) rfl)) (fun _ h9 => h9) rfl dX7_load_38 ?_
    refine lv_aload_n hx hb dX7_load_41 rfl (lv_at hl 1 rfl) ?_
    refine va_get (D := D) (ci := 7) (v := .ref aS) (C := RX7) (T := TX7) (N := 11) hx hb hts iX7_load_X7 hown hK hP 0 rfl rfl 0 (by decide) (hts (.fieldLink RX7 12 "TapeCalculator" "store" "LTapeCalculator$Store;") (List.mem_of_getElem? (i := 2) rfl)) (fun _ h9 => h9) rfl dX7_load_42 ?_
    refine lv_iconst (v := 1) hx hb dX7_load_45 (by decide) ?_
    refine kCallI (wr := [(h0, .inr (7, [.ref aS, .ref aA, .ref aU, .ref aX, .ref aW, .int pl, .int np, .int li, .int sw, .int lst, .long ad]))]) (va_runV (As := [.ref aS, .int 1]) (rest := []) ⟨hx, hb, hml, hown, hts⟩ (g_readLines l D cI cL cB cZ cT _ aX bX tl (u_r_1.1) (u_r_1.2.1) (u_r_1.2.2.1) (u_r_1.2.2.2.1) (u_r_1.2.2.2.2.1) fx aS bS (u_r_1.2.2.2.2.2) 1 ht0 htl) (cwV 2 hts gX7_load_X5_readLines rfl rfl rfl (by decide +kernel) ⟨Nat.le_of_ble_eq_true rfl, Nat.le_of_ble_eq_true rfl⟩) (kPreV hG hP hD [3, 4, 1, 2] rfl (by decide) 0 5 rfl rfl rfl) rfl rfl hl.1 rfl (lv_room (Nat.le_of_ble_eq_true rfl)) dX7_load_46 ⟨Nat.le_of_ble_eq_true rfl, Nat.le_of_ble_eq_true rfl⟩) hA hP hD hS [3, 4, 1, 2] [0] rfl rfl (by decide) (by decide) (fun r_4 u_r_4 H locs wr_4 hP hD hS => ?_)
    have hP : va_P D vwCl [(h0, .inr (7, [.ref aS, .ref aA, .ref aU, .ref aX, .ref aW, .int pl, .int np, .int li, .int sw, .int lst, .long ad])), (aX, .inr (5, [.ref bX, .int tl, .int u_r_4.1, .int u_r_4.2.1, .int u_r_4.2.2.1, .int u_r_4.2.2.2.1, .long u_r_4.2.2.2.2.1])), (bX, .inl (cB, 2000, .inl fx)), (aS, .inr (3, [.ref bS])), (bS, .inl (cI, 512, .inl u_r_4.2.2.2.2.2))] H := hP
    have hD : va_D A [(h0, .inr (7, [.ref aS, .ref aA, .ref aU, .ref aX, .ref aW, .int pl, .int np, .int li, .int sw, .int lst, .long ad])), (aX, .inr (5, [.ref bX, .int tl, .int u_r_4.1, .int u_r_4.2.1, .int u_r_4.2.2.1, .int u_r_4.2.2.2.1, .long u_r_4.2.2.2.2.1])), (bX, .inl (cB, 2000, .inl fx)), (aS, .inr (3, [.ref bS])), (bS, .inl (cI, 512, .inl u_r_4.2.2.2.2.2))] := hD
    try dsimp only at wr_4
    obtain ⟨wr_4_0, wr_4_1⟩ := wr_4
    refine lv_pop hx hb dX7_load_49 rfl ?_
    refine lv_aload_n hx hb dX7_load_50 rfl (lv_at hl 1 rfl) ?_
    refine va_get (D := D) (ci := 7) (v := .ref aX) (C := RX7) (T := TX7) (N := 11) hx hb hts iX7_load_X7 hown hK hP 0 rfl rfl 3 (by decide) (hts (.fieldLink RX7 33 "TapeCalculator" "text" "LTapeCalculator$Text;") (List.mem_of_getElem? (i := 1) rfl)) (fun _ h9 => h9) rfl dX7_load_51 ?_
    refine lv_iconst (v := 0) hx hb dX7_load_54 (by decide) ?_
    refine va_put (D := D) (ci := 5) (v := .int 0) (ty := .int) (C := RX5) (T := TX5) (N := 7) hx hb hts iX7_load_X5 tyX5 tyX5_ok nmX5 hown hK hP hD hS 1 rfl rfl 1 (by decide) (hts (.fieldLink RX7 147 "TapeCalculator$Text" "length" "I") (List.mem_of_getElem? (i := 4) rfl)) (fun _ h9 => h9) rfl (by decide +kernel) rfl rfl (Nat.le_of_ble_eq_true rfl) dX7_load_55 (fun H locs hP hD hS => ?_)
    have hP : va_P D vwCl [(h0, .inr (7, [.ref aS, .ref aA, .ref aU, .ref aX, .ref aW, .int pl, .int np, .int li, .int sw, .int lst, .long ad])), (aX, .inr (5, [.ref bX, .int 0, .int u_r_4.1, .int u_r_4.2.1, .int u_r_4.2.2.1, .int u_r_4.2.2.2.1, .long u_r_4.2.2.2.2.1])), (bX, .inl (cB, 2000, .inl fx)), (aS, .inr (3, [.ref bS])), (bS, .inl (cI, 512, .inl u_r_4.2.2.2.2.2))] H := hP
    have hD : va_D A [(h0, .inr (7, [.ref aS, .ref aA, .ref aU, .ref aX, .ref aW, .int pl, .int np, .int li, .int sw, .int lst, .long ad])), (aX, .inr (5, [.ref bX, .int 0, .int u_r_4.1, .int u_r_4.2.1, .int u_r_4.2.2.1, .int u_r_4.2.2.2.1, .long u_r_4.2.2.2.2.1])), (bX, .inl (cB, 2000, .inl fx)), (aS, .inr (3, [.ref bS])), (bS, .inl (cI, 512, .inl u_r_4.2.2.2.2.2))] := hD
    refine lv_iload_n hx hb dX7_load_58 rfl (lv_at hl 0 rfl) ?_
    refine kIret (u := (u_r_4.1, u_r_4.2.1, u_r_4.2.2.1, u_r_4.2.2.2.1, u_r_4.2.2.2.2.1, u_r_4.2.2.2.2.2)) hx hb hr rfl hlocks hS dX7_load_59 ?_ (hP.sub [0, 3, 4, 1, 2] rfl) (hD.sub [0, 3, 4, 1, 2] (by decide) rfl)
    try dsimp only
    exact wr_1_0 (by omega)
  · have t_20_2 := c_20_2
    try simp only [kb_eq0, kb_ne0, lg_cmp_lt, lg_cmp_le, lg_cmp_gt, lg_cmp_ge, lg_cmp_eq] at t_20_2
    try simp only [Int32.lt_iff_toInt_lt, Int32.le_iff_toInt_le, ← Int32.toInt_inj, Int64.lt_iff_toInt_lt, Int64.le_iff_toInt_le, ← Int64.toInt_inj, Int32.toInt_toInt64, Int32.reduceToInt, Int64.reduceToInt] at t_20_2
    refine lv_bipush (v := (-10)) hx hb dX7_load_23 (by decide) ?_
    refine lv_aload_n hx hb dX7_load_25 rfl (lv_at hl 1 rfl) ?_
    refine va_get (D := D) (ci := 7) (v := .ref aX) (C := RX7) (T := TX7) (N := 11) hx hb hts iX7_load_X7 hown hK hP 0 rfl rfl 3 (by decide) (hts (.fieldLink RX7 33 "TapeCalculator" "text" "LTapeCalculator$Text;") (List.mem_of_getElem? (i := 1) rfl)) (fun _ h9 => h9) rfl dX7_load_26 ?_
    refine va_get (D := D) (ci := 5) (v := .int u_r_1.1) (C := RX5) (T := TX5) (N := 7) hx hb hts iX7_load_X5 hown hK hP 3 rfl rfl 2 (by decide) (hts (.fieldLink RX7 158 "TapeCalculator$Text" "fault" "I") (List.mem_of_getElem? (i := 3) rfl)) (fun _ h9 => h9) rfl dX7_load_29 ?_
    refine lv_isub hx hb dX7_load_32 ?_
    refine lv_topi (fun x_5 ex_5 => ?_)
    refine lv_istore_n (lv' := [(1, .int x_5), (0, .ref h0)]) hx hb dX7_load_33 rfl hl (by decide) rfl (fun ls hl => ?_)
    refine lv_goto (tgt := 50) hx hb dX7_load_34 (by decide) ?_
    refine lv_aload_n hx hb dX7_load_50 rfl (lv_at hl 1 rfl) ?_
    refine va_get (D := D) (ci := 7) (v := .ref aX) (C := RX7) (T := TX7) (N := 11) hx hb hts iX7_load_X7 hown hK hP 0 rfl rfl 3 (by decide) (hts (.fieldLink RX7 33 "TapeCalculator" "text" "LTapeCalculator$Text;") (List.mem_of_getElem? (i := 1) rfl)) (fun _ h9 => h9) rfl dX7_load_51 ?_
    refine lv_iconst (v := 0) hx hb dX7_load_54 (by decide) ?_
    refine va_put (D := D) (ci := 5) (v := .int 0) (ty := .int) (C := RX5) (T := TX5) (N := 7) hx hb hts iX7_load_X5 tyX5 tyX5_ok nmX5 hown hK hP hD hS 3 rfl rfl 1 (by decide) (hts (.fieldLink RX7 147 "TapeCalculator$Text" "length" "I") (List.mem_of_getElem? (i := 4) rfl)) (fun _ h9 => h9) rfl (by decide +kernel) rfl rfl (Nat.le_of_ble_eq_true rfl) dX7_load_55 (fun H locs hP hD hS => ?_)
    have hP : va_P D vwCl [(h0, .inr (7, [.ref aS, .ref aA, .ref aU, .ref aX, .ref aW, .int pl, .int np, .int li, .int sw, .int lst, .long ad])), (aS, .inr (3, [.ref bS])), (bS, .inl (cI, 512, .inl u_r_1.2.2.2.2.2)), (aX, .inr (5, [.ref bX, .int 0, .int u_r_1.1, .int u_r_1.2.1, .int u_r_1.2.2.1, .int u_r_1.2.2.2.1, .long u_r_1.2.2.2.2.1])), (bX, .inl (cB, 2000, .inl fx))] H := hP
    have hD : va_D A [(h0, .inr (7, [.ref aS, .ref aA, .ref aU, .ref aX, .ref aW, .int pl, .int np, .int li, .int sw, .int lst, .long ad])), (aS, .inr (3, [.ref bS])), (bS, .inl (cI, 512, .inl u_r_1.2.2.2.2.2)), (aX, .inr (5, [.ref bX, .int 0, .int u_r_1.1, .int u_r_1.2.1, .int u_r_1.2.2.1, .int u_r_1.2.2.2.1, .long u_r_1.2.2.2.2.1])), (bX, .inl (cB, 2000, .inl fx))] := hD
    refine lv_iload_n hx hb dX7_load_58 rfl (lv_at hl 0 rfl) ?_
    refine kIret (u := (u_r_1.1, u_r_1.2.1, u_r_1.2.2.1, u_r_1.2.2.2.1, u_r_1.2.2.2.2.1, u_r_1.2.2.2.2.2)) hx hb hr rfl hlocks hS dX7_load_59 ?_ (hP.sub [0, 1, 2, 3, 4] rfl) (hD.sub [0, 1, 2, 3, 4] (by decide) rfl)
    try dsimp only
    try subst ex_5
    exact wr_1_1 (by omega)
