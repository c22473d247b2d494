/-! ===== THE RACE: values ===== -/
theorem sub1_eq {a b : UInt64} (h : FP.dcmp a b = some .eq) : FP.dsub FP.dconst1 a = FP.dsub FP.dconst1 b := by
  obtain ⟨h1, h2⟩ := FP.Core.dcmp_some (show FP.Core.dcmp a b = some .eq from h)
  have hk := (FP.Core.dcmp_eq_key h1 h2).mp h
  have hz : FP.dsub FP.dconst1 0 = FP.dsub FP.dconst1 9223372036854775808 := by decide +kernel
  unfold FP.Core.dkey at hk
  have e0 : (2 : Nat) ^ 63 = 9223372036854775808 := by decide
  rw [e0] at hk
  by_cases ha : 9223372036854775808 ≤ a.toNat
  · rw [if_pos ha] at hk
    by_cases hb : 9223372036854775808 ≤ b.toNat
    · rw [if_pos hb] at hk
      rw [UInt64.toNat_inj.mp (show a.toNat = b.toNat by omega)]
    · rw [if_neg hb] at hk
      have za : a = 9223372036854775808 := UInt64.toNat_inj.mp (show a.toNat = 9223372036854775808 by omega)
      have zb : b = 0 := UInt64.toNat_inj.mp (show b.toNat = 0 by omega)
      rw [za, zb, hz]
  · rw [if_neg ha] at hk
    by_cases hb : 9223372036854775808 ≤ b.toNat
    · rw [if_pos hb] at hk
      have zb : b = 9223372036854775808 := UInt64.toNat_inj.mp (show b.toNat = 9223372036854775808 by omega)
      have za : a = 0 := UInt64.toNat_inj.mp (show a.toNat = 0 by omega)
      rw [za, zb, hz]
    · rw [if_neg hb] at hk
      rw [UInt64.toNat_inj.mp (show a.toNat = b.toNat by omega)]
/-- a value between 0 and 1, up to n small faults -/
def rB (n : Nat) (x : UInt64) : Prop := DF x ∧ -(((31 * n : Nat) : Int) * gr) ≤ zv x ∧ zv x ≤ (FP.Core.one64 : Int) + ((31 * n : Nat) : Int) * gr
theorem rB_mono_lin {O G z : Int} {n m : Nat} (hG : 0 < G) (h : n ≤ m) (h1 : -(((31 * n : Nat) : Int) * G) ≤ z) (h2 : z ≤ O + ((31 * n : Nat) : Int) * G) : -(((31 * m : Nat) : Int) * G) ≤ z ∧ z ≤ O + ((31 * m : Nat) : Int) * G := by
  have := Int.mul_le_mul_of_nonneg_right (show ((31 * n : Nat) : Int) ≤ ((31 * m : Nat) : Int) by omega) (Int.le_of_lt hG)
  exact ⟨by omega, by omega⟩
theorem rB_mono {n m : Nat} {x : UInt64} (h : n ≤ m) (H : rB n x) : rB m x := by
  obtain ⟨a, b⟩ := rB_mono_lin gr_posI h H.2.1 H.2.2
  exact ⟨H.1, a, b⟩
/-- what 1.0 - x is -/
def rU (n : Nat) (t : UInt64) : Prop := DF t ∧ -(((31 * n + 1 : Nat) : Int) * gr) ≤ zv t ∧ zv t ≤ (FP.Core.one64 : Int) + ((31 * n + 1 : Nat) : Int) * gr
theorem sub1_pre {O G z : Int} {n : Nat} (hG : 0 < G) (hOG : O = 1073741824 * G) (hn : n ≤ 10000) (h1 : -(((31 * n : Nat) : Int) * G) ≤ z) (h2 : z ≤ O + ((31 * n : Nat) : Int) * G) :
    O - z ≤ 5000 * O ∧ -(5000 * O) ≤ O - z ∧ ∀ t : Int, t ≤ O - z + G → O - z - G ≤ t → -(((31 * n + 1 : Nat) : Int) * G) ≤ t ∧ t ≤ O + ((31 * n + 1 : Nat) : Int) * G := by
  have b := Int.mul_le_mul_of_nonneg_right (show ((31 * n : Nat) : Int) ≤ 310000 by omega) (Int.le_of_lt hG)
  have c : ((31 * n + 1 : Nat) : Int) * G = ((31 * n : Nat) : Int) * G + G := by rw [Int.natCast_add, Int.add_mul]; simp
  generalize ((31 * n : Nat) : Int) * G = E at *
  exact ⟨by omega, by omega, fun t t1 t2 => ⟨by omega, by omega⟩⟩
theorem sub1_ok {n : Nat} {x : UInt64} (hn : n ≤ 10000) (H : rB n x) : rU n (FP.dsub FP.dconst1 x) := by
  obtain ⟨c1, c2⟩ := dconst1_zv
  obtain ⟨a1, a2, a3⟩ := sub1_pre gr_posI one_grI hn H.2.1 H.2.2
  rw [← c2] at a1 a2
  have a1' : zv FP.dconst1 - zv x ≤ 5000 * (FP.Core.one64 : Int) := by rw [← c2]; exact a1
  have a2' : -(5000 * (FP.Core.one64 : Int)) ≤ zv FP.dconst1 - zv x := by rw [← c2]; exact a2
  obtain ⟨d1, d2, d3⟩ := sub_err c1 H.1 a1' a2'
  rw [c2] at d2 d3
  obtain ⟨e1, e2⟩ := a3 _ d2 d3
  exact ⟨d1, e1, e2⟩
theorem om_lin {O G x o v : Int} (hO : 0 < O) (hG : 0 < G) (hOG : O = 1073741824 * G) (x0 : 0 ≤ x) (x1 : x ≤ 1000) (o0 : 0 ≤ o) (o3 : 1000 * o ≤ x * O + 1000 * G) (o4 : x * O - 1000 * G ≤ 1000 * o) (v0 : -(2 * O) ≤ v) (v1 : v ≤ 2 * O) :
    o * v ≤ 5000 * O * O ∧ -(5000 * O * O) ≤ o * v ∧ ∀ p : Int, p * O ≤ o * v + G * O → o * v - G * O ≤ p * O → 1000 * p ≤ x * v + 4000 * G ∧ x * v - 4000 * G ≤ 1000 * p := by
  obtain ⟨d, hd⟩ : ∃ d : Int, d = 1000 * o - x * O := ⟨_, rfl⟩
  have d1 : d ≤ 1000 * G := by omega
  have d2 : -(1000 * G) ≤ d := by omega
  have w0 : 0 ≤ v + 2 * O := by omega
  have w1 : v + 2 * O ≤ 4 * O := by omega
  have gO : 0 < G * O := Int.mul_pos hG hO
  -- d * v within 2000 G O
  have e1 : d * (v + 2 * O) ≤ 1000 * G * (v + 2 * O) := Int.mul_le_mul_of_nonneg_right d1 w0
  have e2 : -(1000 * G) * (v + 2 * O) ≤ d * (v + 2 * O) := Int.mul_le_mul_of_nonneg_right d2 w0
  have e3 : d * (2 * O - v) ≤ 1000 * G * (2 * O - v) := Int.mul_le_mul_of_nonneg_right d1 (by omega)
  have e4 : -(1000 * G) * (2 * O - v) ≤ d * (2 * O - v) := Int.mul_le_mul_of_nonneg_right d2 (by omega)
  have f1 : d * (v + 2 * O) = d * v + 2 * (d * O) := by rw [Int.mul_add, Int.mul_left_comm]
  have f2 : d * (2 * O - v) = 2 * (d * O) - d * v := by rw [Int.mul_sub, Int.mul_left_comm]
  have f3 : 1000 * G * (v + 2 * O) = 1000 * (G * v) + 2000 * (G * O) := by rw [Int.mul_assoc, Int.mul_add, Int.mul_left_comm G 2, Int.mul_add]; omega
  have f4 : 1000 * G * (2 * O - v) = 2000 * (G * O) - 1000 * (G * v) := by rw [Int.mul_assoc, Int.mul_sub, Int.mul_left_comm G 2, Int.mul_sub]; omega
  have f5 : -(1000 * G) * (v + 2 * O) = -(1000 * (G * v) + 2000 * (G * O)) := by rw [Int.neg_mul, f3]
  have f6 : -(1000 * G) * (2 * O - v) = -(2000 * (G * O) - 1000 * (G * v)) := by rw [Int.neg_mul, f4]
  rw [f1, f3] at e1
  rw [f1, f5] at e2
  rw [f2, f4] at e3
  rw [f2, f6] at e4
  have g1 : d * v ≤ 2000 * (G * O) := by omega
  have g2 : -(2000 * (G * O)) ≤ d * v := by omega
  have h1 : d * v = 1000 * (o * v) - x * v * O := by rw [hd, Int.sub_mul, Int.mul_assoc, Int.mul_right_comm]
  have x2 : x * (v + 2 * O) ≤ 1000 * (v + 2 * O) := Int.mul_le_mul_of_nonneg_right x1 w0
  have x3 : 0 ≤ x * (v + 2 * O) := Int.mul_nonneg x0 w0
  have x4 : x * (2 * O - v) ≤ 1000 * (2 * O - v) := Int.mul_le_mul_of_nonneg_right x1 (by omega)
  have x5 : 0 ≤ x * (2 * O - v) := Int.mul_nonneg x0 (by omega)
  have x6 : x * (v + 2 * O) = x * v + 2 * (x * O) := by rw [Int.mul_add, Int.mul_left_comm]
  have x7 : x * (2 * O - v) = 2 * (x * O) - x * v := by rw [Int.mul_sub, Int.mul_left_comm]
  have x8 : x * O ≤ 1000 * O := Int.mul_le_mul_of_nonneg_right x1 (Int.le_of_lt hO)
  have y1 : x * v ≤ 2000 * O := by omega
  have y2 : -(2000 * O) ≤ x * v := by omega
  have z1 : x * v * O ≤ 2000 * O * O := Int.mul_le_mul_of_nonneg_right y1 (Int.le_of_lt hO)
  have z2 : -(2000 * O) * O ≤ x * v * O := Int.mul_le_mul_of_nonneg_right y2 (Int.le_of_lt hO)
  have z3 : 2000 * O * O = 2000 * (O * O) := Int.mul_assoc _ _ _
  have z4 : -(2000 * O) * O = -(2000 * (O * O)) := by rw [Int.neg_mul, z3]
  have z5 : 5000 * O * O = 5000 * (O * O) := Int.mul_assoc _ _ _
  have q3 : G * O * 1073741824 = O * O := by rw [Int.mul_right_comm, Int.mul_comm G, ← hOG]
  generalize O * O = Z at *
  refine ⟨by omega, by omega, fun p p1 p2 => ?_⟩
  have a1 : (1000 * p) * O ≤ (x * v + 4000 * G) * O := by
    rw [Int.mul_assoc, Int.add_mul, Int.mul_assoc 4000]
    omega
  have a2 : (x * v - 4000 * G) * O ≤ (1000 * p) * O := by
    rw [Int.mul_assoc 1000, Int.sub_mul, Int.mul_assoc 4000]
    omega
  exact ⟨Int.le_of_mul_le_mul_right a1 hO, Int.le_of_mul_le_mul_right a2 hO⟩
theorem rU_two {O G z : Int} {n : Nat} (hG : 0 < G) (hOG : O = 1073741824 * G) (hn : n ≤ 10000) (h1 : -(((31 * n + 1 : Nat) : Int) * G) ≤ z) (h2 : z ≤ O + ((31 * n + 1 : Nat) : Int) * G) : -(2 * O) ≤ z ∧ z ≤ 2 * O := by
  have b := Int.mul_le_mul_of_nonneg_right (show ((31 * n + 1 : Nat) : Int) ≤ 310001 by omega) (Int.le_of_lt hG)
  generalize ((31 * n + 1 : Nat) : Int) * G = E at *
  exact ⟨by omega, by omega⟩
/-- ODD times such a value: what it may be, at most wk parts of a thousand -/
theorem odd_mulU {x n : Nat} (hx : x ≤ 1000) (hn : n ≤ 10000) {v : UInt64} (H : rU n v) : DF (FP.dmul (odW x) v) ∧ 1000 * zv (FP.dmul (odW x) v) ≤ x * ((FP.Core.one64 : Int) + ((31 * n + 1 : Nat) : Int) * gr) + 4000 * gr ∧ 1000 * -zv (FP.dmul (odW x) v) ≤ x * (((31 * n + 1 : Nat) : Int) * gr) + 4000 * gr := by
  obtain ⟨o1, o2, o3, o4⟩ := odW_zv hx
  obtain ⟨v1, v2⟩ := rU_two gr_posI one_grI hn H.2.1 H.2.2
  obtain ⟨a1, a2, a3⟩ := om_lin one_posI gr_posI one_grI (x := (x : Int)) (by omega) (by omega) o2 o3 o4 v1 v2
  obtain ⟨r1, r2, r3⟩ := mul_err o1 H.1 a1 a2
  obtain ⟨b1, b2⟩ := a3 _ r2 r3
  have c1 := Int.mul_le_mul_of_nonneg_left H.2.2 (show (0 : Int) ≤ (x : Int) by omega)
  have c2 := Int.mul_le_mul_of_nonneg_left H.2.1 (show (0 : Int) ≤ (x : Int) by omega)
  rw [Int.mul_neg] at c2
  refine ⟨r1, Int.le_trans b1 (Int.add_le_add_right c1 _), ?_⟩
  rw [Int.mul_neg]
  omega
/-- behind k FALLS of AIM a: the sum of what is sure, and what stays -/
def rcS (o sd rg : Nat) (V : Nat → UInt64) (r a : Nat) : Nat → UInt64 × Nat
  | 0 => (FP.dconst0, 0)
  | k + 1 => match nxN o r (fS (5 * a + k)) with
    | none => ((rcS o sd rg V r a k).1, (rcS o sd rg V r a k).2 + wtN sd rg (5 * a + k))
    | some d => if fS (5 * a + k) = 0 then ((rcS o sd rg V r a k).1, (rcS o sd rg V r a k).2 + wtN sd rg (5 * a + k))
      else if d = 0 then (FP.dadd (rcS o sd rg V r a k).1 (odW (wtN sd rg (5 * a + k))), (rcS o sd rg V r a k).2)
      else (FP.dadd (rcS o sd rg V r a k).1 (FP.dmul (odW (wtN sd rg (5 * a + k))) (FP.dsub FP.dconst1 (V d))), (rcS o sd rg V r a k).2)
theorem rcS_congr {o sd rg r a : Nat} {V V' : Nat → UInt64} (h : ∀ d, d < r → leN o ≤ d → V d = V' d) (ha : a < 63) : ∀ k, k ≤ fC a → rcS o sd rg V r a k = rcS o sd rg V' r a k
  | 0, _ => rfl
  | k + 1, hk => by
    have hc := fC_le a
    have ih := rcS_congr (o := o) (sd := sd) (rg := rg) (r := r) (a := a) h ha k (by omega)
    simp only [rcS]
    rw [ih]
    cases hx : nxN o r (fS (5 * a + k)) with
    | none => rfl
    | some d =>
      by_cases h0 : fS (5 * a + k) = 0
      · simp only [h0, if_true]
      · by_cases hd : d = 0
        · simp only [if_neg h0, if_pos hd]
        · simp only [if_neg h0, if_neg hd]
          obtain ⟨e1, e2, e3⟩ := nxN_eq hx
          have h63 := fS_lt (5 * a + k) (by omega)
          have hs : 0 < scN (fS (5 * a + k)) := by
            have : ∀ s, s < 63 → s ≠ 0 → 0 < scN s := by decide
            exact this _ h63 h0
          rw [h d (by omega) (by unfold leN; split <;> omega)]
theorem rcS_up {G z p s Q : Int} {k W t wk : Nat} (ht : t ≤ W) (hz : 1000 * z ≤ ((W - t : Nat) : Int) * Q + k * (5000 * G)) (hp : 1000 * p ≤ wk * Q + 4000 * G) (hs : s ≤ z + p + G) :
    1000 * s ≤ ((W + wk - t : Nat) : Int) * Q + ((k + 1 : Nat) : Int) * (5000 * G) := by
  have b2 : ((W + wk - t : Nat) : Int) * Q = ((W - t : Nat) : Int) * Q + wk * Q := by
    rw [← Int.add_mul]
    exact congrArg (fun q : Int => q * Q) (by omega)
  have b4 : ((k + 1 : Nat) : Int) * (5000 * G) = k * (5000 * G) + 5000 * G := by rw [Int.natCast_add, Int.add_mul]; simp
  omega
theorem rcS_st {G z Q : Int} {k W t wk : Nat} (hG : 0 < G) (hz : 1000 * z ≤ ((W - t : Nat) : Int) * Q + k * (5000 * G)) :
    1000 * z ≤ ((W + wk - (t + wk) : Nat) : Int) * Q + ((k + 1 : Nat) : Int) * (5000 * G) := by
  rw [show W + wk - (t + wk) = W - t by omega]
  have b4 : ((k + 1 : Nat) : Int) * (5000 * G) = k * (5000 * G) + 5000 * G := by rw [Int.natCast_add, Int.add_mul]; simp
  omega
theorem rc_rng {O G z Q : Int} {k W : Nat} (hG : 0 < G) (hOG : O = 1073741824 * G) (hW : W ≤ 1000) (hk : k ≤ 5) (q0 : 0 ≤ Q) (q1 : Q ≤ 2 * O) (hz : 1000 * z ≤ (W : Int) * Q + k * (5000 * G)) : z ≤ 3 * O := by
  have b1 : (W : Int) * Q ≤ 1000 * Q := Int.mul_le_mul_of_nonneg_right (by omega) q0
  have b5 : ((k : Nat) : Int) * (5000 * G) ≤ 5 * (5000 * G) := Int.mul_le_mul_of_nonneg_right (by omega) (by omega)
  omega
theorem rc_q {O G : Int} {n : Nat} (hG : 0 < G) (hOG : O = 1073741824 * G) (hn : n ≤ 10000) : 0 ≤ ((31 * n + 1 : Nat) : Int) * G ∧ ((31 * n + 1 : Nat) : Int) * G ≤ 2 * O ∧ 0 ≤ O + ((31 * n + 1 : Nat) : Int) * G ∧ O + ((31 * n + 1 : Nat) : Int) * G ≤ 2 * O := by
  have b := Int.mul_le_mul_of_nonneg_right (show ((31 * n + 1 : Nat) : Int) ≤ 310001 by omega) (Int.le_of_lt hG)
  have c : 0 ≤ ((31 * n + 1 : Nat) : Int) * G := Int.mul_nonneg (by omega) (Int.le_of_lt hG)
  generalize ((31 * n + 1 : Nat) : Int) * G = E at *
  exact ⟨by omega, by omega, by omega, by omega⟩
theorem rc_add {O z p : Int} (hO : 0 < O) (a1 : z ≤ 3 * O) (a2 : -z ≤ 3 * O) (b1 : p ≤ 3 * O) (b2 : -p ≤ 3 * O) : z + p ≤ 5000 * O ∧ -(5000 * O) ≤ z + p := ⟨by omega, by omega⟩
theorem rc_one {O G p : Int} {x n : Nat} (hG : 0 < G) (p0 : 0 ≤ p) (h : 1000 * p ≤ x * O + 1000 * G) : 1000 * p ≤ x * (O + ((31 * n + 1 : Nat) : Int) * G) + 4000 * G ∧ 1000 * -p ≤ x * (((31 * n + 1 : Nat) : Int) * G) + 4000 * G := by
  have c : 0 ≤ (x : Int) * (((31 * n + 1 : Nat) : Int) * G) := Int.mul_nonneg (by omega) (Int.mul_nonneg (by omega) (Int.le_of_lt hG))
  rw [Int.mul_add]
  exact ⟨by omega, by omega⟩
theorem rc_neg {z p s G : Int} (h : z + p - G ≤ s) : -s ≤ -z + -p + G := by omega
theorem rc_0 {G Q : Int} (z : Int) (hz : z = 0) : 1000 * z ≤ ((0 - 0 : Nat) : Int) * Q + ((0 : Nat) : Int) * (5000 * G) := by subst hz; simp
theorem rc_p {G Q p : Int} {x : Nat} (h : 1000 * p ≤ x * Q + 4000 * G) (hG : 0 < G) : 1000 * p ≤ (x : Int) * Q + ((1 : Nat) : Int) * (5000 * G) := by omega
theorem rcS_ok {o sd rg r a n : Nat} {V : Nat → UInt64} (hs : sd ≤ 200) (hr : rg ≤ 200) (h1 : 1 ≤ a) (h2 : a < 63) (hn : n ≤ 10000)
    (hV : ∀ d, d < r → leN o ≤ d → rB n (V d)) : ∀ k, k ≤ fC a →
    DF (rcS o sd rg V r a k).1 ∧ (rcS o sd rg V r a k).2 ≤ wTo sd rg a k ∧
    1000 * zv (rcS o sd rg V r a k).1 ≤ ((wTo sd rg a k - (rcS o sd rg V r a k).2 : Nat) : Int) * ((FP.Core.one64 : Int) + ((31 * n + 1 : Nat) : Int) * gr) + k * (5000 * gr) ∧
    1000 * -zv (rcS o sd rg V r a k).1 ≤ ((wTo sd rg a k - (rcS o sd rg V r a k).2 : Nat) : Int) * (((31 * n + 1 : Nat) : Int) * gr) + k * (5000 * gr)
  | 0, _ => by
    obtain ⟨e1, e2⟩ := dconst0_zv
    exact ⟨e1, Nat.le_refl _, rc_0 (zv FP.dconst0) e2, rc_0 (-zv FP.dconst0) (by rw [e2]; rfl)⟩
  | k + 1, hk => by
    have hc := fC_le a
    obtain ⟨i1, i2, i3, i4⟩ := rcS_ok (o := o) (V := V) hs hr h1 h2 hn hV k (by omega)
    have hw := wt_le (sd := sd) (rg := rg) (q := 5 * a + k) hs hr (by omega)
    have hall := wTo_all hs hr h1 h2
    have hmono := wTo_mono sd rg a (k := k + 1) (j := fC a) (by omega)
    have hw2 : wTo sd rg a (k + 1) = wTo sd rg a k + wtN sd rg (5 * a + k) := rfl
    obtain ⟨m1, m2, m3, m4⟩ := rc_q gr_posI one_grI hn
    have z1 := rc_rng gr_posI one_grI (by omega) (by omega) m3 m4 i3
    have z2 := rc_rng gr_posI one_grI (by omega) (by omega) m1 m2 i4
    rw [hw2] at hmono ⊢
    simp only [rcS]
    cases hx : nxN o r (fS (5 * a + k)) with
    | none => exact ⟨i1, Nat.add_le_add_right i2 _, rcS_st gr_posI i3, rcS_st gr_posI i4⟩
    | some d =>
      by_cases hf0 : fS (5 * a + k) = 0
      · simp only [hf0, if_true]
        exact ⟨i1, Nat.add_le_add_right i2 _, rcS_st gr_posI i3, rcS_st gr_posI i4⟩
      · have key : ∀ p : UInt64, DF p → 1000 * zv p ≤ ((wtN sd rg (5 * a + k) : Nat) : Int) * ((FP.Core.one64 : Int) + ((31 * n + 1 : Nat) : Int) * gr) + 4000 * gr → 1000 * -zv p ≤ ((wtN sd rg (5 * a + k) : Nat) : Int) * (((31 * n + 1 : Nat) : Int) * gr) + 4000 * gr →
            DF (FP.dadd (rcS o sd rg V r a k).1 p) ∧ (rcS o sd rg V r a k).2 ≤ wTo sd rg a k + wtN sd rg (5 * a + k) ∧
            1000 * zv (FP.dadd (rcS o sd rg V r a k).1 p) ≤ ((wTo sd rg a k + wtN sd rg (5 * a + k) - (rcS o sd rg V r a k).2 : Nat) : Int) * ((FP.Core.one64 : Int) + ((31 * n + 1 : Nat) : Int) * gr) + ((k + 1 : Nat) : Int) * (5000 * gr) ∧
            1000 * -zv (FP.dadd (rcS o sd rg V r a k).1 p) ≤ ((wTo sd rg a k + wtN sd rg (5 * a + k) - (rcS o sd rg V r a k).2 : Nat) : Int) * (((31 * n + 1 : Nat) : Int) * gr) + ((k + 1 : Nat) : Int) * (5000 * gr) := by
          intro p p1 p2 p3
          have y1 := rc_rng gr_posI one_grI (k := 1) hw (by decide) m3 m4 (rc_p p2 gr_posI)
          have y2 := rc_rng gr_posI one_grI (k := 1) hw (by decide) m1 m2 (rc_p p3 gr_posI)
          obtain ⟨w1, w2⟩ := rc_add one_posI z1 z2 y1 y2
          obtain ⟨s1, s2, s3⟩ := add_err i1 p1 w1 w2
          exact ⟨s1, by omega, rcS_up i2 i3 p2 s2, rcS_up i2 i4 p3 (rc_neg s3)⟩
        obtain ⟨e1, e2, e3⟩ := nxN_eq hx
        have h63 := fS_lt (5 * a + k) (by omega)
        have hsc : 0 < scN (fS (5 * a + k)) := by
          have : ∀ s, s < 63 → s ≠ 0 → 0 < scN s := by decide
          exact this _ h63 hf0
        by_cases hd : d = 0
        · simp only [if_neg hf0, if_pos hd]
          obtain ⟨o1, o2, o3, o4⟩ := odW_zv hw
          obtain ⟨q1, q2⟩ := rc_one (n := n) gr_posI o2 o3
          exact key _ o1 q1 q2
        · simp only [if_neg hf0, if_neg hd]
          obtain ⟨u1, u2, u3⟩ := odd_mulU hw hn (sub1_ok hn (hV d (by omega) (by unfold leN; split <;> omega)))
          exact key _ u1 u2 u3
/-- the value of what is sure and what stays, the other's value being y -/
def vlN (z : UInt64 × Nat) (y : UInt64) : UInt64 := FP.dadd z.1 (FP.dmul (odW z.2) (FP.dsub FP.dconst1 y))
/-- no NaN on the way -/
def vOK (z : UInt64 × Nat) (y : UInt64) : Prop := DF (FP.dsub FP.dconst1 y) ∧ DF (FP.dmul (odW z.2) (FP.dsub FP.dconst1 y)) ∧ DF (vlN z y)
theorem vl_fin {O G s z p Q : Int} {k W t : Nat} (hk : k ≤ 5) (hG : 0 < G) (ht : t ≤ W) (hW : W = 1000) (hz : 1000 * z ≤ ((W - t : Nat) : Int) * Q + k * (5000 * G)) (hp : 1000 * p ≤ t * Q + 4000 * G) (hs : s ≤ z + p + G) : s ≤ Q + 30 * G := by
  have h := rcS_up (W := W) (t := t) (wk := t) (k := k) ht hz hp hs
  rw [show W + t - t = 1000 by omega] at h
  have b5 : ((k + 1 : Nat) : Int) * (5000 * G) ≤ 6 * (5000 * G) := Int.mul_le_mul_of_nonneg_right (by omega) (by omega)
  omega
theorem vl_out {O G s : Int} {n : Nat} (h1 : s ≤ O + ((31 * n + 1 : Nat) : Int) * G + 30 * G) (h2 : -s ≤ ((31 * n + 1 : Nat) : Int) * G + 30 * G) : -(((31 * (n + 1) : Nat) : Int) * G) ≤ s ∧ s ≤ O + ((31 * (n + 1) : Nat) : Int) * G := by
  have e : ((31 * (n + 1) : Nat) : Int) * G = ((31 * n + 1 : Nat) : Int) * G + 30 * G := by
    rw [← Int.add_mul]
    exact congrArg (fun q : Int => q * G) (by omega)
  rw [e]
  exact ⟨by omega, by omega⟩
theorem vl_ok {o sd rg r a n : Nat} {V : Nat → UInt64} {y : UInt64} (hs : sd ≤ 200) (hr : rg ≤ 200) (h1 : 1 ≤ a) (h2 : a < 63) (hn : n ≤ 10000)
    (hV : ∀ d, d < r → leN o ≤ d → rB n (V d)) (hy : rB n y) : vOK (rcS o sd rg V r a (fC a)) y ∧ rB (n + 1) (vlN (rcS o sd rg V r a (fC a)) y) ∧ (rcS o sd rg V r a (fC a)).2 ≤ 1000 := by
  obtain ⟨i1, i2, i3, i4⟩ := rcS_ok (o := o) (V := V) hs hr h1 h2 hn hV (fC a) (Nat.le_refl _)
  have hall := wTo_all hs hr h1 h2
  have hc := fC_le a
  have ht : (rcS o sd rg V r a (fC a)).2 ≤ 1000 := by omega
  have hu := sub1_ok hn hy
  obtain ⟨u1, u2, u3⟩ := odd_mulU ht hn hu
  obtain ⟨m1, m2, m3, m4⟩ := rc_q gr_posI one_grI hn
  have z1 := rc_rng gr_posI one_grI (by omega) (by omega) m3 m4 i3
  have z2 := rc_rng gr_posI one_grI (by omega) (by omega) m1 m2 i4
  have y1 := rc_rng gr_posI one_grI (k := 1) ht (by decide) m3 m4 (rc_p u2 gr_posI)
  have y2 := rc_rng gr_posI one_grI (k := 1) ht (by decide) m1 m2 (rc_p u3 gr_posI)
  obtain ⟨w1, w2⟩ := rc_add one_posI z1 z2 y1 y2
  obtain ⟨s1, s2, s3⟩ := add_err i1 u1 w1 w2
  have b1 := vl_fin (O := FP.Core.one64) hc gr_posI i2 hall i3 u2 s2
  have b2 := vl_fin (O := FP.Core.one64) hc gr_posI i2 hall i4 u3 (rc_neg s3)
  obtain ⟨c1, c2⟩ := vl_out b1 b2
  exact ⟨⟨hu.1, u1, s1⟩, ⟨s1, c1, c2⟩, ht⟩
/-- the sweeps of a pair of rests: what is sure and what stays of both, by AIM -/
def swA (Z : Nat → UInt64 × Nat) (y : UInt64) : Nat × UInt64 := csel (fun a => vlN (Z a) y) 61
def swV (Z : Nat → UInt64 × Nat) (y : UInt64) : UInt64 := vlN (Z (swA Z y).1) y
def half : UInt64 := 4602678819172646912
def swN (Z0 Z1 : Nat → UInt64 × Nat) : Nat → UInt64 × UInt64
  | 0 => (half, half)
  | i + 1 => (swV Z0 (swN Z0 Z1 i).2, swV Z1 (swV Z0 (swN Z0 Z1 i).2))
def deq (x y : UInt64) : Bool := decide (FP.dcmp x y = some .eq)
theorem deq_rfl {x : UInt64} (h : DF x) : deq x x = true := decide_eq_true (FP.Core.dcmp_self h.ne_nan)
theorem swV_eq {Z : Nat → UInt64 × Nat} {y y' : UInt64} (h : deq y y' = true) : swV Z y = swV Z y' := by
  have e := sub1_eq (of_decide_eq_true h)
  have e2 : ∀ z : UInt64 × Nat, vlN z y = vlN z y' := fun z => by unfold vlN; rw [e]
  unfold swV swA
  simp only [e2]
def swS (Z0 Z1 : Nat → UInt64 × Nat) (i : Nat) : Bool := deq (swN Z0 Z1 (i + 1)).1 (swN Z0 Z1 i).1 && deq (swN Z0 Z1 (i + 1)).2 (swN Z0 Z1 i).2
/-- a sweep that leaves both as they were is what each later one does -/
theorem swN_still {Z0 Z1 : Nat → UInt64 × Nat} {i : Nat} (h : swS Z0 Z1 i = true) : ∀ j, i + 1 ≤ j → swN Z0 Z1 j = swN Z0 Z1 (i + 1) := by
  have h2 := (Bool.and_eq_true_iff.mp h).2
  intro j hj
  induction hj with
  | refl => rfl
  | step hj ih =>
    rename_i m
    show (swV Z0 (swN Z0 Z1 m).2, swV Z1 (swV Z0 (swN Z0 Z1 m).2)) = _
    rw [ih, swV_eq h2]
    rfl
/-- one pair of rests: X, Y, both AIMS, whether it settled -/
def rcW (o : Nat) (H : Nat → Nat × Nat) (V0 V1 : Nat → UInt64) (r q : Nat) : UInt64 × UInt64 × Nat × Nat × Bool :=
  let Z0 := fun a => rcS o (H 0).1 (H 0).2 V0 r a (fC a)
  let Z1 := fun a => rcS o (H 1).1 (H 1).2 V1 q a (fC a)
  ((swN Z0 Z1 12).1, (swN Z0 Z1 12).2, (swA Z0 (swN Z0 Z1 12).2).1, (swA Z1 (swN Z0 Z1 12).1).1, swS Z0 Z1 11)
def rcT (o : Nat) (H : Nat → Nat × Nat) : Nat → Nat → Nat → UInt64 × UInt64 × Nat × Nat × Bool
  | 0, _, _ => (half, half, 0, 0, false)
  | n + 1, r, q => rcW o H (fun d => (rcT o H n d q).2.1) (fun d => (rcT o H n r d).1) r q
def rcV (o : Nat) (H : Nat → Nat × Nat) (r q : Nat) : UInt64 × UInt64 × Nat × Nat × Bool := rcT o H (r + q + 1) r q
