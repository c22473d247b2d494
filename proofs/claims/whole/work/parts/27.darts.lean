/-! ===== DARTS: the least darts from a rest ===== -/
def K1000 : UInt64 := 4652007308841189376
theorem K1000_is : FP.i2d (nI 1000) = K1000 := by decide +kernel
theorem K1000_zv : DF K1000 ∧ zv K1000 = 1000 * (FP.Core.one64 : Int) := by
  rw [← K1000_is]
  have := i2d_zv (n := 1000) (by decide)
  exact this
/-- the ODD of a WEIGHT -/
def odW (x : Nat) : UInt64 := FP.ddiv (FP.i2d (nI x)) K1000
theorem odd_div {O G q x : Int} (hO : 0 < O) (h1 : q * (1000 * O) ≤ x * O * O + G * (1000 * O)) (h2 : x * O * O - G * (1000 * O) ≤ q * (1000 * O)) : 1000 * q ≤ x * O + 1000 * G ∧ x * O - 1000 * G ≤ 1000 * q := by
  have e1 : q * (1000 * O) = 1000 * q * O := by rw [← Int.mul_assoc, Int.mul_comm q]
  have e2 : (x * O + 1000 * G) * O = x * O * O + G * (1000 * O) := by rw [Int.add_mul, ← Int.mul_assoc, Int.mul_comm G 1000]
  have e3 : (x * O - 1000 * G) * O = x * O * O - G * (1000 * O) := by rw [Int.sub_mul, ← Int.mul_assoc, Int.mul_comm G 1000]
  exact ⟨Int.le_of_mul_le_mul_right (by omega) hO, Int.le_of_mul_le_mul_right (by omega) hO⟩
theorem odd_pre {O x : Int} (hO : 0 < O) (h0 : 0 ≤ x) (h1 : x ≤ 1000) : 0 ≤ x * O ∧ x * O ≤ 5000 * (1000 * O) ∧ 0 < 1000 * O := by
  have a := Int.mul_nonneg h0 (Int.le_of_lt hO)
  have b := Int.mul_le_mul_of_nonneg_right h1 (Int.le_of_lt hO)
  exact ⟨a, by omega, by omega⟩
theorem odW_zv {x : Nat} (hx : x ≤ 1000) : DF (odW x) ∧ 0 ≤ zv (odW x) ∧ 1000 * zv (odW x) ≤ x * (FP.Core.one64 : Int) + 1000 * gr ∧ x * (FP.Core.one64 : Int) - 1000 * gr ≤ 1000 * zv (odW x) := by
  obtain ⟨i1, i2⟩ := i2d_zv (n := x) (by omega)
  obtain ⟨k1, k2⟩ := K1000_zv
  obtain ⟨a1, a2, a3⟩ := odd_pre (x := (x : Int)) one_posI (by omega) (by omega)
  obtain ⟨d1, d2, d3, d4⟩ := div_err i1 k1 (by rw [i2]; exact a1) (by rw [k2]; exact a3) (by rw [i2, k2]; exact a2)
  have e : FP.ddiv (FP.i2d (nI x)) K1000 = odW x := rfl
  rw [e, i2, k2] at d2 d3
  rw [e] at d1 d4
  exact ⟨d1, d4, odd_div one_posI d2 d3⟩
theorem zero_datum : FP.Core.zval FP.Core.b64 (.fin false 0 FP.Core.b64.qmin) = 0 := by
  show FP.Core.signed false (FP.Core.inUnits 0 _ _) = 0
  unfold FP.Core.inUnits
  simp [FP.Core.signed]
/-- adding nothing below 0 makes no less; products of such are such -/
theorem add_ge {a b : UInt64} (ha : DF a) (hb : DF b) (h : 0 ≤ zv b) : zv a ≤ zv (FP.dadd a b) := by
  have ev : zv (FP.dadd a b) = FP.Core.zval FP.Core.b64 (FP.Core.round FP.Core.b64 (FP.Core.exactSum (FP.Core.val64 a) (FP.Core.val64 b))) := by
    unfold zv; rw [← FP.Core.val64_dadd]
  rw [ev]
  exact FP.Core.sum_ge FP.Core.good_b64 (V := FP.Core.val64 a) ha hb (FP.Core.val64_fits a) (FP.Core.val64_fits b) (FP.Core.val64_fits a) ha.ne_nan (by unfold zv at h; omega)
theorem mul_ge {a b : UInt64} (ha : DF a) (hb : DF b) (h1 : 0 ≤ zv a) (h2 : 0 ≤ zv b) : 0 ≤ zv (FP.dmul a b) := by
  have h3 := Int.mul_nonneg h1 h2
  obtain ⟨s, c, q, hva⟩ := ha
  obtain ⟨t, d, r, hvb⟩ := hb
  have fa := FP.Core.val64_fits a
  have fb := FP.Core.val64_fits b
  rw [hva] at fa
  rw [hvb] at fb
  obtain ⟨p1, p2, p3⟩ := FP.Core.product_units fa fb
  have ez : zv a * zv b = FP.Core.signed (s != t) (FP.Core.inUnits (c * d) (q + r) (2 * FP.Core.b64.qmin)) := by
    unfold zv
    rw [hva, hvb, p3, signed_mul2]
    rfl
  have hq := FP.Core.qmin_neg FP.Core.good_b64
  have ev : zv (FP.dmul a b) = FP.Core.zval FP.Core.b64 (FP.Core.round FP.Core.b64 (.fin (s != t) (c * d) (q + r))) := by
    unfold zv
    rw [show FP.dmul a b = FP.Core.dmul a b from rfl, FP.Core.val64_dmul, hva, hvb, p1]
  have := FP.Core.zval_round_ge FP.Core.good_b64 (V := .fin false 0 FP.Core.b64.qmin) (s := s != t) (c := c * d) (q := q + r) (e0 := 2 * FP.Core.b64.qmin) (FP.Core.zero_fits FP.Core.good_b64 false) (fun q => by cases q) (by omega) p2 (by rw [zero_datum, Int.zero_mul, ← ez]; exact h3)
  rw [zero_datum] at this
  rw [ev]
  exact this
/-- ODD times a value of at most B -/
theorem odd_lin {O G x o v : Int} (hO : 0 < O) (hG : 0 < G) (hOG : O = 1073741824 * G) (x0 : 0 ≤ x) (x1 : x ≤ 1000) (o0 : 0 ≤ o) (o3 : 1000 * o ≤ x * O + 1000 * G) (o4 : x * O - 1000 * G ≤ 1000 * o) (v0 : 0 ≤ v) (v1 : v ≤ 3100 * O) :
    o * v ≤ 5000 * O * O ∧ -(5000 * O * O) ≤ o * v ∧ ∀ p : Int, p * O ≤ o * v + G * O → o * v - G * O ≤ p * O → 1000 * p ≤ x * v + 3101000 * G ∧ x * v - 3101000 * G ≤ 1000 * p := by
  have m1 : 1000 * o * v ≤ (x * O + 1000 * G) * v := Int.mul_le_mul_of_nonneg_right o3 v0
  have m2 : (x * O - 1000 * G) * v ≤ 1000 * o * v := Int.mul_le_mul_of_nonneg_right o4 v0
  have e1 : (x * O + 1000 * G) * v = x * v * O + 1000 * (G * v) := by rw [Int.add_mul, Int.mul_assoc, Int.mul_comm O, ← Int.mul_assoc, Int.mul_assoc 1000]
  have e2 : (x * O - 1000 * G) * v = x * v * O - 1000 * (G * v) := by rw [Int.sub_mul, Int.mul_assoc, Int.mul_comm O, ← Int.mul_assoc, Int.mul_assoc 1000]
  have e3 : G * v ≤ 3100 * (G * O) := by
    have := Int.mul_le_mul_of_nonneg_left v1 (Int.le_of_lt hG)
    rw [← Int.mul_assoc, Int.mul_comm G 3100, Int.mul_assoc] at this
    exact this
  have e4 : 0 ≤ G * v := Int.mul_nonneg (Int.le_of_lt hG) v0
  have e5 : 1000 * o * v = 1000 * (o * v) := Int.mul_assoc _ _ _
  rw [e1, e5] at m1
  rw [e2, e5] at m2
  have x2 : x * v ≤ 1000 * v := Int.mul_le_mul_of_nonneg_right x1 v0
  have x3 : x * v * O ≤ 3100000 * O * O := Int.mul_le_mul_of_nonneg_right (by omega) (Int.le_of_lt hO)
  have q1 : 3100000 * O * O = 3100000 * (O * O) := Int.mul_assoc _ _ _
  have q2 : 5000 * O * O = 5000 * (O * O) := Int.mul_assoc _ _ _
  have q3 : G * O * 1073741824 = O * O := by rw [Int.mul_right_comm, Int.mul_comm G, ← hOG]
  have p0 : 0 ≤ o * v := Int.mul_nonneg o0 v0
  have gO : 0 < G * O := Int.mul_pos hG hO
  obtain ⟨T, hT⟩ : ∃ T : Int, T = G * O := ⟨_, rfl⟩
  obtain ⟨Z, hZ⟩ : ∃ Z : Int, Z = O * O := ⟨_, rfl⟩
  rw [← hT] at e3 q3 gO
  rw [← hZ] at q1 q2 q3
  refine ⟨by omega, by omega, fun p h1 h2 => ?_⟩
  rw [← hT] at h1 h2
  have f1 : 1000 * p * O = 1000 * (p * O) := Int.mul_assoc _ _ _
  have f2 : (x * v + 3101000 * G) * O = x * v * O + 3101000 * T := by rw [Int.add_mul, hT, ← Int.mul_assoc]
  have f3 : (x * v - 3101000 * G) * O = x * v * O - 3101000 * T := by rw [Int.sub_mul, hT, ← Int.mul_assoc]
  exact ⟨Int.le_of_mul_le_mul_right (by omega) hO, Int.le_of_mul_le_mul_right (by omega) hO⟩
theorem odd_mul {x : Nat} (hx : x ≤ 1000) {v : UInt64} (hv : DF v) {B : Nat} (hB : B ≤ 3100) (h0 : 0 ≤ zv v) (h1 : zv v ≤ B * (FP.Core.one64 : Int)) :
    DF (FP.dmul (odW x) v) ∧ 0 ≤ zv (FP.dmul (odW x) v) ∧ 1000 * zv (FP.dmul (odW x) v) ≤ x * zv v + 3101000 * gr ∧ x * zv v - 3101000 * gr ≤ 1000 * zv (FP.dmul (odW x) v) := by
  obtain ⟨o1, o2, o3, o4⟩ := odW_zv hx
  have hB' : zv v ≤ 3100 * (FP.Core.one64 : Int) := Int.le_trans h1 (Int.mul_le_mul_of_nonneg_right (by omega) (Int.le_of_lt one_posI))
  obtain ⟨a1, a2, a3⟩ := odd_lin one_posI gr_posI one_grI (x := (x : Int)) (by omega) (by omega) o2 o3 o4 h0 hB'
  obtain ⟨r1, r2, r3⟩ := mul_err o1 hv a1 a2
  exact ⟨r1, mul_ge o1 hv o2 h0, a3 _ r2 r3⟩
/-- behind k FALLS of AIM a: the sum, and what stays -/
def dvS (o sd rg : Nat) (D : Nat → UInt64) (r a : Nat) : Nat → UInt64 × Nat
  | 0 => (FP.dconst1, 0)
  | k + 1 => match nxN o r (fS (5 * a + k)) with
    | none => ((dvS o sd rg D r a k).1, (dvS o sd rg D r a k).2 + wtN sd rg (5 * a + k))
    | some d => if fS (5 * a + k) = 0 then ((dvS o sd rg D r a k).1, (dvS o sd rg D r a k).2 + wtN sd rg (5 * a + k))
      else (FP.dadd (dvS o sd rg D r a k).1 (FP.dmul (odW (wtN sd rg (5 * a + k))) (D d)), (dvS o sd rg D r a k).2)
def dvV (o sd rg : Nat) (D : Nat → UInt64) (r a : Nat) : Option UInt64 :=
  if 1000 ≤ (dvS o sd rg D r a (fC a)).2 then none else some (FP.ddiv (dvS o sd rg D r a (fC a)).1 (odW (1000 - (dvS o sd rg D r a (fC a)).2)))
theorem dvS_congr {o sd rg r a : Nat} {D D' : Nat → UInt64} (h : ∀ d, d < r → (d = 0 ∨ leN o ≤ d) → D d = D' d) (hr : 0 < r) (ha : a < 63) : ∀ k, k ≤ fC a → dvS o sd rg D r a k = dvS o sd rg D' r a k
  | 0, _ => rfl
  | k + 1, hk => by
    have hc := fC_le a
    have ih := dvS_congr (o := o) (sd := sd) (rg := rg) (r := r) (a := a) h hr ha k (by omega)
    simp only [dvS]
    rw [ih]
    cases hx : nxN o r (fS (5 * a + k)) with
    | none => rfl
    | some d =>
      by_cases h0 : fS (5 * a + k) = 0
      · simp only [h0, if_true]
      · simp only [if_neg h0]
        obtain ⟨e1, e2, e3⟩ := nxN_eq hx
        have h63 := fS_lt (5 * a + k) (by omega)
        have hs : 0 < scN (fS (5 * a + k)) := by
          have : ∀ s, s < 63 → s ≠ 0 → 0 < scN s := by decide
          exact this _ h63 h0
        rw [h d (by omega) (by unfold leN; split <;> omega)]
/-- the WEIGHTS of the first k places, added up -/
def wTo (sd rg a : Nat) : Nat → Nat
  | 0 => 0
  | k + 1 => wTo sd rg a k + wtN sd rg (5 * a + k)
theorem wTo_sm {sd rg a : Nat} : ∀ k, k < fC a → wTo sd rg a (k + 1) = wtN sd rg (5 * a) + wSm sd rg a k
  | 0, h => by simp [wTo, wSm]
  | k + 1, h => by
    have := wTo_sm (sd := sd) (rg := rg) (a := a) k (by omega)
    simp only [wTo] at this ⊢
    simp only [wSm]
    rw [this, wt_at (a := a) (i := k + 1) (by omega) h]
    omega
theorem wTo_all {sd rg a : Nat} (hs : sd ≤ 200) (hr : rg ≤ 200) (h1 : 1 ≤ a) (h2 : a < 63) : wTo sd rg a (fC a) = 1000 := by
  have hp := fC_pos h1 h2
  obtain ⟨k, hk⟩ : ∃ k, fC a = k + 1 := ⟨fC a - 1, by omega⟩
  rw [hk, wTo_sm k (by omega), wt_self hp, hk]
  have := wSm_le hs hr h2 (k := k) (by omega)
  simp only [Nat.add_sub_cancel]
  omega
theorem wTo_mono (sd rg a : Nat) {k j : Nat} (h : k ≤ j) : wTo sd rg a k ≤ wTo sd rg a j := by
  induction h with
  | refl => exact Nat.le_refl _
  | step _ ih => exact Nat.le_trans ih (Nat.le_add_right _ _)
theorem dvS_lin {O G z p v s : Int} {B k W t wk : Nat} (hO : 0 < O) (hG : 0 < G) (hOG : O = 1073741824 * G) (hB : B ≤ 3100) (hk : k ≤ 5) (hW : W + wk ≤ 1000) (ht : t ≤ W) (hz : 1000 * z ≤ 1000 * O + ((W - t : Nat) : Int) * (B * O) + k * (3102000 * G)) (hz0 : O ≤ z) (hv : v ≤ B * O) (hp : 1000 * p ≤ wk * v + 3101000 * G) (hp0 : 0 ≤ p) :
    z + p ≤ 5000 * O ∧ -(5000 * O) ≤ z + p ∧ (s ≤ z + p + G → 1000 * s ≤ 1000 * O + ((W + wk - t : Nat) : Int) * (B * O) + ((k + 1 : Nat) : Int) * (3102000 * G)) := by
  have b1 : (wk : Int) * v ≤ wk * (B * O) := Int.mul_le_mul_of_nonneg_left hv (by omega)
  have b2 : ((W + wk - t : Nat) : Int) * (B * O) = ((W - t : Nat) : Int) * (B * O) + wk * (B * O) := by
    rw [← Int.add_mul]
    exact congrArg (fun q : Int => q * ((B : Int) * O)) (by omega)
  have b3 : ((W + wk - t : Nat) : Int) * (B * O) ≤ 1000 * (3100 * O) :=
    Int.mul_le_mul (by omega) (Int.mul_le_mul_of_nonneg_right (by omega) (Int.le_of_lt hO)) (Int.mul_nonneg (by omega) (Int.le_of_lt hO)) (by omega)
  have b4 : ((k + 1 : Nat) : Int) * (3102000 * G) = k * (3102000 * G) + 3102000 * G := by rw [Int.natCast_add, Int.add_mul]; simp
  have b5 : ((k : Nat) : Int) * (3102000 * G) ≤ 5 * (3102000 * G) := Int.mul_le_mul_of_nonneg_right (by omega) (by omega)
  exact ⟨by omega, by omega, fun h => by omega⟩
theorem dvS_stay {O G z : Int} {B k W t wk : Nat} (hG : 0 < G) (ht : t ≤ W) (hz : 1000 * z ≤ 1000 * O + ((W - t : Nat) : Int) * (B * O) + k * (3102000 * G)) :
    1000 * z ≤ 1000 * O + ((W + wk - (t + wk) : Nat) : Int) * (B * O) + ((k + 1 : Nat) : Int) * (3102000 * G) := by
  rw [show W + wk - (t + wk) = W - t by omega]
  have b4 : ((k + 1 : Nat) : Int) * (3102000 * G) = k * (3102000 * G) + 3102000 * G := by rw [Int.natCast_add, Int.add_mul]; simp
  omega
theorem dconst1_zv : DF FP.dconst1 ∧ zv FP.dconst1 = (FP.Core.one64 : Int) := by
  refine ⟨⟨_, _, _, FP.Core.val64_dconst1⟩, ?_⟩
  have := FP.Core.DInt_zval FP.Core.dint_one
  show zv 4607182418800017408 = _
  unfold zv
  rw [this, Int.one_mul]
/-- what is known of the sum behind k FALLS, the values before being at most B -/
theorem dvS_ok {o sd rg r a B : Nat} {D : Nat → UInt64} (hs : sd ≤ 200) (hr : rg ≤ 200) (h1 : 1 ≤ a) (h2 : a < 63) (h0 : 0 < r) (hB : B ≤ 3100)
    (hD : ∀ d, d < r → (d = 0 ∨ leN o ≤ d) → DF (D d) ∧ 0 ≤ zv (D d) ∧ zv (D d) ≤ B * (FP.Core.one64 : Int)) : ∀ k, k ≤ fC a →
    DF (dvS o sd rg D r a k).1 ∧ (FP.Core.one64 : Int) ≤ zv (dvS o sd rg D r a k).1 ∧ (dvS o sd rg D r a k).2 ≤ wTo sd rg a k ∧
    1000 * zv (dvS o sd rg D r a k).1 ≤ 1000 * FP.Core.one64 + ((wTo sd rg a k - (dvS o sd rg D r a k).2 : Nat) : Int) * (B * (FP.Core.one64 : Int)) + k * (3102000 * gr)
  | 0, _ => by
    obtain ⟨e1, e2⟩ := dconst1_zv
    refine ⟨e1, ?_, Nat.le_refl _, ?_⟩
    · show _ ≤ zv FP.dconst1
      rw [e2]
      exact Int.le_refl _
    · show 1000 * zv FP.dconst1 ≤ _
      rw [e2]
      simp [wTo, dvS]
  | k + 1, hk => by
    have hc := fC_le a
    obtain ⟨i1, i2, i3, i4⟩ := dvS_ok (o := o) (D := D) hs hr h1 h2 h0 hB hD k (by omega)
    have hw := wt_le (sd := sd) (rg := rg) (q := 5 * a + k) hs hr (by omega)
    have hall := wTo_all hs hr h1 h2
    have hmono := wTo_mono sd rg a (k := k + 1) (j := fC a) (by omega)
    have hw2 : wTo sd rg a (k + 1) = wTo sd rg a k + wtN sd rg (5 * a + k) := rfl
    rw [hw2] at hmono ⊢
    simp only [dvS]
    cases hx : nxN o r (fS (5 * a + k)) with
    | none => exact ⟨i1, i2, Nat.add_le_add_right i3 _, dvS_stay gr_posI i3 i4⟩
    | some d =>
      by_cases hf0 : fS (5 * a + k) = 0
      · simp only [hf0, if_true]
        exact ⟨i1, i2, Nat.add_le_add_right i3 _, dvS_stay gr_posI i3 i4⟩
      · simp only [if_neg hf0]
        obtain ⟨e1, e2, e3⟩ := nxN_eq hx
        have h63 := fS_lt (5 * a + k) (by omega)
        have hsc : 0 < scN (fS (5 * a + k)) := by
          have : ∀ s, s < 63 → s ≠ 0 → 0 < scN s := by decide
          exact this _ h63 hf0
        obtain ⟨d1, d2, d3⟩ := hD d (by omega) (by unfold leN; split <;> omega)
        obtain ⟨p1, p2, p3, p4⟩ := odd_mul hw d1 hB d2 d3
        obtain ⟨l1, l2, l3⟩ := dvS_lin one_posI gr_posI one_grI hB (by omega) (by omega) i3 i4 i2 d3 p3 p2
        obtain ⟨s1, s2, s3⟩ := add_err i1 p1 l1 l2
        exact ⟨s1, Int.le_trans i2 (add_ge i1 p1 p2), by omega, l3 s2⟩
