/-! ===== DARTS: values, the choice, the table ===== -/
theorem div_lin {O G s e : Int} {n B k : Nat} (hO : 0 < O) (hG : 0 < G) (hOG : O = 1073741824 * G) (hB : B ≤ 3100) (hk : k ≤ 5) (hn : 1 ≤ n) (hn2 : n ≤ 1000)
    (h1 : 1000 * s ≤ 1000 * O + (n : Int) * (B * O) + k * (3102000 * G)) (h0 : O ≤ s) (e1 : 1000 * e ≤ n * O + 1000 * G) (e2 : n * O - 1000 * G ≤ 1000 * e) :
    0 < e ∧ s ≤ 5000 * e ∧ ∀ q : Int, q * e ≤ s * O + G * e → s * O - G * e ≤ q * e → O ≤ 2 * q ∧ q ≤ 5000 * O ∧ (200 ≤ n → q ≤ ((B + 6 : Nat) : Int) * O) := by
  have b5 : ((k : Nat) : Int) * (3102000 * G) ≤ 5 * (3102000 * G) := Int.mul_le_mul_of_nonneg_right (by omega) (by omega)
  have n1 : O ≤ n * O := by
    have := Int.mul_le_mul_of_nonneg_right (show (1 : Int) ≤ n by omega) (Int.le_of_lt hO)
    omega
  have n2 : n * O ≤ 1000 * O := Int.mul_le_mul_of_nonneg_right (show (n : Int) ≤ 1000 by omega) (Int.le_of_lt hO)
  have nb : (n : Int) * (B * O) = B * (n * O) := by rw [Int.mul_left_comm]
  have nb2 : (B : Int) * (n * O) ≤ 3100 * (n * O) := Int.mul_le_mul_of_nonneg_right (by omega) (by omega)
  have nb0 : 0 ≤ (B : Int) * (n * O) := Int.mul_nonneg (by omega) (by omega)
  rw [nb] at h1
  have he : 0 < e := by omega
  refine ⟨he, by omega, fun q q1 q2 => ?_⟩
  have gO : 0 < G * O := Int.mul_pos hG hO
  have q3 : O * O = 1073741824 * (G * O) := by
    have : O * O = (1073741824 * G) * O := by rw [← hOG]
    rw [this, Int.mul_assoc]
  have he1 : e ≤ O + G := by omega
  have ge : G * e ≤ G * O + G * G := by
    have := Int.mul_le_mul_of_nonneg_left he1 (Int.le_of_lt hG)
    rw [Int.mul_add] at this
    exact this
  have gg : G * G ≤ G * O := Int.mul_le_mul_of_nonneg_left (by omega) (Int.le_of_lt hG)
  have ge0 : 0 ≤ G * e := Int.mul_nonneg (Int.le_of_lt hG) (Int.le_of_lt he)
  have sO : O * O ≤ s * O := Int.mul_le_mul_of_nonneg_right h0 (Int.le_of_lt hO)
  have oe : O * e ≤ O * O + G * O := by
    have := Int.mul_le_mul_of_nonneg_left he1 (Int.le_of_lt hO)
    rw [Int.mul_add, Int.mul_comm O G] at this
    exact this
  have sO2 : 1000 * (s * O) ≤ 1000 * (O * O) + B * (n * O) * O + 15510000 * (G * O) := by
    have := Int.mul_le_mul_of_nonneg_right (show 1000 * s ≤ 1000 * O + (B : Int) * (n * O) + 15510000 * G by omega) (Int.le_of_lt hO)
    rw [Int.add_mul, Int.add_mul, Int.mul_assoc, Int.mul_assoc, Int.mul_assoc 15510000] at this
    exact this
  have eO : n * O * O - 1000 * (G * O) ≤ 1000 * (e * O) := by
    have := Int.mul_le_mul_of_nonneg_right e2 (Int.le_of_lt hO)
    rw [Int.sub_mul, Int.mul_assoc 1000, Int.mul_assoc 1000] at this
    exact this
  have eO2 : e * O = O * e := Int.mul_comm _ _
  have nOO : O * O ≤ n * O * O := Int.mul_le_mul_of_nonneg_right n1 (Int.le_of_lt hO)
  have bnO : (B : Int) * (n * O) * O = B * (n * O * O) := Int.mul_assoc _ _ _
  have bnO2 : (B : Int) * (n * O * O) ≤ 3100 * (n * O * O) := Int.mul_le_mul_of_nonneg_right (by omega) (by omega)
  refine ⟨?_, ?_, ?_⟩
  · by_cases h : O ≤ 2 * q
    · exact h
    · exfalso
      have := Int.mul_le_mul_of_nonneg_right (show 2 * q ≤ O by omega) (Int.le_of_lt he)
      rw [Int.mul_assoc] at this
      omega
  · by_cases h : q ≤ 5000 * O
    · exact h
    · exfalso
      have := Int.mul_le_mul_of_nonneg_right (show 5000 * O ≤ q by omega) (Int.le_of_lt he)
      rw [Int.mul_assoc] at this
      omega
  · intro h200
    by_cases h : q ≤ ((B + 6 : Nat) : Int) * O
    · exact h
    · exfalso
      have h3 := Int.mul_le_mul_of_nonneg_right (show ((B + 6 : Nat) : Int) * O ≤ q by omega) (Int.le_of_lt he)
      have h4 : ((B + 6 : Nat) : Int) * O * e = B * (O * e) + 6 * (O * e) := by
        rw [Int.mul_assoc, Int.natCast_add, Int.add_mul]; rfl
      have h5 : (B : Int) * (n * O * O - 1000 * (G * O)) ≤ B * (1000 * (e * O)) := Int.mul_le_mul_of_nonneg_left eO (by omega)
      have h6 : (B : Int) * (n * O * O - 1000 * (G * O)) = B * (n * O * O) - 1000 * (B * (G * O)) := by
        rw [Int.mul_sub]
        exact congrArg (fun z => (B : Int) * (n * O * O) - z) (Int.mul_left_comm _ _ _)
      have h7 : (B : Int) * (1000 * (e * O)) = 1000 * (B * (O * e)) := by rw [eO2, Int.mul_left_comm]
      have h8 : (B : Int) * (G * O) ≤ 3100 * (G * O) := Int.mul_le_mul_of_nonneg_right (by omega) (by omega)
      have h9 : 200 * (O * O) ≤ n * O * O := by
        have := Int.mul_le_mul_of_nonneg_right (show (200 : Int) ≤ n by omega) (Int.mul_nonneg (Int.le_of_lt hO) (Int.le_of_lt hO))
        rw [← Int.mul_assoc (n : Int)] at this
        exact this
      rw [h4] at h3
      rw [h6, h7] at h5
      omega
theorem dvV_ok {o sd rg r a B : Nat} {D : Nat → UInt64} (hs : sd ≤ 200) (hr : rg ≤ 200) (h1 : 1 ≤ a) (h2 : a < 63) (h0 : 0 < r) (hB : B ≤ 3100)
    (hD : ∀ d, d < r → (d = 0 ∨ leN o ≤ d) → DF (D d) ∧ 0 ≤ zv (D d) ∧ zv (D d) ≤ B * (FP.Core.one64 : Int)) {v : UInt64} (hv : dvV o sd rg D r a = some v) :
    DF v ∧ (FP.Core.one64 : Int) ≤ 2 * zv v ∧ zv v ≤ 5000 * (FP.Core.one64 : Int) ∧ ((dvS o sd rg D r a (fC a)).2 ≤ 800 → zv v ≤ ((B + 6 : Nat) : Int) * (FP.Core.one64 : Int)) := by
  obtain ⟨i1, i2, i3, i4⟩ := dvS_ok (o := o) (D := D) hs hr h1 h2 h0 hB hD (fC a) (Nat.le_refl _)
  have hc := fC_le a
  rw [wTo_all hs hr h1 h2] at i3 i4
  unfold dvV at hv
  by_cases ht : 1000 ≤ (dvS o sd rg D r a (fC a)).2
  · rw [if_pos ht] at hv; cases hv
  rw [if_neg ht] at hv
  cases hv
  obtain ⟨o1, o2, o3, o4⟩ := odW_zv (x := 1000 - (dvS o sd rg D r a (fC a)).2) (by omega)
  obtain ⟨a1, a2, a3⟩ := div_lin one_posI gr_posI one_grI hB hc (by omega) (by omega) i4 i2 o3 o4
  obtain ⟨d1, d2, d3, d4⟩ := div_err i1 o1 (Int.le_trans (Int.le_of_lt one_posI) i2) a1 a2
  obtain ⟨b1, b2, b3⟩ := a3 _ d2 d3
  exact ⟨d1, b1, b2, fun h => b3 (by omega)⟩
/-- less, as doubles compare -/
def dlt (x y : UInt64) : Bool := decide (FP.dcmp x y = some .lt)
def dgt (x y : UInt64) : Bool := decide (FP.dcmp x y = some .gt)
theorem dlt_zv {x y : UInt64} (hx : DF x) (hy : DF y) : dlt x y = true ↔ zv x < zv y := by
  unfold dlt
  rw [decide_eq_true_iff]
  show FP.Core.dcmp x y = some .lt ↔ _
  rw [FP.Core.dcmp_zval hx.ne_nan hy.ne_nan]
  show some (compare (zv x) (zv y)) = some .lt ↔ _
  rw [Option.some.injEq, FP.Core.compare_lt_iff]
theorem dgt_zv {x y : UInt64} (hx : DF x) (hy : DF y) : dgt x y = true ↔ zv y < zv x := by
  unfold dgt
  rw [decide_eq_true_iff]
  show FP.Core.dcmp x y = some .gt ↔ _
  rw [FP.Core.dcmp_zval hx.ne_nan hy.ne_nan]
  show some (compare (zv x) (zv y)) = some .gt ↔ _
  rw [Option.some.injEq, FP.Core.compare_gt_iff]
/-- the first least of the values of AIMS 1 .. k (0: none has one) -/
def dsel (V : Nat → Option UInt64) : Nat → Nat × UInt64
  | 0 => (0, FP.dconst0)
  | k + 1 => match V (k + 1) with
    | none => dsel V k
    | some v => if (dsel V k).1 = 0 ∨ dlt v (dsel V k).2 = true then (k + 1, v) else dsel V k
theorem dsel_ok {V : Nat → Option UInt64} (hV : ∀ a v, 1 ≤ a → a < 63 → V a = some v → DF v) : ∀ k, k < 63 →
    (dsel V k).1 ≤ k ∧ ((dsel V k).1 ≠ 0 → V (dsel V k).1 = some (dsel V k).2 ∧ ∀ a v, 1 ≤ a → a ≤ k → V a = some v → zv (dsel V k).2 ≤ zv v) ∧ ((dsel V k).1 = 0 → ∀ a, 1 ≤ a → a ≤ k → V a = none)
  | 0, _ => ⟨Nat.le_refl _, fun h => absurd rfl h, fun _ a h1 h2 => by omega⟩
  | k + 1, hk => by
    obtain ⟨i1, i2, i3⟩ := dsel_ok hV k (by omega)
    simp only [dsel]
    cases hv : V (k + 1) with
    | none =>
      simp only []
      refine ⟨by omega, fun h => ⟨(i2 h).1, fun a v h1 h2 h3 => ?_⟩, fun h a h1 h2 => ?_⟩
      · by_cases e : a = k + 1
        · subst e; rw [hv] at h3; cases h3
        · exact (i2 h).2 a v h1 (by omega) h3
      · by_cases e : a = k + 1
        · subst e; exact hv
        · exact i3 h a h1 (by omega)
    | some v =>
      simp only []
      have fv := hV (k + 1) v (by omega) hk hv
      by_cases hc : (dsel V k).1 = 0 ∨ dlt v (dsel V k).2 = true
      · rw [if_pos hc]
        refine ⟨Nat.le_refl _, fun _ => ⟨hv, fun a u h1 h2 h3 => ?_⟩, fun h => absurd h (by simp)⟩
        by_cases e : a = k + 1
        · subst e; rw [hv] at h3; cases h3; exact Int.le_refl _
        · rcases hc with z | z
          · have := i3 z a h1 (by omega)
            rw [this] at h3; cases h3
          · by_cases z0 : (dsel V k).1 = 0
            · have := i3 z0 a h1 (by omega)
              rw [this] at h3; cases h3
            · obtain ⟨j1, j2⟩ := i2 z0
              have fs := hV _ _ (by omega) (by omega) j1
              have := (dlt_zv fv fs).mp z
              have := j2 a u h1 (by omega) h3
              show zv v ≤ _
              omega
      · rw [if_neg hc]
        have z0 : (dsel V k).1 ≠ 0 := fun q => hc (Or.inl q)
        obtain ⟨j1, j2⟩ := i2 z0
        have fs := hV _ _ (by omega) (by omega) j1
        refine ⟨by omega, fun _ => ⟨j1, fun a u h1 h2 h3 => ?_⟩, fun h => absurd h z0⟩
        by_cases e : a = k + 1
        · subst e
          rw [hv] at h3; cases h3
          have : ¬ zv v < zv (dsel V k).2 := fun q => hc (Or.inr ((dlt_zv fv fs).mpr q))
          omega
        · exact j2 a u h1 (by omega) h3
/-- DARTS and AIMS up to rest n -/
def dT (o sd rg : Nat) : Nat → Nat → Nat × UInt64
  | 0 => fun _ => (0, FP.dconst0)
  | n + 1 => fun j => if j = n + 1 then (if n + 1 < leN o then (0, FP.dconst0) else dsel (dvV o sd rg (fun d => (dT o sd rg n d).2) (n + 1)) 62) else dT o sd rg n j
def dD (o sd rg r : Nat) : UInt64 := (dT o sd rg r r).2
def dA_ (o sd rg r : Nat) : Nat := (dT o sd rg r r).1
theorem dT_low (o sd rg : Nat) : ∀ (n j : Nat), j ≤ n → dT o sd rg n j = dT o sd rg j j
  | 0, j, h => by rw [show j = 0 by omega]
  | n + 1, j, h => by
    by_cases e : j = n + 1
    · rw [e]
    · have : dT o sd rg (n + 1) j = dT o sd rg n j := if_neg e
      rw [this, dT_low o sd rg n j (by omega)]
theorem dT_succ (o sd rg n j : Nat) : dT o sd rg (n + 1) j = if j = n + 1 then (if n + 1 < leN o then (0, FP.dconst0) else dsel (dvV o sd rg (fun d => (dT o sd rg n d).2) (n + 1)) 62) else dT o sd rg n j := rfl
theorem dsel_congr {V V' : Nat → Option UInt64} : ∀ k, (∀ a, 1 ≤ a → a ≤ k → V a = V' a) → dsel V k = dsel V' k
  | 0, _ => rfl
  | k + 1, h => by
    simp only [dsel]
    rw [dsel_congr k (fun a h1 h2 => h a h1 (by omega)), h (k + 1) (by omega) (Nat.le_refl _)]
theorem dvV_congr {o sd rg r a : Nat} {D D' : Nat → UInt64} (h : ∀ d, d < r → (d = 0 ∨ leN o ≤ d) → D d = D' d) (hr : 0 < r) (ha : a < 63) : dvV o sd rg D r a = dvV o sd rg D' r a := by
  unfold dvV
  rw [dvS_congr h hr ha (fC a) (Nat.le_refl _)]
theorem dT_at {o sd rg r : Nat} (h : leN o ≤ r) : dT o sd rg r r = dsel (dvV o sd rg (dD o sd rg) r) 62 := by
  have hl : 1 ≤ leN o := by unfold leN; split <;> omega
  obtain ⟨n, rfl⟩ : ∃ n, r = n + 1 := ⟨r - 1, by omega⟩
  rw [dT_succ, if_pos rfl, if_neg (by omega)]
  refine dsel_congr _ (fun a h1 h2 => dvV_congr (fun d h3 _ => ?_) (by omega) (by omega))
  show (dT o sd rg n d).2 = (dT o sd rg d d).2
  rw [dT_low o sd rg n d (by omega)]
theorem dconst0_zv : DF FP.dconst0 ∧ zv FP.dconst0 = 0 := by
  refine ⟨⟨_, _, _, FP.Core.val64_dconst0⟩, ?_⟩
  unfold zv
  rw [show FP.Core.val64 FP.dconst0 = .fin false 0 FP.Core.b64.qmin from FP.Core.val64_dconst0]
  exact zero_datum
/-- an AIM whose own SPOT is no BUST: little stays -/
theorem dvS_own {o sd rg r a d : Nat} {D : Nat → UInt64} (hs : sd ≤ 200) (hr : rg ≤ 200) (h1 : 1 ≤ a) (h2 : a < 63) (hx : nxN o r a = some d) : ∀ k, k < fC a → (dvS o sd rg D r a (k + 1)).2 ≤ wSm sd rg a k
  | 0, _ => by
    simp only [dvS, Nat.add_zero, fS_0 h1 h2, hx, if_neg (show ¬ a = 0 by omega)]
    exact Nat.zero_le _
  | k + 1, hk => by
    have ih := dvS_own (D := D) hs hr h1 h2 hx k (by omega)
    have hw := wt_at (sd := sd) (rg := rg) (a := a) (i := k + 1) (by omega) hk
    rw [show dvS o sd rg D r a (k + 1 + 1) = (match nxN o r (fS (5 * a + (k + 1))) with
      | none => ((dvS o sd rg D r a (k + 1)).1, (dvS o sd rg D r a (k + 1)).2 + wtN sd rg (5 * a + (k + 1)))
      | some d => if fS (5 * a + (k + 1)) = 0 then ((dvS o sd rg D r a (k + 1)).1, (dvS o sd rg D r a (k + 1)).2 + wtN sd rg (5 * a + (k + 1)))
        else (FP.dadd (dvS o sd rg D r a (k + 1)).1 (FP.dmul (odW (wtN sd rg (5 * a + (k + 1)))) (D d)), (dvS o sd rg D r a (k + 1)).2)) from rfl]
    simp only [wSm]
    cases nxN o r (fS (5 * a + (k + 1))) with
    | none => simp only []; omega
    | some e =>
      simp only []
      split
      · simp only []; omega
      · simp only []; omega
/-- all DARTS: at least a half, at most 6 a point -/
theorem dD_ok {o sd rg : Nat} (ho : o ≤ 2) (hs : sd ≤ 200) (hr : rg ≤ 200) : ∀ (r : Nat), r ≤ 501 → leN o ≤ r →
    DF (dD o sd rg r) ∧ (FP.Core.one64 : Int) ≤ 2 * zv (dD o sd rg r) ∧ zv (dD o sd rg r) ≤ ((6 * r : Nat) : Int) * (FP.Core.one64 : Int) ∧ 1 ≤ dA_ o sd rg r ∧ dA_ o sd rg r ≤ 62 := by
  intro r
  induction r using Nat.strongRecOn with
  | _ r ih =>
    intro h1 h2
    have hl : 1 ≤ leN o := by unfold leN; split <;> omega
    have hD : ∀ d, d < r → (d = 0 ∨ leN o ≤ d) → DF (dD o sd rg d) ∧ 0 ≤ zv (dD o sd rg d) ∧ zv (dD o sd rg d) ≤ ((6 * (r - 1) : Nat) : Int) * (FP.Core.one64 : Int) := by
      intro d hd hz
      by_cases e : d = 0
      · subst e
        obtain ⟨c1, c2⟩ := dconst0_zv
        refine ⟨c1, ?_, ?_⟩
        · show 0 ≤ zv FP.dconst0
          rw [c2]; exact Int.le_refl _
        · show zv FP.dconst0 ≤ _
          rw [c2]; exact Int.mul_nonneg (by omega) (Int.le_of_lt one_posI)
      · obtain ⟨j1, j2, j3, -⟩ := ih d hd (by omega) (by omega)
        refine ⟨j1, ?_, Int.le_trans j3 (Int.mul_le_mul_of_nonneg_right (by omega) (Int.le_of_lt one_posI))⟩
        have := one_posI
        generalize (FP.Core.one64 : Int) = O at *
        omega
    have hV : ∀ a v, 1 ≤ a → a < 63 → dvV o sd rg (dD o sd rg) r a = some v → DF v := fun a v a1 a2 a3 => (dvV_ok hs hr a1 a2 (by omega) (B := 6 * (r - 1)) (by omega) hD a3).1
    obtain ⟨s1, s2, s3⟩ := dsel_ok hV 62 (by decide)
    -- an AIM that serves
    obtain ⟨a, d, a1, a2, a3⟩ : ∃ a d, 1 ≤ a ∧ a < 63 ∧ nxN o r a = some d := by
      by_cases e : o ≠ 0 ∧ r = 2
      · refine ⟨21, 0, by decide, by decide, ?_⟩
        obtain ⟨e1, rfl⟩ := e
        have : ∀ o, o < 3 → o ≠ 0 → nxN o 2 21 = some 0 := by decide
        exact this o (by omega) e1
      · refine ⟨1, r - 1, by decide, by decide, ?_⟩
        have e1 : scN 1 = 1 := by decide
        unfold nxN
        rw [e1, if_neg (by omega), if_neg, if_neg]
        · intro q
          unfold leN at h2
          rw [if_neg q.2] at h2
          exact e ⟨q.2, by omega⟩
        · intro q
          by_cases o0 : o = 0
          · rw [o0] at q
            have : enN 0 1 = true := by decide
            rw [this] at q
            exact absurd q.2 (by decide)
          · unfold leN at h2
            rw [if_neg o0] at h2
            omega
    have hfc := fC_pos a1 a2
    have hst : (dvS o sd rg (dD o sd rg) r a (fC a)).2 ≤ 800 := by
      have := dvS_own (D := dD o sd rg) hs hr a1 a2 a3 (fC a - 1) (by omega)
      rw [show fC a - 1 + 1 = fC a by omega] at this
      exact Nat.le_trans this (wSm_le hs hr a2 (Nat.le_refl _))
    obtain ⟨v, hv⟩ : ∃ v, dvV o sd rg (dD o sd rg) r a = some v := by
      unfold dvV
      rw [if_neg (by omega)]
      exact ⟨_, rfl⟩
    have hn0 : (dsel (dvV o sd rg (dD o sd rg) r) 62).1 ≠ 0 := by
      intro q
      have := s3 q a a1 (by omega)
      rw [hv] at this; cases this
    obtain ⟨t1, t2⟩ := s2 hn0
    have key := dvV_ok hs hr (by omega) (by omega) (by omega) (B := 6 * (r - 1)) (by omega) hD t1
    have kv := dvV_ok hs hr a1 a2 (by omega) (B := 6 * (r - 1)) (by omega) hD hv
    have e : dT o sd rg r r = dsel (dvV o sd rg (dD o sd rg) r) 62 := dT_at h2
    unfold dD dA_
    rw [e]
    refine ⟨key.1, key.2.1, ?_, by omega, s1⟩
    refine Int.le_trans (t2 a v a1 (by omega) hv) (Int.le_trans (kv.2.2.2 hst) ?_)
    exact Int.mul_le_mul_of_nonneg_right (by omega) (Int.le_of_lt one_posI)
