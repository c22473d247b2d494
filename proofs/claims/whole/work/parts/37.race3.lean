/-! ===== THE RACE: what is known, and what is asked ===== -/
/-- what the race reads of others -/
def RX (h : XH) (o : Nat) (H : Nat → Nat × Nat) : Prop := RU h o ∧ FA h ∧ RS h ∧ hOK H ∧ (∃ dk ck, MI h 10 (H 0).1 (H 0).2 dk ck) ∧ (∃ dk ck, MI h 26 (H 1).1 (H 1).2 dk ck)
theorem RX.same {S : List Nat} {h h' : XH} {o : Nat} {H : Nat → Nat × Nat} (X : RX h o H) (hs : Same S h h') (hS : ∀ k, k ∈ S → 44 ≤ k ∧ k ≠ 46 ∧ k ≠ 50 ∧ k ≠ 53) : RX h' o H := by
  obtain ⟨x1, x2, x3, x4, ⟨d0, c0, m0⟩, ⟨d1, c1, m1⟩⟩ := X
  have n : ∀ k, (k < 44 ∨ k = 46 ∨ k = 50 ∨ k = 53) → k ∉ S := fun k z q => by have := hS k q; omega
  exact ⟨x1.same hs (n _ (by omega)) (n _ (by omega)) (n _ (by omega)), x2.same hs (n _ (by omega)) (n _ (by omega)) (n _ (by omega)) (n _ (by omega)) (n _ (by omega)),
    x3.same hs (n _ (by omega)) (n _ (by omega)) (n _ (by omega)) (n _ (by omega)) (n _ (by omega)) (n _ (by omega)), x4,
    ⟨d0, c0, m0.same hs (n _ (by omega)) (n _ (by omega)) (n _ (by omega))⟩, ⟨d1, c1, m1.same hs (n _ (by omega)) (n _ (by omega)) (n _ (by omega))⟩⟩
/-- the race's working rows stand -/
def RW (h : XH) : Prop := (∃ cn : Nat → Int32, h.2 56 = .inl (0, 63, .inl cn)) ∧ ∀ u, u ≤ 1 → ∃ fs ft : Nat → UInt64, h.2 (51 + u) = .inl (2, 63, .inr (.inr (.inr (.inl fs)))) ∧ h.2 (54 + u) = .inl (2, 63, .inr (.inr (.inr (.inl ft))))
theorem RW.same {S : List Nat} {h h' : XH} (X : RW h) (hs : Same S h h') (h1 : 51 ∉ S) (h2 : 52 ∉ S) (h3 : 54 ∉ S) (h4 : 55 ∉ S) (h5 : 56 ∉ S) : RW h' := by
  obtain ⟨⟨cn, e⟩, k⟩ := X
  refine ⟨⟨cn, hs.at h5 e⟩, fun u hu => ?_⟩
  obtain ⟨fs, ft, e1, e2⟩ := k u hu
  have z : u = 0 ∨ u = 1 := by omega
  rcases z with rfl | rfl
  · exact ⟨fs, ft, hs.at h1 e1, hs.at h3 e2⟩
  · exact ⟨fs, ft, hs.at h2 e1, hs.at h4 e2⟩
theorem RW.of {h : XH} {g : Nat → Int32} {Z0 Z1 : Nat → UInt64 × Nat} (h1 : iA h 56 63 g) (h2 : WG h 0 63 Z0) (h3 : WG h 1 63 Z1) : RW h := by
  obtain ⟨cn, e, -⟩ := h1
  refine ⟨⟨cn, e⟩, fun u hu => ?_⟩
  have z : u = 0 ∨ u = 1 := by omega
  rcases z with rfl | rfl
  · obtain ⟨fs, ft, p1, p2, -⟩ := h2
    exact ⟨fs, ft, p1, p2⟩
  · obtain ⟨fs, ft, p1, p2, -⟩ := h3
    exact ⟨fs, ft, p1, p2⟩
/-- each pair of rests: not known, and none of D; or known -/
def RKd (o : Nat) (H : Nat → Nat × Nat) (D : Nat → Nat → Prop) (f0 f1 : Nat → UInt64) (a0 a1 fs : Nat → Int32) : Prop := ∀ r q, leN o ≤ r → leN o ≤ q → r ≤ 24 → q ≤ 24 → (fs (r * 25 + q) = 0 ∧ ¬ D r q) ∨
  (fs (r * 25 + q) = nI (if (rcV o H r q).2.2.2.2 then 2 else 1) ∧ f0 (r * 25 + q) = (rcV o H r q).1 ∧ f1 (r * 25 + q) = (rcV o H r q).2.1 ∧ a0 (r * 25 + q) = nI (rcV o H r q).2.2.1 ∧ a1 (r * 25 + q) = nI (rcV o H r q).2.2.2.1)
def RK (h : XH) (o : Nat) (H : Nat → Nat × Nat) (D : Nat → Nat → Prop) : Prop := ∃ (f0 f1 : Nat → UInt64) (a0 a1 fs : Nat → Int32), h.2 44 = .inl (2, 625, .inr (.inr (.inr (.inl f0)))) ∧ h.2 45 = .inl (2, 625, .inr (.inr (.inr (.inl f1)))) ∧ h.2 47 = .inl (0, 625, .inl a0) ∧ h.2 48 = .inl (0, 625, .inl a1) ∧ h.2 49 = .inl (0, 625, .inl fs) ∧ RKd o H D f0 f1 a0 a1 fs
theorem RK.same {S : List Nat} {h h' : XH} {o : Nat} {H : Nat → Nat × Nat} {D : Nat → Nat → Prop} (X : RK h o H D) (hs : Same S h h') (h1 : 44 ∉ S) (h2 : 45 ∉ S) (h3 : 47 ∉ S) (h4 : 48 ∉ S) (h5 : 49 ∉ S) : RK h' o H D := by
  obtain ⟨f0, f1, a0, a1, fs, e1, e2, e3, e4, e5, e6⟩ := X
  exact ⟨f0, f1, a0, a1, fs, hs.at h1 e1, hs.at h2 e2, hs.at h3 e3, hs.at h4 e4, hs.at h5 e5, e6⟩
theorem RK.less {h : XH} {o : Nat} {H : Nat → Nat × Nat} {D D' : Nat → Nat → Prop} (X : RK h o H D) (hd : ∀ a b, leN o ≤ a → leN o ≤ b → a ≤ 24 → b ≤ 24 → D' a b → D a b) : RK h o H D' := by
  obtain ⟨f0, f1, a0, a1, fs, e1, e2, e3, e4, e5, e6⟩ := X
  refine ⟨f0, f1, a0, a1, fs, e1, e2, e3, e4, e5, fun r q r1 q1 r2 q2 => ?_⟩
  rcases e6 r q r1 q1 r2 q2 with ⟨z1, z2⟩ | z
  · exact Or.inl ⟨z1, fun z3 => z2 (hd r q r1 q1 r2 q2 z3)⟩
  · exact Or.inr z
theorem nI_st (b : Bool) : nI (if b then 2 else 1) ≠ 0 := by cases b <;> decide
theorem RKd.of {o : Nat} {H : Nat → Nat × Nat} {D : Nat → Nat → Prop} {f0 f1 : Nat → UInt64} {a0 a1 fs : Nat → Int32} (X : RKd o H D f0 f1 a0 a1 fs) {r q : Nat} (r1 : leN o ≤ r) (q1 : leN o ≤ q) (r2 : r ≤ 24) (q2 : q ≤ 24) (hd : D r q ∨ ¬ fs (r * 25 + q) = 0) :
    fs (r * 25 + q) = nI (if (rcV o H r q).2.2.2.2 then 2 else 1) ∧ f0 (r * 25 + q) = (rcV o H r q).1 ∧ f1 (r * 25 + q) = (rcV o H r q).2.1 ∧ a0 (r * 25 + q) = nI (rcV o H r q).2.2.1 ∧ a1 (r * 25 + q) = nI (rcV o H r q).2.2.2.1 := by
  rcases X r q r1 q1 r2 q2 with ⟨z1, z2⟩ | z
  · rcases hd with y | y
    · exact absurd y z2
    · exact absurd z1 y
  · exact z
theorem RKd.is {o : Nat} {H : Nat → Nat × Nat} {D : Nat → Nat → Prop} {f0 f1 : Nat → UInt64} {a0 a1 fs : Nat → Int32} (X : RKd o H D f0 f1 a0 a1 fs) {r q : Nat} (r1 : leN o ≤ r) (q1 : leN o ≤ q) (r2 : r ≤ 24) (q2 : q ≤ 24) (hd : ¬ fs (r * 25 + q) = 0) : RKd o H (fun a b => D a b ∨ (a = r ∧ b = q)) f0 f1 a0 a1 fs := by
  intro a b a1 b1 a2 b2
  by_cases z : a = r ∧ b = q
  · obtain ⟨rfl, rfl⟩ := z
    exact Or.inr (X.of a1 b1 a2 b2 (Or.inr hd))
  · rcases X a b a1 b1 a2 b2 with ⟨z1, z2⟩ | y
    · exact Or.inl ⟨z1, fun w => by rcases w with w | w; exact z2 w; exact z w⟩
    · exact Or.inr y
theorem RKd.next {o : Nat} {H : Nat → Nat × Nat} {D : Nat → Nat → Prop} {f0 f1 : Nat → UInt64} {a0 a1 fs : Nat → Int32} (X : RKd o H D f0 f1 a0 a1 fs) {r q : Nat} (q2 : q ≤ 24) {x y : UInt64} {m n : Nat} {b : Bool} (e : (x, y, m, n, b) = rcV o H r q) :
    RKd o H (fun i j => D i j ∨ (i = r ∧ j = q)) (vf_upd f0 (r * 25 + q) x) (vf_upd f1 (r * 25 + q) y) (upd a0 (r * 25 + q) (nI m)) (upd a1 (r * 25 + q) (nI n)) (upd fs (r * 25 + q) (nI (if b then 2 else 1))) := by
  intro i j i1 j1 i2 j2
  by_cases z : i = r ∧ j = q
  · obtain ⟨rfl, rfl⟩ := z
    refine Or.inr ?_
    rw [upd_at, upd_at, upd_at, vupd_at, vupd_at, ← e]
    exact ⟨rfl, rfl, rfl, rfl, rfl⟩
  · have hc : i * 25 + j ≠ r * 25 + q := by omega
    rw [upd_off hc, upd_off hc, upd_off hc, vupd_off hc, vupd_off hc]
    rcases X i j i1 j1 i2 j2 with ⟨z1, z2⟩ | y
    · exact Or.inl ⟨z1, fun w => by rcases w with w | w; exact z2 w; exact z w⟩
    · exact Or.inr y
theorem rcW_is {o r q : Nat} {H : Nat → Nat × Nat} {D : Nat → Nat → Prop} {f0 f1 : Nat → UInt64} {a0 a1 fs : Nat → Int32} (X : RKd o H D f0 f1 a0 a1 fs) (r1 : leN o ≤ r) (q1 : leN o ≤ q) (r2 : r ≤ 24) (q2 : q ≤ 24)
    (hA : ∀ d, leN o ≤ d → d < r → D d q) (hB : ∀ d, leN o ≤ d → d < q → D r d) : rcW o H (fun d => f1 (q + d * 25)) (fun d => f0 (r * 25 + d * 1)) r q = rcV o H r q := by
  rw [rcV_eq]
  refine rcW_congr (fun d d1 d2 => ?_) (fun d d1 d2 => ?_)
  · show f1 (q + d * 25) = _
    rw [show q + d * 25 = d * 25 + q by omega]
    exact (X.of d2 q1 (by omega) q2 (Or.inl (hA d d2 d1))).2.2.1
  · show f0 (r * 25 + d * 1) = _
    rw [Nat.mul_one]
    exact (X.of r1 d2 r2 (by omega) (Or.inl (hB d d2 d1))).2.1
theorem rB_V0 {o r q : Nat} {H : Nat → Nat × Nat} {D : Nat → Nat → Prop} {f0 f1 : Nat → UInt64} {a0 a1 fs : Nat → Int32} (hH : hOK H) (X : RKd o H D f0 f1 a0 a1 fs) (q1 : leN o ≤ q) (r2 : r ≤ 24) (q2 : q ≤ 24)
    (hA : ∀ d, leN o ≤ d → d < r → D d q) : ∀ d, d < r → leN o ≤ d → rB (30 * (r + q)) (f1 (q + d * 25)) := by
  intro d d1 d2
  rw [show q + d * 25 = d * 25 + q by omega, (X.of d2 q1 (by omega) q2 (Or.inl (hA d d2 d1))).2.2.1]
  exact rB_mono (by omega) (rcV_ok hH (by omega)).2
theorem rB_V1 {o r q : Nat} {H : Nat → Nat × Nat} {D : Nat → Nat → Prop} {f0 f1 : Nat → UInt64} {a0 a1 fs : Nat → Int32} (hH : hOK H) (X : RKd o H D f0 f1 a0 a1 fs) (r1 : leN o ≤ r) (r2 : r ≤ 24) (q2 : q ≤ 24)
    (hB : ∀ d, leN o ≤ d → d < q → D r d) : ∀ d, d < q → leN o ≤ d → rB (30 * (r + q)) (f0 (r * 25 + d * 1)) := by
  intro d d1 d2
  rw [Nat.mul_one, (X.of r1 d2 r2 (by omega) (Or.inl (hB d d2 d1))).2.1]
  exact rB_mono (by omega) (rcV_ok hH (by omega)).1
theorem c_sweep (w : XW) (h : XH) {o r q : Nat} {H : Nat → Nat × Nat} {D : Nat → Nat → Prop} (hn : 57 ≤ h.1) (hX : RX h o H) (hW : RW h) (hK : RK h o H D) (r1 : leN o ≤ r) (q1 : leN o ≤ q) (r2 : r ≤ 24) (q2 : q ≤ 24) (hA : ∀ d, leN o ≤ d → d < r → D d q) (hB : ∀ d, leN o ≤ d → d < q → D r d) : CA w M_X7_sweep [.ref 42, .int (nI r), .int (nI q)] h (fun v' h' => v' = none ∧ Same [44, 45, 47, 48, 49, 51, 52, 54, 55, 56] h h' ∧ RX h' o H ∧ RW h' ∧ RK h' o H (fun i j => D i j ∨ (i = r ∧ j = q))) := by
  refine CA.of (by decide) rfl (fun _ => Nat.le_of_ble_eq_true rfl) ?_
  have hle : 1 ≤ leN o := by unfold leN; split <;> omega
  obtain ⟨⟨d0, c0, m0⟩, ⟨d1, c1, m1⟩⟩ := id hX.2.2.2.2
  obtain ⟨⟨cn, en⟩, kw⟩ := id hW
  obtain ⟨p1, p2, k1, k2⟩ := kw 0 (by decide)
  obtain ⟨p3, p4, j1, j2⟩ := kw 1 (by decide)
  obtain ⟨f0, f1, a0, a1, fs, e44, e45, e47, e48, e49, e6⟩ := id hK
  have b0 := rB_V0 hX.2.2.2.1 e6 q1 r2 q2 hA
  have b1 := rB_V1 hX.2.2.2.1 e6 r1 r2 q2 hB
  show AX w M_X7_sweep 0 0 0 [.ref 42, .int (nI r), .int (nI q), .null, .null, .null, .null, .null, .null, .null, .null, .null, .null] [] h _
  refine AX.aload_n (pc := 0) dX7_sweep_0 rfl ?_
  refine AX.iconst (pc := 1) (v := nI 0) dX7_sweep_1 (by decide) ?_
  refine AX.iload_n (pc := 2) dX7_sweep_2 rfl ?_
  refine AX.iload_n (pc := 3) dX7_sweep_3 rfl ?_
  refine AX.callV (pc := 4) (M2 := M_X7_weigh) (As := [.int (nI 0), .int (nI r), .int (nI q)]) (rest := []) (c_weigh0 w h hn hX.1 hX.2.2.1 hX.2.1 m0 en e45 (by omega) r2 r2 q2 (n := 30 * (r + q)) (by omega) b0 k1 k2) xc_X7_sweep__X7_weigh gX7_sweep_X7_weigh (ci := 6) rfl (lt_k hn (by omega)) hX.2.2.1.1 rfl (Nat.le_of_ble_eq_true rfl) dX7_sweep_4 ?_
  rintro _ h1 ⟨rfl, s1, n1, g1⟩
  have X1 := hX.same s1 (by simp)
  have m1 := m1.same s1 (by simp) (by simp) (by simp)
  obtain ⟨cn1, en1, -⟩ := n1
  show AX w M_X7_sweep 0 0 7 [.ref 42, .int (nI r), .int (nI q), .null, .null, .null, .null, .null, .null, .null, .null, .null, .null] [] _ _
  refine AX.aload_n (pc := 7) dX7_sweep_7 rfl ?_
  refine AX.iconst (pc := 8) (v := nI 1) dX7_sweep_8 (by decide) ?_
  refine AX.iload_n (pc := 9) dX7_sweep_9 rfl ?_
  refine AX.iload_n (pc := 10) dX7_sweep_10 rfl ?_
  refine AX.callV (pc := 11) (M2 := M_X7_weigh) (As := [.int (nI 1), .int (nI r), .int (nI q)]) (rest := []) (c_weigh1 w h1 (s1.le hn) X1.1 X1.2.2.1 X1.2.1 m1 en1 (s1.at (by simp) e44) (by omega) q2 r2 q2 (n := 30 * (r + q)) (by omega) b1 (s1.at (by simp) j1) (s1.at (by simp) j2)) xc_X7_sweep__X7_weigh gX7_sweep_X7_weigh (ci := 6) rfl (lt_k (s1.le hn) (by omega)) X1.2.2.1.1 rfl (Nat.le_of_ble_eq_true rfl) dX7_sweep_11 ?_
  rintro _ h2 ⟨rfl, s2, n2, g2⟩
  have X2 := X1.same s2 (by simp)
  show AX w M_X7_sweep 0 0 14 [.ref 42, .int (nI r), .int (nI q), .null, .null, .null, .null, .null, .null, .null, .null, .null, .null] [] _ _
  refine AX.ldc2d (pc := 14) (v := 4602678819172646912) dX7_sweep_14 cX7_sweep_69 ?_
  refine AX.dstore_n (pc := 17) (L' := [.ref 42, .int (nI r), .int (nI q), .double 4602678819172646912, .null, .null, .null, .null, .null, .null, .null, .null, .null]) dX7_sweep_17 (by decide) rfl ?_
  refine AX.ldc2d (pc := 18) (v := 4602678819172646912) dX7_sweep_18 cX7_sweep_69 ?_
  refine AX.dstore (pc := 21) (L' := [.ref 42, .int (nI r), .int (nI q), .double 4602678819172646912, .null, .double 4602678819172646912, .null, .null, .null, .null, .null, .null, .null]) dX7_sweep_21 (by decide) rfl ?_
  refine AX.iconst (pc := 23) (v := nI 0) dX7_sweep_23 (by decide) ?_
  refine AX.istore (pc := 24) (L' := [.ref 42, .int (nI r), .int (nI q), .double 4602678819172646912, .null, .double 4602678819172646912, .null, .int (nI 0), .null, .null, .null, .null, .null]) dX7_sweep_24 (by decide) rfl ?_
  refine AX.iconst (pc := 26) (v := nI 0) dX7_sweep_26 (by decide) ?_
  refine AX.istore (pc := 27) (L' := [.ref 42, .int (nI r), .int (nI q), .double 4602678819172646912, .null, .double 4602678819172646912, .null, .int (nI 0), .int (nI 0), .null, .null, .null, .null]) dX7_sweep_27 (by decide) rfl ?_
  have hE := rcW_is e6 r1 q1 r2 q2 hA hB
  exact l_sweep w h2 (Z0 := (fun a => rcS o (H 0).1 (H 0).2 (fun d => f1 (q + d * 25)) r a (fC a))) (Z1 := (fun a => rcS o (H 1).1 (H 1).2 (fun d => f0 (r * 25 + d * 1)) q a (fC a))) (n := 30 * (r + q)) (s2.le (s1.le hn)) X2.2.2.1 ⟨g1.same s2 (by simp) (by simp), g2⟩ (zOK_rc (hX.2.2.2.1 0).1 (hX.2.2.2.1 0).2 b0) (zOK_rc (hX.2.2.2.1 1).1 (hX.2.2.2.1 1).2 b1) (by omega) r2 q2 (s2.at (by simp) (s1.at (by simp) e44)) (s2.at (by simp) (s1.at (by simp) e45)) (s2.at (by simp) (s1.at (by simp) e47)) (s2.at (by simp) (s1.at (by simp) e48)) (s2.at (by simp) (s1.at (by simp) e49)) _ (fun h' s3 y1 y2 y3 y4 y5 => ⟨rfl, ((s1.wide (by simp)).trans (s2.wide (by simp))).trans (s3.wide (by simp)), X2.same s3 (by simp), RW.of (n2.same s3 (by simp)) ((g1.same s2 (by simp) (by simp)).same s3 (by simp) (by simp)) (g2.same s3 (by simp) (by simp)), ⟨_, _, _, _, _, y1, y2, y3, y4, y5, RKd.next e6 q2 hE⟩⟩) 12 0 (by omega) (fun hi => absurd hi (by decide))
theorem l_learnIn (w : XW) (P : Option Value → XH → Prop) (h0 : XH) {o r q i : Nat} {H : Nat → Nat × Nat} (r2 : r ≤ 24) (q2 : q ≤ 24) (hi : leN o ≤ i) (hi2 : i ≤ r) (hP : ∀ h', Same [44, 45, 47, 48, 49, 51, 52, 54, 55, 56] h0 h' → RX h' o H → RW h' → RK h' o H (fun a b => (a < i ∧ b ≤ q) ∨ (a = i ∧ b < q + 1)) → AX w M_X7_learn 0 0 71 [.ref 42, .int (nI r), .int (nI q), .int (nI (leN o)), .int (nI i), .null] [] h' P) : ∀ (g j : Nat) (h : XH), j + g = q + 1 → leN o ≤ j → 57 ≤ h.1 → RX h o H → RW h → RK h o H (fun a b => (a < i ∧ b ≤ q) ∨ (a = i ∧ b < j)) → Same [44, 45, 47, 48, 49, 51, 52, 54, 55, 56] h0 h → AX w M_X7_learn 0 0 35 [.ref 42, .int (nI r), .int (nI q), .int (nI (leN o)), .int (nI i), .int (nI j)] [] h P
  | 0, j, h, hg, hj, hn, hX, hW, hK, hS => by
    have e : j = q + 1 := by omega
    subst e
    have hle : leN o ≤ 2 := by unfold leN; split <;> omega
    refine AX.iload (pc := 35) dX7_learn_35 rfl ?_
    refine AX.iload_n (pc := 37) dX7_learn_37 rfl ?_
    refine AX.icmp_gtN (pc := 38) (tgt := 71) dX7_learn_38 (by decide) (by omega) (by omega) (fun hc38 => ?_) (fun q => absurd q (by omega))
    refine AX.sub (L' := [.ref 42, .int (nI r), .int (nI q), .int (nI (leN o)), .int (nI i), .null]) ⟨Or.inr rfl, Or.inr rfl, Or.inr rfl, Or.inr rfl, Or.inr rfl, Or.inl rfl, trivial⟩ ?_
    exact hP h hS hX hW hK
  | g + 1, j, h, hg, hj, hn, hX, hW, hK, hS => by
    have hle : leN o ≤ 2 := by unfold leN; split <;> omega
    obtain ⟨f0, f1, a0, a1, fs, e44, e45, e47, e48, e49, e6⟩ := id hK
    refine AX.iload (pc := 35) dX7_learn_35 rfl ?_
    refine AX.iload_n (pc := 37) dX7_learn_37 rfl ?_
    refine AX.icmp_gtN (pc := 38) (tgt := 71) dX7_learn_38 (by decide) (by omega) (by omega) (fun q => absurd q (by omega)) (fun hc38 => ?_)
    refine AX.aload_n (pc := 41) dX7_learn_41 rfl ?_
    refine AX.getf (pc := 42) fX7_learn_21 (lt_k hn (by omega)) hX.2.2.1.1 rfl dX7_learn_42 ?_
    refine AX.iload (pc := 45) dX7_learn_45 rfl ?_
    refine AX.bipush (pc := 47) (v := nI 25) dX7_learn_47 (by decide) ?_
    refine AX.imulN (pc := 49) (c := i * 25) dX7_learn_49 rfl ?_
    refine AX.iload (pc := 50) dX7_learn_50 rfl ?_
    refine AX.iaddN (pc := 52) (c := i * 25 + j) dX7_learn_52 rfl ?_
    refine AX.ialdN (pc := 53) (i := i * 25 + j) (v := (fs (i * 25 + j))) (lt_k hn (by omega)) e49 (by decide) (by omega) rfl dX7_learn_53 ?_
    refine AX.if_ne (pc := 54) (tgt := 65) dX7_learn_54 (by decide) (fun hc54 => ?_) (fun hc54 => ?_)
    · refine AX.iincN (c := j + 1) (pc := 65) (L' := [.ref 42, .int (nI r), .int (nI q), .int (nI (leN o)), .int (nI i), .int (nI (j + 1))]) dX7_learn_65 rfl (inc1 _) (by decide) rfl ?_
      refine AX.goto (pc := 68) (tgt := 35) dX7_learn_68 (by decide) ?_
      have K1 : RK h o H _ := ⟨f0, f1, a0, a1, fs, e44, e45, e47, e48, e49, e6.is hi hj (by omega) (by omega) hc54⟩
      exact l_learnIn w P h0 r2 q2 hi hi2 hP g (j + 1) h (by omega) (by omega) hn hX hW (K1.less (fun a b b1 b2 b3 b4 z => by omega)) hS
    · refine AX.aload_n (pc := 57) dX7_learn_57 rfl ?_
      refine AX.iload (pc := 58) dX7_learn_58 rfl ?_
      refine AX.iload (pc := 60) dX7_learn_60 rfl ?_
      refine AX.callV (pc := 62) (M2 := M_X7_sweep) (As := [.int (nI i), .int (nI j)]) (rest := []) (c_sweep w h hn hX hW hK hi hj (by omega) (by omega) (fun d d1 d2 => Or.inl ⟨d2, by omega⟩) (fun d d1 d2 => Or.inr ⟨rfl, d2⟩)) xc_X7_learn__X7_sweep gX7_learn_X7_sweep (ci := 6) rfl (lt_k hn (by omega)) hX.2.2.1.1 rfl (Nat.le_of_ble_eq_true rfl) dX7_learn_62 ?_
      rintro _ h1 ⟨rfl, s1, X1, W1, K1⟩
      show AX w M_X7_learn 0 0 65 [.ref 42, .int (nI r), .int (nI q), .int (nI (leN o)), .int (nI i), .int (nI j)] [] _ _
      refine AX.iincN (c := j + 1) (pc := 65) (L' := [.ref 42, .int (nI r), .int (nI q), .int (nI (leN o)), .int (nI i), .int (nI (j + 1))]) dX7_learn_65 rfl (inc1 _) (by decide) rfl ?_
      refine AX.goto (pc := 68) (tgt := 35) dX7_learn_68 (by decide) ?_
      exact l_learnIn w P h0 r2 q2 hi hi2 hP g (j + 1) h1 (by omega) (by omega) (s1.le hn) X1 W1 (K1.less (fun a b b1 b2 b3 b4 z => by omega)) (hS.trans s1)
theorem l_learnOut (w : XW) (P : Option Value → XH → Prop) (h0 : XH) {o r q : Nat} {H : Nat → Nat × Nat} (r2 : r ≤ 24) (q1 : leN o ≤ q) (q2 : q ≤ 24) (hP : ∀ h', Same [44, 45, 47, 48, 49, 51, 52, 54, 55, 56] h0 h' → RX h' o H → RW h' → RK h' o H (fun a b => (a < (r + 1) ∧ b ≤ q) ∨ (a = (r + 1) ∧ b < 0)) → P none h') : ∀ (g i : Nat) (h : XH), i + g = r + 1 → leN o ≤ i → 57 ≤ h.1 → RX h o H → RW h → RK h o H (fun a b => (a < i ∧ b ≤ q) ∨ (a = i ∧ b < 0)) → Same [44, 45, 47, 48, 49, 51, 52, 54, 55, 56] h0 h → AX w M_X7_learn 0 0 26 [.ref 42, .int (nI r), .int (nI q), .int (nI (leN o)), .int (nI i), .null] [] h P
  | 0, i, h, hg, hi, hn, hX, hW, hK, hS => by
    have e : i = r + 1 := by omega
    subst e
    have hle : leN o ≤ 2 := by unfold leN; split <;> omega
    refine AX.iload (pc := 26) dX7_learn_26 rfl ?_
    refine AX.iload_n (pc := 28) dX7_learn_28 rfl ?_
    refine AX.icmp_gtN (pc := 29) (tgt := 77) dX7_learn_29 (by decide) (by omega) (by omega) (fun hc29 => ?_) (fun q => absurd q (by omega))
    refine AX.vret (pc := 77) dX7_learn_77 rfl (by decide) (by decide) ?_
    exact hP h hS hX hW hK
  | g + 1, i, h, hg, hi, hn, hX, hW, hK, hS => by
    have hle : leN o ≤ 2 := by unfold leN; split <;> omega
    refine AX.iload (pc := 26) dX7_learn_26 rfl ?_
    refine AX.iload_n (pc := 28) dX7_learn_28 rfl ?_
    refine AX.icmp_gtN (pc := 29) (tgt := 77) dX7_learn_29 (by decide) (by omega) (by omega) (fun q => absurd q (by omega)) (fun hc29 => ?_)
    refine AX.iload_n (pc := 32) dX7_learn_32 rfl ?_
    refine AX.istore (pc := 33) (L' := [.ref 42, .int (nI r), .int (nI q), .int (nI (leN o)), .int (nI i), .int (nI (leN o))]) dX7_learn_33 (by decide) rfl ?_
    refine l_learnIn w P h0 r2 q2 hi (by omega) (fun h1 s1 X1 W1 K1 => ?_) (q + 1 - leN o) (leN o) h (by omega) (Nat.le_refl _) hn hX hW (hK.less (fun a b b1 b2 b3 b4 z => by omega)) hS
    refine AX.iincN (c := i + 1) (pc := 71) (L' := [.ref 42, .int (nI r), .int (nI q), .int (nI (leN o)), .int (nI (i + 1)), .null]) dX7_learn_71 rfl (inc1 _) (by decide) rfl ?_
    refine AX.goto (pc := 74) (tgt := 26) dX7_learn_74 (by decide) ?_
    exact l_learnOut w P h0 r2 q1 q2 hP g (i + 1) h1 (by omega) (by omega) (by rw [s1.1, ← hS.1]; exact hn) X1 W1 (K1.less (fun a b b1 b2 b3 b4 z => by omega)) s1
theorem c_learn (w : XW) (h : XH) {o r q : Nat} {H : Nat → Nat × Nat} (hn : 57 ≤ h.1) (hX : RX h o H) (hW : RW h) (hK : RK h o H (fun _ _ => False)) (r1 : leN o ≤ r) (q1 : leN o ≤ q) (r2 : r ≤ 24) (q2 : q ≤ 24) : CA w M_X7_learn [.ref 42, .int (nI r), .int (nI q)] h (fun v' h' => v' = none ∧ Same [44, 45, 47, 48, 49, 51, 52, 54, 55, 56] h h' ∧ RX h' o H ∧ RW h' ∧ RK h' o H (fun a b => a = r ∧ b = q)) := by
  refine CA.of (by decide) rfl (fun _ => Nat.le_of_ble_eq_true rfl) ?_
  have hle : leN o ≤ 2 := by unfold leN; split <;> omega
  obtain ⟨f0, f1, a0, a1, fs, e44, e45, e47, e48, e49, e6⟩ := id hK
  show AX w M_X7_learn 0 0 0 [.ref 42, .int (nI r), .int (nI q), .null, .null, .null] [] h _
  refine AX.aload_n (pc := 0) dX7_learn_0 rfl ?_
  refine AX.getf (pc := 1) fX7_learn_21 (lt_k hn (by omega)) hX.2.2.1.1 rfl dX7_learn_1 ?_
  refine AX.iload_n (pc := 4) dX7_learn_4 rfl ?_
  refine AX.bipush (pc := 5) (v := nI 25) dX7_learn_5 (by decide) ?_
  refine AX.imulN (pc := 7) (c := r * 25) dX7_learn_7 rfl ?_
  refine AX.iload_n (pc := 8) dX7_learn_8 rfl ?_
  refine AX.iaddN (pc := 9) (c := r * 25 + q) dX7_learn_9 rfl ?_
  refine AX.ialdN (pc := 10) (i := r * 25 + q) (v := (fs (r * 25 + q))) (lt_k hn (by omega)) e49 (by decide) (by omega) rfl dX7_learn_10 ?_
  refine AX.if_eq (pc := 11) (tgt := 15) dX7_learn_11 (by decide) (fun hc11 => ?_) (fun hc11 => ?_)
  · refine AX.aload_n (pc := 15) dX7_learn_15 rfl ?_
    refine AX.getf (pc := 16) fX7_learn_34 (lt_k hn (by omega)) hX.2.2.1.1 rfl dX7_learn_16 ?_
    refine AX.callV (pc := 19) (M2 := M_X9_leastRest) (As := []) (rest := []) (c_leastRest w h (by omega) hX.1) xc_X7_learn__X9_leastRest gX7_learn_X9_leastRest (ci := 8) rfl (lt_k hn (by omega)) hX.1.2.1 rfl (Nat.le_of_ble_eq_true rfl) dX7_learn_19 ?_
    rintro _ h9 ⟨rfl, e9⟩
    have e9 := e9.symm
    subst e9
    show AX w M_X7_learn 0 0 22 [.ref 42, .int (nI r), .int (nI q), .null, .null, .null] [.int (nI (leN o))] _ _
    refine AX.istore_n (pc := 22) (L' := [.ref 42, .int (nI r), .int (nI q), .int (nI (leN o)), .null, .null]) dX7_learn_22 (by decide) rfl ?_
    refine AX.iload_n (pc := 23) dX7_learn_23 rfl ?_
    refine AX.istore (pc := 24) (L' := [.ref 42, .int (nI r), .int (nI q), .int (nI (leN o)), .int (nI (leN o)), .null]) dX7_learn_24 (by decide) rfl ?_
    exact l_learnOut w _ h r2 q1 q2 (fun h' p q1' q2' q3 => ⟨rfl, p, q1', q2', q3.less (fun a b b1 b2 b3 b4 z => by omega)⟩) (r + 1 - leN o) (leN o) h (by omega) (Nat.le_refl _) hn hX hW (hK.less (fun a b b1 b2 b3 b4 z => by omega)) Same.rf
  · refine AX.vret (pc := 14) dX7_learn_14 rfl (by decide) (by decide) ?_
    exact ⟨rfl, Same.rf, hX, hW, ⟨f0, f1, a0, a1, fs, e44, e45, e47, e48, e49, fun a b a1 b1 a2 b2 => ((e6.is r1 q1 r2 q2 hc11) a b a1 b1 a2 b2).imp (fun z => ⟨z.1, fun y => z.2 (Or.inr y)⟩) id⟩⟩
theorem c_wonBy0 (w : XW) (h : XH) {o r q : Nat} {H : Nat → Nat × Nat} (hn : 57 ≤ h.1) (hX : RX h o H) (hW : RW h) (hK : RK h o H (fun _ _ => False)) (r1 : leN o ≤ r) (q1 : leN o ≤ q) (r2 : r ≤ 24) (q2 : q ≤ 24) : CA w M_X7_wonBy [.ref 42, .int (nI 0), .int (nI r), .int (nI q)] h (fun v' h' => v' = some (.double (rcV o H r q).1) ∧ Same [44, 45, 47, 48, 49, 51, 52, 54, 55, 56] h h' ∧ RX h' o H ∧ RW h' ∧ RK h' o H (fun _ _ => False)) := by
  refine CA.of (by decide) rfl (fun _ => Nat.le_of_ble_eq_true rfl) ?_
  have hle : leN o ≤ 2 := by unfold leN; split <;> omega
  show AX w M_X7_wonBy 0 0 0 [.ref 42, .int (nI 0), .int (nI r), .int (nI q)] [] h _
  refine AX.aload_n (pc := 0) dX7_wonBy_0 rfl ?_
  refine AX.iload_n (pc := 1) dX7_wonBy_1 rfl ?_
  refine AX.iload_n (pc := 2) dX7_wonBy_2 rfl ?_
  refine AX.callV (pc := 3) (M2 := M_X7_learn) (As := [.int (nI r), .int (nI q)]) (rest := []) (c_learn w h hn hX hW hK r1 q1 r2 q2) xc_X7_wonBy__X7_learn gX7_wonBy_X7_learn (ci := 6) rfl (lt_k hn (by omega)) hX.2.2.1.1 rfl (Nat.le_of_ble_eq_true rfl) dX7_wonBy_3 ?_
  rintro _ h1 ⟨rfl, s1, X1, W1, K1⟩
  obtain ⟨f43, e43, q43⟩ := id X1.2.2.1.2.2.1
  obtain ⟨f46, e46, q46⟩ := id X1.2.2.1.2.2.2.1
  obtain ⟨f0, f1, a0, a1, fs, e44, e45, e47, e48, e49, e6⟩ := id K1
  have hv := e6.of r1 q1 r2 q2 (Or.inl ⟨rfl, rfl⟩)
  have K2 := K1.less (D' := fun _ _ => False) (fun a b b1 b2 b3 b4 z => z.elim)
  show AX w M_X7_wonBy 0 0 6 [.ref 42, .int (nI 0), .int (nI r), .int (nI q)] [] _ _
  refine AX.aload_n (pc := 6) dX7_wonBy_6 rfl ?_
  refine AX.getf (pc := 7) fX7_wonBy_13 (lt_k (s1.le hn) (by omega)) X1.2.2.1.1 rfl dX7_wonBy_7 ?_
  refine AX.iload_n (pc := 10) dX7_wonBy_10 rfl ?_
  refine AX.aaldN (pc := 11) (i := 0) (b := 44) (by decide) (lt_k (s1.le hn) (by omega)) e43 (by decide) (by decide) (q43 _ (by omega)) dX7_wonBy_11 ?_
  refine AX.iload_n (pc := 12) dX7_wonBy_12 rfl ?_
  refine AX.bipush (pc := 13) (v := nI 25) dX7_wonBy_13 (by decide) ?_
  refine AX.imulN (pc := 15) (c := r * 25) dX7_wonBy_15 rfl ?_
  refine AX.iload_n (pc := 16) dX7_wonBy_16 rfl ?_
  refine AX.iaddN (pc := 17) (c := r * 25 + q) dX7_wonBy_17 rfl ?_
  refine AX.daldN (pc := 18) (i := r * 25 + q) (v := ((rcV o H r q).1)) (lt_k (s1.le hn) (by omega)) e44 (by decide) (by omega) hv.2.1 dX7_wonBy_18 ?_
  refine AX.dret (pc := 19) dX7_wonBy_19 rfl (by decide) (by decide) ?_
  exact ⟨rfl, s1, X1, W1, K2⟩
theorem c_aimOf0 (w : XW) (h : XH) {o r q : Nat} {H : Nat → Nat × Nat} (hn : 57 ≤ h.1) (hX : RX h o H) (hW : RW h) (hK : RK h o H (fun _ _ => False)) (r1 : leN o ≤ r) (q1 : leN o ≤ q) (r2 : r ≤ 24) (q2 : q ≤ 24) : CA w M_X7_aimOf [.ref 42, .int (nI 0), .int (nI r), .int (nI q)] h (fun v' h' => v' = some (.int (nI (rcV o H r q).2.2.1)) ∧ Same [44, 45, 47, 48, 49, 51, 52, 54, 55, 56] h h' ∧ RX h' o H ∧ RW h' ∧ RK h' o H (fun _ _ => False)) := by
  refine CA.of (by decide) rfl (fun _ => Nat.le_of_ble_eq_true rfl) ?_
  have hle : leN o ≤ 2 := by unfold leN; split <;> omega
  show AX w M_X7_aimOf 0 0 0 [.ref 42, .int (nI 0), .int (nI r), .int (nI q)] [] h _
  refine AX.aload_n (pc := 0) dX7_aimOf_0 rfl ?_
  refine AX.iload_n (pc := 1) dX7_aimOf_1 rfl ?_
  refine AX.iload_n (pc := 2) dX7_aimOf_2 rfl ?_
  refine AX.callV (pc := 3) (M2 := M_X7_learn) (As := [.int (nI r), .int (nI q)]) (rest := []) (c_learn w h hn hX hW hK r1 q1 r2 q2) xc_X7_aimOf__X7_learn gX7_aimOf_X7_learn (ci := 6) rfl (lt_k hn (by omega)) hX.2.2.1.1 rfl (Nat.le_of_ble_eq_true rfl) dX7_aimOf_3 ?_
  rintro _ h1 ⟨rfl, s1, X1, W1, K1⟩
  obtain ⟨f43, e43, q43⟩ := id X1.2.2.1.2.2.1
  obtain ⟨f46, e46, q46⟩ := id X1.2.2.1.2.2.2.1
  obtain ⟨f0, f1, a0, a1, fs, e44, e45, e47, e48, e49, e6⟩ := id K1
  have hv := e6.of r1 q1 r2 q2 (Or.inl ⟨rfl, rfl⟩)
  have K2 := K1.less (D' := fun _ _ => False) (fun a b b1 b2 b3 b4 z => z.elim)
  show AX w M_X7_aimOf 0 0 6 [.ref 42, .int (nI 0), .int (nI r), .int (nI q)] [] _ _
  refine AX.aload_n (pc := 6) dX7_aimOf_6 rfl ?_
  refine AX.getf (pc := 7) fX7_aimOf_18 (lt_k (s1.le hn) (by omega)) X1.2.2.1.1 rfl dX7_aimOf_7 ?_
  refine AX.iload_n (pc := 10) dX7_aimOf_10 rfl ?_
  refine AX.aaldN (pc := 11) (i := 0) (b := 47) (by decide) (lt_k (s1.le hn) (by omega)) e46 (by decide) (by decide) (q46 _ (by omega)) dX7_aimOf_11 ?_
  refine AX.iload_n (pc := 12) dX7_aimOf_12 rfl ?_
  refine AX.bipush (pc := 13) (v := nI 25) dX7_aimOf_13 (by decide) ?_
  refine AX.imulN (pc := 15) (c := r * 25) dX7_aimOf_15 rfl ?_
  refine AX.iload_n (pc := 16) dX7_aimOf_16 rfl ?_
  refine AX.iaddN (pc := 17) (c := r * 25 + q) dX7_aimOf_17 rfl ?_
  refine AX.ialdN (pc := 18) (i := r * 25 + q) (v := (nI ((rcV o H r q).2.2.1))) (lt_k (s1.le hn) (by omega)) e47 (by decide) (by omega) hv.2.2.2.1 dX7_aimOf_18 ?_
  refine AX.iret (pc := 19) dX7_aimOf_19 rfl rfl (by decide) (by decide) ?_
  exact ⟨rfl, s1, X1, W1, K2⟩
theorem c_wonBy1 (w : XW) (h : XH) {o r q : Nat} {H : Nat → Nat × Nat} (hn : 57 ≤ h.1) (hX : RX h o H) (hW : RW h) (hK : RK h o H (fun _ _ => False)) (r1 : leN o ≤ r) (q1 : leN o ≤ q) (r2 : r ≤ 24) (q2 : q ≤ 24) : CA w M_X7_wonBy [.ref 42, .int (nI 1), .int (nI r), .int (nI q)] h (fun v' h' => v' = some (.double (rcV o H r q).2.1) ∧ Same [44, 45, 47, 48, 49, 51, 52, 54, 55, 56] h h' ∧ RX h' o H ∧ RW h' ∧ RK h' o H (fun _ _ => False)) := by
  refine CA.of (by decide) rfl (fun _ => Nat.le_of_ble_eq_true rfl) ?_
  have hle : leN o ≤ 2 := by unfold leN; split <;> omega
  show AX w M_X7_wonBy 0 0 0 [.ref 42, .int (nI 1), .int (nI r), .int (nI q)] [] h _
  refine AX.aload_n (pc := 0) dX7_wonBy_0 rfl ?_
  refine AX.iload_n (pc := 1) dX7_wonBy_1 rfl ?_
  refine AX.iload_n (pc := 2) dX7_wonBy_2 rfl ?_
  refine AX.callV (pc := 3) (M2 := M_X7_learn) (As := [.int (nI r), .int (nI q)]) (rest := []) (c_learn w h hn hX hW hK r1 q1 r2 q2) xc_X7_wonBy__X7_learn gX7_wonBy_X7_learn (ci := 6) rfl (lt_k hn (by omega)) hX.2.2.1.1 rfl (Nat.le_of_ble_eq_true rfl) dX7_wonBy_3 ?_
  rintro _ h1 ⟨rfl, s1, X1, W1, K1⟩
  obtain ⟨f43, e43, q43⟩ := id X1.2.2.1.2.2.1
  obtain ⟨f46, e46, q46⟩ := id X1.2.2.1.2.2.2.1
  obtain ⟨f0, f1, a0, a1, fs, e44, e45, e47, e48, e49, e6⟩ := id K1
  have hv := e6.of r1 q1 r2 q2 (Or.inl ⟨rfl, rfl⟩)
  have K2 := K1.less (D' := fun _ _ => False) (fun a b b1 b2 b3 b4 z => z.elim)
  show AX w M_X7_wonBy 0 0 6 [.ref 42, .int (nI 1), .int (nI r), .int (nI q)] [] _ _
  refine AX.aload_n (pc := 6) dX7_wonBy_6 rfl ?_
  refine AX.getf (pc := 7) fX7_wonBy_13 (lt_k (s1.le hn) (by omega)) X1.2.2.1.1 rfl dX7_wonBy_7 ?_
  refine AX.iload_n (pc := 10) dX7_wonBy_10 rfl ?_
  refine AX.aaldN (pc := 11) (i := 1) (b := 45) (by decide) (lt_k (s1.le hn) (by omega)) e43 (by decide) (by decide) (q43 _ (by omega)) dX7_wonBy_11 ?_
  refine AX.iload_n (pc := 12) dX7_wonBy_12 rfl ?_
  refine AX.bipush (pc := 13) (v := nI 25) dX7_wonBy_13 (by decide) ?_
  refine AX.imulN (pc := 15) (c := r * 25) dX7_wonBy_15 rfl ?_
  refine AX.iload_n (pc := 16) dX7_wonBy_16 rfl ?_
  refine AX.iaddN (pc := 17) (c := r * 25 + q) dX7_wonBy_17 rfl ?_
  refine AX.daldN (pc := 18) (i := r * 25 + q) (v := ((rcV o H r q).2.1)) (lt_k (s1.le hn) (by omega)) e45 (by decide) (by omega) hv.2.2.1 dX7_wonBy_18 ?_
  refine AX.dret (pc := 19) dX7_wonBy_19 rfl (by decide) (by decide) ?_
  exact ⟨rfl, s1, X1, W1, K2⟩
theorem c_aimOf1 (w : XW) (h : XH) {o r q : Nat} {H : Nat → Nat × Nat} (hn : 57 ≤ h.1) (hX : RX h o H) (hW : RW h) (hK : RK h o H (fun _ _ => False)) (r1 : leN o ≤ r) (q1 : leN o ≤ q) (r2 : r ≤ 24) (q2 : q ≤ 24) : CA w M_X7_aimOf [.ref 42, .int (nI 1), .int (nI r), .int (nI q)] h (fun v' h' => v' = some (.int (nI (rcV o H r q).2.2.2.1)) ∧ Same [44, 45, 47, 48, 49, 51, 52, 54, 55, 56] h h' ∧ RX h' o H ∧ RW h' ∧ RK h' o H (fun _ _ => False)) := by
  refine CA.of (by decide) rfl (fun _ => Nat.le_of_ble_eq_true rfl) ?_
  have hle : leN o ≤ 2 := by unfold leN; split <;> omega
  show AX w M_X7_aimOf 0 0 0 [.ref 42, .int (nI 1), .int (nI r), .int (nI q)] [] h _
  refine AX.aload_n (pc := 0) dX7_aimOf_0 rfl ?_
  refine AX.iload_n (pc := 1) dX7_aimOf_1 rfl ?_
  refine AX.iload_n (pc := 2) dX7_aimOf_2 rfl ?_
  refine AX.callV (pc := 3) (M2 := M_X7_learn) (As := [.int (nI r), .int (nI q)]) (rest := []) (c_learn w h hn hX hW hK r1 q1 r2 q2) xc_X7_aimOf__X7_learn gX7_aimOf_X7_learn (ci := 6) rfl (lt_k hn (by omega)) hX.2.2.1.1 rfl (Nat.le_of_ble_eq_true rfl) dX7_aimOf_3 ?_
  rintro _ h1 ⟨rfl, s1, X1, W1, K1⟩
  obtain ⟨f43, e43, q43⟩ := id X1.2.2.1.2.2.1
  obtain ⟨f46, e46, q46⟩ := id X1.2.2.1.2.2.2.1
  obtain ⟨f0, f1, a0, a1, fs, e44, e45, e47, e48, e49, e6⟩ := id K1
  have hv := e6.of r1 q1 r2 q2 (Or.inl ⟨rfl, rfl⟩)
  have K2 := K1.less (D' := fun _ _ => False) (fun a b b1 b2 b3 b4 z => z.elim)
  show AX w M_X7_aimOf 0 0 6 [.ref 42, .int (nI 1), .int (nI r), .int (nI q)] [] _ _
  refine AX.aload_n (pc := 6) dX7_aimOf_6 rfl ?_
  refine AX.getf (pc := 7) fX7_aimOf_18 (lt_k (s1.le hn) (by omega)) X1.2.2.1.1 rfl dX7_aimOf_7 ?_
  refine AX.iload_n (pc := 10) dX7_aimOf_10 rfl ?_
  refine AX.aaldN (pc := 11) (i := 1) (b := 48) (by decide) (lt_k (s1.le hn) (by omega)) e46 (by decide) (by decide) (q46 _ (by omega)) dX7_aimOf_11 ?_
  refine AX.iload_n (pc := 12) dX7_aimOf_12 rfl ?_
  refine AX.bipush (pc := 13) (v := nI 25) dX7_aimOf_13 (by decide) ?_
  refine AX.imulN (pc := 15) (c := r * 25) dX7_aimOf_15 rfl ?_
  refine AX.iload_n (pc := 16) dX7_aimOf_16 rfl ?_
  refine AX.iaddN (pc := 17) (c := r * 25 + q) dX7_aimOf_17 rfl ?_
  refine AX.ialdN (pc := 18) (i := r * 25 + q) (v := (nI ((rcV o H r q).2.2.2.1))) (lt_k (s1.le hn) (by omega)) e48 (by decide) (by omega) hv.2.2.2.2 dX7_aimOf_18 ?_
  refine AX.iret (pc := 19) dX7_aimOf_19 rfl rfl (by decide) (by decide) ?_
  exact ⟨rfl, s1, X1, W1, K2⟩
theorem c_isStill (w : XW) (h : XH) {o r q : Nat} {H : Nat → Nat × Nat} (hn : 57 ≤ h.1) (hX : RX h o H) (hW : RW h) (hK : RK h o H (fun _ _ => False)) (r1 : leN o ≤ r) (q1 : leN o ≤ q) (r2 : r ≤ 24) (q2 : q ≤ 24) : CA w M_X7_isStill [.ref 42, .int (nI r), .int (nI q)] h (fun v' h' => v' = some (.int (bI (rcV o H r q).2.2.2.2)) ∧ Same [44, 45, 47, 48, 49, 51, 52, 54, 55, 56] h h' ∧ RX h' o H ∧ RW h' ∧ RK h' o H (fun _ _ => False)) := by
  refine CA.of (by decide) rfl (fun _ => Nat.le_of_ble_eq_true rfl) ?_
  have hle : leN o ≤ 2 := by unfold leN; split <;> omega
  show AX w M_X7_isStill 0 0 0 [.ref 42, .int (nI r), .int (nI q)] [] h _
  refine AX.aload_n (pc := 0) dX7_isStill_0 rfl ?_
  refine AX.iload_n (pc := 1) dX7_isStill_1 rfl ?_
  refine AX.iload_n (pc := 2) dX7_isStill_2 rfl ?_
  refine AX.callV (pc := 3) (M2 := M_X7_learn) (As := [.int (nI r), .int (nI q)]) (rest := []) (c_learn w h hn hX hW hK r1 q1 r2 q2) xc_X7_isStill__X7_learn gX7_isStill_X7_learn (ci := 6) rfl (lt_k hn (by omega)) hX.2.2.1.1 rfl (Nat.le_of_ble_eq_true rfl) dX7_isStill_3 ?_
  rintro _ h1 ⟨rfl, s1, X1, W1, K1⟩
  obtain ⟨f43, e43, q43⟩ := id X1.2.2.1.2.2.1
  obtain ⟨f46, e46, q46⟩ := id X1.2.2.1.2.2.2.1
  obtain ⟨f0, f1, a0, a1, fs, e44, e45, e47, e48, e49, e6⟩ := id K1
  have hv := e6.of r1 q1 r2 q2 (Or.inl ⟨rfl, rfl⟩)
  have K2 := K1.less (D' := fun _ _ => False) (fun a b b1 b2 b3 b4 z => z.elim)
  show AX w M_X7_isStill 0 0 6 [.ref 42, .int (nI r), .int (nI q)] [] _ _
  refine AX.aload_n (pc := 6) dX7_isStill_6 rfl ?_
  refine AX.getf (pc := 7) fX7_isStill_21 (lt_k (s1.le hn) (by omega)) X1.2.2.1.1 rfl dX7_isStill_7 ?_
  refine AX.iload_n (pc := 10) dX7_isStill_10 rfl ?_
  refine AX.bipush (pc := 11) (v := nI 25) dX7_isStill_11 (by decide) ?_
  refine AX.imulN (pc := 13) (c := r * 25) dX7_isStill_13 rfl ?_
  refine AX.iload_n (pc := 14) dX7_isStill_14 rfl ?_
  refine AX.iaddN (pc := 15) (c := r * 25 + q) dX7_isStill_15 rfl ?_
  refine AX.ialdN (pc := 16) (i := r * 25 + q) (v := (nI (if (rcV o H r q).2.2.2.2 then 2 else 1))) (lt_k (s1.le hn) (by omega)) e49 (by decide) (by omega) hv.1 dX7_isStill_16 ?_
  refine AX.iconst (pc := 17) (v := nI 2) dX7_isStill_17 (by decide) ?_
  refine AX.icmp_neN (pc := 18) (tgt := 25) dX7_isStill_18 (by decide) (by split <;> decide) (by decide) (fun hc18 => ?_) (fun hc18 => ?_)
  · refine AX.iconst (pc := 25) (v := nI 0) dX7_isStill_25 (by decide) ?_
    refine AX.iret (pc := 26) dX7_isStill_26 rfl rfl (by decide) (by decide) ?_
    have hb : (rcV o H r q).2.2.2.2 = false := by cases z : (rcV o H r q).2.2.2.2; rfl; (rw [z] at hc18; exact absurd rfl hc18)
    exact ⟨by rw [hb]; rfl, s1, X1, W1, K2⟩
  · refine AX.iconst (pc := 21) (v := nI 1) dX7_isStill_21 (by decide) ?_
    refine AX.goto (pc := 22) (tgt := 26) dX7_isStill_22 (by decide) ?_
    refine AX.iret (pc := 26) dX7_isStill_26 rfl rfl (by decide) (by decide) ?_
    have hb : (rcV o H r q).2.2.2.2 = true := by cases z : (rcV o H r q).2.2.2.2; (rw [z] at hc18; exact absurd hc18 (by decide)); rfl
    exact ⟨by rw [hb]; rfl, s1, X1, W1, K2⟩
