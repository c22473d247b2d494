/-! ===== THE REFERENCE: a pair of THE RACE laid ===== -/
theorem swA_congr {Z Z' : Nat → UInt64 × Nat} (h : ∀ a, 1 ≤ a → a < 63 → Z a = Z' a) (y : UInt64) : swA Z y = swA Z' y :=
  csel_congr _ (fun a a1 a2 => by show vlN (Z a) y = vlN (Z' a) y; rw [h a a1 (by omega)])
theorem swV_congr {Z Z' : Nat → UInt64 × Nat} (h : ∀ a, 1 ≤ a → a < 63 → Z a = Z' a) (y : UInt64) : swV Z y = swV Z' y := by
  unfold swV
  rw [swA_congr h y]
  obtain ⟨i1, i2⟩ := swA_in Z' y
  rw [h _ i1 i2]
theorem deq_sym {x y : UInt64} (h : Op.cmpValue (FP.dcmp x y) .l = 0) : deq y x = true := by
  have e := cmpl_e0 h
  exact decide_eq_true (by exact (FP.Core.dcmp_swap x y).trans (by show (FP.dcmp x y).map _ = _; rw [e]; rfl))
theorem deq_nsym {x y : UInt64} (h : Op.cmpValue (FP.dcmp x y) .l ≠ 0) : deq y x = false :=
  decide_eq_false (fun q => cmpl_e1 h ((FP.Core.dcmp_swap y x).trans (by show (FP.dcmp y x).map _ = _; rw [q]; rfl)))
/-- which pairs are laid -/
def PD (o : Nat) (H : Nat → Nat × Nat) (D : Nat → Nat → Prop) (f1 f2 : Nat → UInt64) (st : Nat → Int32) : Prop := ∀ r q, leN o ≤ r → r ≤ 24 → leN o ≤ q → q ≤ 24 → D r q → f1 (25 * r + q) = (rcV o H r q).1 ∧ f2 (25 * r + q) = (rcV o H r q).2.1 ∧ st (25 * r + q) = bI (rcV o H r q).2.2.2.2
theorem PD.off {o : Nat} {H : Nat → Nat × Nat} {D : Nat → Nat → Prop} {f1 f2 f1' f2' : Nat → UInt64} {st st' : Nat → Int32} {r q : Nat} (X : PD o H D f1 f2 st) (hD : ¬ D r q) (hq : q ≤ 24) (h : ∀ j, j ≠ 25 * r + q → f1' j = f1 j ∧ f2' j = f2 j ∧ st' j = st j) : PD o H D f1' f2' st' := fun i j i1 i2 j1 j2 d => by
  have hc : 25 * i + j ≠ 25 * r + q := fun e => hD (by
    have hi : i = r := by omega
    have hj : j = q := by omega
    subst hi; subst hj; exact d)
  obtain ⟨a, b, c⟩ := h _ hc
  rw [a, b, c]
  exact X i j i1 i2 j1 j2 d
def Zr0 (o : Nat) (H : Nat → Nat × Nat) (r q : Nat) : Nat → UInt64 × Nat := fun a => rcS o (H 0).1 (H 0).2 (fun d => (rcV o H d q).2.1) r a (fC a)
def Zr1 (o : Nat) (H : Nat → Nat × Nat) (r q : Nat) : Nat → UInt64 × Nat := fun a => rcS o (H 1).1 (H 1).2 (fun d => (rcV o H r d).1) q a (fC a)
theorem rcV_r (o : Nat) (H : Nat → Nat × Nat) (r q : Nat) : rcV o H r q = ((swN (Zr0 o H r q) (Zr1 o H r q) 12).1, (swN (Zr0 o H r q) (Zr1 o H r q) 12).2, (swA (Zr0 o H r q) (swN (Zr0 o H r q) (Zr1 o H r q) 12).2).1, (swA (Zr1 o H r q) (swN (Zr0 o H r q) (Zr1 o H r q) 12).1).1, swS (Zr0 o H r q) (Zr1 o H r q) 11) := by
  rw [rcV_eq]; rfl
theorem zr0_ok {o r q : Nat} {H : Nat → Nat × Nat} (hH : hOK H) (hr : r ≤ 24) (hq : q ≤ 24) : zOK 1500 (Zr0 o H r q) :=
  zOK_rc (hH 0).1 (hH 0).2 (fun d d1 _ => rB_mono (by omega) (rcV_ok (o := o) hH (r := d) (q := q) (by omega)).2)
theorem zr1_ok {o r q : Nat} {H : Nat → Nat × Nat} (hH : hOK H) (hr : r ≤ 24) (hq : q ≤ 24) : zOK 1500 (Zr1 o H r q) :=
  zOK_rc (hH 1).1 (hH 1).2 (fun d d1 _ => rB_mono (by omega) (rcV_ok (o := o) hH (r := r) (q := d) (by omega)).1)
theorem swN_r {o r q : Nat} {H : Nat → Nat × Nat} (hH : hOK H) (hr : r ≤ 24) (hq : q ≤ 24) (i : Nat) (hi : i ≤ 40) : rB 1600 (swN (Zr0 o H r q) (Zr1 o H r q) i).1 ∧ rB 1600 (swN (Zr0 o H r q) (Zr1 o H r q) i).2 := by
  obtain ⟨a, b⟩ := swN_ok (zr0_ok (o := o) hH hr hq) (zr1_ok (o := o) hH hr hq) (by decide) i hi
  exact ⟨rB_mono (by omega) a, rB_mono (by omega) b⟩
theorem PD.v0 {o r q : Nat} {H : Nat → Nat × Nat} {D : Nat → Nat → Prop} {f1 f2 : Nat → UInt64} {st : Nat → Int32} (X : PD o H D f1 f2 st) (hH : hOK H) (r2 : r ≤ 24) (q1 : leN o ≤ q) (q2 : q ≤ 24) (hA : ∀ d, leN o ≤ d → d < r → D d q) : (∀ d, d < r → leN o ≤ d → rB 1600 (f2 (25 * d + q))) ∧ ∀ y, swV (fun a => rcS o (H 0).1 (H 0).2 (fun d => f2 (25 * d + q)) r a (fC a)) y = swV (Zr0 o H r q) y ∧ swA (fun a => rcS o (H 0).1 (H 0).2 (fun d => f2 (25 * d + q)) r a (fC a)) y = swA (Zr0 o H r q) y := by
  have k : ∀ d, d < r → leN o ≤ d → f2 (25 * d + q) = (rcV o H d q).2.1 := fun d d1 d2 => (X d q d2 (by omega) q1 q2 (hA d d2 d1)).2.1
  have c : ∀ a, 1 ≤ a → a < 63 → rcS o (H 0).1 (H 0).2 (fun d => f2 (25 * d + q)) r a (fC a) = Zr0 o H r q a := fun a _ a2 => rcS_congr k a2 _ (Nat.le_refl _)
  exact ⟨fun d d1 d2 => by rw [k d d1 d2]; exact rB_mono (by omega) (rcV_ok (o := o) hH (r := d) (q := q) (by omega)).2, fun y => ⟨swV_congr c y, swA_congr c y⟩⟩
theorem PD.v1 {o r q : Nat} {H : Nat → Nat × Nat} {D : Nat → Nat → Prop} {f1 f2 : Nat → UInt64} {st : Nat → Int32} (X : PD o H D f1 f2 st) (hH : hOK H) (r1 : leN o ≤ r) (r2 : r ≤ 24) (q2 : q ≤ 24) (hB : ∀ d, leN o ≤ d → d < q → D r d) : (∀ d, d < q → leN o ≤ d → rB 1600 (f1 (25 * r + d))) ∧ ∀ y, swV (fun a => rcS o (H 1).1 (H 1).2 (fun d => f1 (25 * r + d)) q a (fC a)) y = swV (Zr1 o H r q) y ∧ swA (fun a => rcS o (H 1).1 (H 1).2 (fun d => f1 (25 * r + d)) q a (fC a)) y = swA (Zr1 o H r q) y := by
  have k : ∀ d, d < q → leN o ≤ d → f1 (25 * r + d) = (rcV o H r d).1 := fun d d1 d2 => (X r d r1 r2 d2 (by omega) (hB d d2 d1)).1
  have c : ∀ a, 1 ≤ a → a < 63 → rcS o (H 1).1 (H 1).2 (fun d => f1 (25 * r + d)) q a (fC a) = Zr1 o H r q a := fun a _ a2 => rcS_congr k a2 _ (Nat.le_refl _)
  exact ⟨fun d d1 d2 => by rw [k d d1 d2]; exact rB_mono (by omega) (rcV_ok (o := o) hH (r := r) (q := d) (by omega)).1, fun y => ⟨swV_congr c y, swA_congr c y⟩⟩
theorem l_lp (w : XW) (P : Option Value → XH → Prop) (h0 : XH) {v qq : Nat → Int32} {H : Nat → Nat × Nat} {o r q : Nat} {D : Nat → Nat → Prop} (hn0 : 118 ≤ h0.1) (hN0 : iA h0 89 19 qq) (ho12 : qq 12 = nI o) (hB0 : BL h0 H) (hH : hOK H) (ho : o ≤ 2) (r1 : leN o ≤ r) (r2 : r ≤ 24) (q1 : leN o ≤ q) (q2 : q ≤ 24) (hA : ∀ d, leN o ≤ d → d < r → D d q) (hB_ : ∀ d, leN o ≤ d → d < q → D r d) (hD : ¬ D r q) (hP : ∀ (h : XH) (x : Int32) (f1 f2 : Nat → UInt64) (st : Nat → Int32), MO h (upd v 3 x) → h.2 102 = .inl (2, 625, .inr (.inr (.inr (.inl (f1))))) → h.2 103 = .inl (2, 625, .inr (.inr (.inr (.inl (f2))))) → h.2 104 = .inl (1, 625, .inl (st)) → PD o H D f1 f2 st → f1 (25 * r + q) = (swN (Zr0 o H r q) (Zr1 o H r q) 12).1 → f2 (25 * r + q) = (swN (Zr0 o H r q) (Zr1 o H r q) 12).2 → (∀ j, 12 = j + 1 → st (25 * r + q) = bI (swS (Zr0 o H r q) (Zr1 o H r q) j)) → Same [87, 102, 103, 104] h0 h → P none h) : ∀ (g k : Nat) (h : XH) (x : Int32) (f1 f2 : Nat → UInt64) (st : Nat → Int32), k + g = 12 → MO h (upd v 3 x) → h.2 102 = .inl (2, 625, .inr (.inr (.inr (.inl (f1))))) → h.2 103 = .inl (2, 625, .inr (.inr (.inr (.inl (f2))))) → h.2 104 = .inl (1, 625, .inl (st)) → PD o H D f1 f2 st → f1 (25 * r + q) = (swN (Zr0 o H r q) (Zr1 o H r q) k).1 → f2 (25 * r + q) = (swN (Zr0 o H r q) (Zr1 o H r q) k).2 → (∀ j, k = j + 1 → st (25 * r + q) = bI (swS (Zr0 o H r q) (Zr1 o H r q) j)) → Same [87, 102, 103, 104] h0 h → AX w M_X12_layPair 0 0 28 [.ref 87, .int (nI r), .int (nI q), .int (nI (25 * r + q)), .int (nI (k + 1)), .null, .null, .null, .null] [] h P
  | 0, k, h, x, f1, f2, st, hg, hO, e102, e103, e104, hX, i1, i2, i3, hS => by
    have e : k = 12 := by omega
    subst e
    refine AX.iload (pc := 28) dX12_layPair_28 rfl ?_
    refine AX.bipush (pc := 30) (v := nI 12) dX12_layPair_30 (by decide) ?_
    refine AX.icmp_gtN (pc := 32) (tgt := 118) dX12_layPair_32 (by decide) (by decide) (by decide) (fun hc32 => ?_) (fun q => absurd q (by decide))
    refine AX.vret (pc := 118) dX12_layPair_118 rfl (by decide) (by decide) ?_
    exact hP h x f1 f2 st hO e102 e103 e104 hX i1 i2 i3 hS
  | g + 1, k, h, x, f1, f2, st, hg, hO, e102, e103, e104, hX, i1, i2, i3, hS => by
    have hn := hS.le hn0
    have pr := leN_pos o
    have hc : 25 * r + q < 625 := by omega
    obtain ⟨b1, b2⟩ := swN_r (o := o) hH r2 q2 k (by omega)
    obtain ⟨b1_, b2_⟩ := swN_r (o := o) hH r2 q2 (k + 1) (by omega)
    obtain ⟨v0, v0_⟩ := hX.v0 hH r2 q1 q2 hA
    have hv0 : swV (fun a => rcS o (H 0).1 (H 0).2 (fun d => f2 (25 * d + q)) r a (fC a)) (f2 (25 * r + q)) = (swN (Zr0 o H r q) (Zr1 o H r q) (k + 1)).1 := by rw [(v0_ _).1, i2]; rfl
    have hX1 : PD o H D (vf_upd f1 (25 * r + q) ((swN (Zr0 o H r q) (Zr1 o H r q) (k + 1)).1)) f2 st := hX.off hD q2 (fun j hj => ⟨vupd_off hj, rfl, rfl⟩)
    obtain ⟨v1, v1_⟩ := hX1.v1 hH r1 r2 q2 hB_
    have hv1 : swV (fun a => rcS o (H 1).1 (H 1).2 (fun d => (vf_upd f1 (25 * r + q) ((swN (Zr0 o H r q) (Zr1 o H r q) (k + 1)).1)) (25 * r + d)) q a (fC a)) ((vf_upd f1 (25 * r + q) ((swN (Zr0 o H r q) (Zr1 o H r q) (k + 1)).1)) (25 * r + q)) = (swN (Zr0 o H r q) (Zr1 o H r q) (k + 1)).2 := by rw [(v1_ _).1, vupd_at]; rfl
    refine AX.iload (pc := 28) dX12_layPair_28 rfl ?_
    refine AX.bipush (pc := 30) (v := nI 12) dX12_layPair_30 (by decide) ?_
    refine AX.icmp_gtN (pc := 32) (tgt := 118) dX12_layPair_32 (by decide) (by omega) (by decide) (fun q => absurd q (by omega)) (fun hc32 => ?_)
    refine AX.aload_n (pc := 35) dX12_layPair_35 rfl ?_
    refine AX.getf (pc := 36) fX12_layPair_53 (lt_k hn (by omega)) hO rfl dX12_layPair_36 ?_
    refine AX.iload_n (pc := 39) dX12_layPair_39 rfl ?_
    refine AX.daldN (pc := 40) (i := 25 * r + q) (v := ((swN (Zr0 o H r q) (Zr1 o H r q) k).1)) (lt_k hn (by omega)) e102 (by decide) hc i1 dX12_layPair_40 ?_
    refine AX.dstore (pc := 41) (L' := [.ref 87, .int (nI r), .int (nI q), .int (nI (25 * r + q)), .int (nI (k + 1)), .double ((swN (Zr0 o H r q) (Zr1 o H r q) k).1), .null, .null, .null]) dX12_layPair_41 (by decide) rfl ?_
    refine AX.aload_n (pc := 43) dX12_layPair_43 rfl ?_
    refine AX.getf (pc := 44) fX12_layPair_56 (lt_k hn (by omega)) hO rfl dX12_layPair_44 ?_
    refine AX.iload_n (pc := 47) dX12_layPair_47 rfl ?_
    refine AX.daldN (pc := 48) (i := 25 * r + q) (v := ((swN (Zr0 o H r q) (Zr1 o H r q) k).2)) (lt_k hn (by omega)) e103 (by decide) hc i2 dX12_layPair_48 ?_
    refine AX.dstore (pc := 49) (L' := [.ref 87, .int (nI r), .int (nI q), .int (nI (25 * r + q)), .int (nI (k + 1)), .double ((swN (Zr0 o H r q) (Zr1 o H r q) k).1), .null, .double ((swN (Zr0 o H r q) (Zr1 o H r q) k).2), .null]) dX12_layPair_49 (by decide) rfl ?_
    refine AX.aload_n (pc := 51) dX12_layPair_51 rfl ?_
    refine AX.getf (pc := 52) fX12_layPair_53 (lt_k hn (by omega)) hO rfl dX12_layPair_52 ?_
    refine AX.iload_n (pc := 55) dX12_layPair_55 rfl ?_
    refine AX.aload_n (pc := 56) dX12_layPair_56 rfl ?_
    refine AX.iconst (pc := 57) (v := nI 0) dX12_layPair_57 (by decide) ?_
    refine AX.iload_n (pc := 58) dX12_layPair_58 rfl ?_
    refine AX.iload_n (pc := 59) dX12_layPair_59 rfl ?_
    refine AX.callV (pc := 60) (M2 := M_X12_bestRace) (As := [.int (nI 0), .int (nI r), .int (nI q)]) (rest := [.int (nI (25 * r + q)), .ref 102]) (c_best0 w h hn (hN0.same hS (by simp)) ho12 ho (hB0.same hS (by simp) (by simp) (by simp)) e103 (hH 0).1 (hH 0).2 (n := 1600) (by decide) v0 (by rw [i2]; exact b2) (by omega) r2 (by omega) q2 hO) xc_X12_layPair__X12_bestRace gX12_layPair_X12_bestRace (ci := 11) rfl (lt_k hn (by omega)) hO rfl (Nat.le_of_ble_eq_true rfl) dX12_layPair_60 ?_
    rintro _ h1 ⟨rfl, s1, O1⟩
    rw [hv0]
    rw [upd_upd] at O1
    generalize nI _ = x1 at O1
    have eO1 : h1.2 87 = .inr (11, [.ref 88, .ref 89, .ref 90, .int (v 0), .int (v 1), .ref 91, .ref 92, .ref 93, .ref 94, .ref 95, .ref 96, .ref 97, .ref 98, .ref 99, .ref 100, .ref 101, .int (v 2), .ref 102, .ref 103, .ref 104, .ref 105, .ref 106, .ref 107, .ref 108, .int x1, .ref 109, .int (v 4), .ref 110, .ref 111, .int (v 5), .ref 112, .int (v 6), .int (v 7), .int (v 8), .ref 113, .int (v 9), .ref 114, .ref 115, .ref 116, .ref 117]) := O1
    show AX w M_X12_layPair 0 0 63 [.ref 87, .int (nI r), .int (nI q), .int (nI (25 * r + q)), .int (nI (k + 1)), .double ((swN (Zr0 o H r q) (Zr1 o H r q) k).1), .null, .double ((swN (Zr0 o H r q) (Zr1 o H r q) k).2), .null] [.double ((swN (Zr0 o H r q) (Zr1 o H r q) (k + 1)).1), .int (nI (25 * r + q)), .ref 102] _ _
    refine AX.dastN (pc := 63) (i := 25 * r + q) (g := vf_upd f1 (25 * r + q) ((swN (Zr0 o H r q) (Zr1 o H r q) (k + 1)).1)) (lt_k (s1.le hn) (by omega)) (s1.at (by simp) e102) (by decide) hc rfl dX12_layPair_63 ?_
    have t1 : Same [87, 102] h (xset h1 102 (.inl (2, 625, .inr (.inr (.inr (.inl (vf_upd f1 (25 * r + q) ((swN (Zr0 o H r q) (Zr1 o H r q) (k + 1)).1)))))))) := (s1.wide (by decide)).trans (Same.set Same.rf (by simp))
    have O1b : MO (xset h1 102 (.inl (2, 625, .inr (.inr (.inr (.inl (vf_upd f1 (25 * r + q) ((swN (Zr0 o H r q) (Zr1 o H r q) (k + 1)).1)))))))) (upd v 3 x1) := O1.same (show Same [102] h1 (xset h1 102 (.inl (2, 625, .inr (.inr (.inr (.inl (vf_upd f1 (25 * r + q) ((swN (Zr0 o H r q) (Zr1 o H r q) (k + 1)).1)))))))) from Same.rest) (by simp)
    refine AX.aload_n (pc := 64) dX12_layPair_64 rfl ?_
    refine AX.getf (pc := 65) fX12_layPair_56 (lt_k (s1.le hn) (by omega)) ((xset_ne (by decide)).trans eO1) rfl dX12_layPair_65 ?_
    refine AX.iload_n (pc := 68) dX12_layPair_68 rfl ?_
    refine AX.aload_n (pc := 69) dX12_layPair_69 rfl ?_
    refine AX.iconst (pc := 70) (v := nI 1) dX12_layPair_70 (by decide) ?_
    refine AX.iload_n (pc := 71) dX12_layPair_71 rfl ?_
    refine AX.iload_n (pc := 72) dX12_layPair_72 rfl ?_
    refine AX.callV (pc := 73) (M2 := M_X12_bestRace) (As := [.int (nI 1), .int (nI r), .int (nI q)]) (rest := [.int (nI (25 * r + q)), .ref 103]) (c_best1 w (xset h1 102 (.inl (2, 625, .inr (.inr (.inr (.inl (vf_upd f1 (25 * r + q) ((swN (Zr0 o H r q) (Zr1 o H r q) (k + 1)).1)))))))) (s1.le hn) ((hN0.same hS (by simp)).same t1 (by simp)) ho12 ho ((hB0.same hS (by simp) (by simp) (by simp)).same t1 (by simp) (by simp) (by simp)) (xset_same _ _ _) (hH 1).1 (hH 1).2 (n := 1600) (by decide) v1 (by rw [vupd_at]; exact b1_) (by omega) r2 (by omega) q2 O1b) xc_X12_layPair__X12_bestRace gX12_layPair_X12_bestRace (ci := 11) rfl (lt_k (s1.le hn) (by omega)) ((xset_ne (by decide)).trans eO1) rfl (Nat.le_of_ble_eq_true rfl) dX12_layPair_73 ?_
    rintro _ h2 ⟨rfl, s2, O2⟩
    rw [hv1]
    rw [upd_upd] at O2
    generalize nI _ = x2 at O2
    have eO2 : h2.2 87 = .inr (11, [.ref 88, .ref 89, .ref 90, .int (v 0), .int (v 1), .ref 91, .ref 92, .ref 93, .ref 94, .ref 95, .ref 96, .ref 97, .ref 98, .ref 99, .ref 100, .ref 101, .int (v 2), .ref 102, .ref 103, .ref 104, .ref 105, .ref 106, .ref 107, .ref 108, .int x2, .ref 109, .int (v 4), .ref 110, .ref 111, .int (v 5), .ref 112, .int (v 6), .int (v 7), .int (v 8), .ref 113, .int (v 9), .ref 114, .ref 115, .ref 116, .ref 117]) := O2
    have y102 := s2.at (k := 102) (by simp) (xset_same _ _ _ : (xset h1 102 (.inl (2, 625, .inr (.inr (.inr (.inl (vf_upd f1 (25 * r + q) ((swN (Zr0 o H r q) (Zr1 o H r q) (k + 1)).1)))))))).2 102 = _)
    have y103 := s2.at (k := 103) (by simp) (t1.at (by simp) e103)
    have y104 := s2.at (k := 104) (by simp) (t1.at (by simp) e104)
    have t2 := (t1.wide (T := [87, 102, 103, 104]) (by decide)).trans (s2.wide (by decide))
    show AX w M_X12_layPair 0 0 76 [.ref 87, .int (nI r), .int (nI q), .int (nI (25 * r + q)), .int (nI (k + 1)), .double ((swN (Zr0 o H r q) (Zr1 o H r q) k).1), .null, .double ((swN (Zr0 o H r q) (Zr1 o H r q) k).2), .null] [.double ((swN (Zr0 o H r q) (Zr1 o H r q) (k + 1)).2), .int (nI (25 * r + q)), .ref 103] _ _
    refine AX.dastN (pc := 76) (i := 25 * r + q) (g := vf_upd f2 (25 * r + q) ((swN (Zr0 o H r q) (Zr1 o H r q) (k + 1)).2)) (lt_k (s2.le (t1.le hn)) (by omega)) y103 (by decide) hc rfl dX12_layPair_76 ?_
    refine AX.aload_n (pc := 77) dX12_layPair_77 rfl ?_
    refine AX.getf (pc := 78) fX12_layPair_59 (lt_k (s2.le (t1.le hn)) (by omega)) ((xset_ne (by decide)).trans eO2) rfl dX12_layPair_78 ?_
    refine AX.iload_n (pc := 81) dX12_layPair_81 rfl ?_
    refine AX.dload (pc := 82) dX12_layPair_82 rfl ?_
    refine AX.aload_n (pc := 84) dX12_layPair_84 rfl ?_
    refine AX.getf (pc := 85) fX12_layPair_53 (lt_k (s2.le (t1.le hn)) (by omega)) ((xset_ne (by decide)).trans eO2) rfl dX12_layPair_85 ?_
    refine AX.iload_n (pc := 88) dX12_layPair_88 rfl ?_
    refine AX.daldN (pc := 89) (i := 25 * r + q) (v := ((swN (Zr0 o H r q) (Zr1 o H r q) (k + 1)).1)) (lt_k (s2.le (t1.le hn)) (by omega)) ((xset_ne (by decide)).trans y102) (by decide) hc (vupd_at _ _ _) dX12_layPair_89 ?_
    refine AX.dcmp (pc := 90) dX12_layPair_90 ?_
    refine AX.if_ne (pc := 91) (tgt := 110) dX12_layPair_91 (by decide) (fun hc91 => ?_) (fun hc91 => ?_)
    · refine AX.iconst (pc := 110) (v := nI 0) dX12_layPair_110 (by decide) ?_
      refine AX.zastN (pc := 111) (i := 25 * r + q) (g := upd st (25 * r + q) (nI 0)) (lt_k (s2.le (t1.le hn)) (by omega)) ((xset_ne (by decide)).trans y104) (by decide) hc rfl rfl dX12_layPair_111 ?_
      refine AX.iincN (c := k + 2) (pc := 112) (L' := [.ref 87, .int (nI r), .int (nI q), .int (nI (25 * r + q)), .int (nI (k + 2)), .double ((swN (Zr0 o H r q) (Zr1 o H r q) k).1), .null, .double ((swN (Zr0 o H r q) (Zr1 o H r q) k).2), .null]) dX12_layPair_112 rfl (inc1 _) (by decide) rfl ?_
      refine AX.goto (pc := 115) (tgt := 28) dX12_layPair_115 (by decide) ?_
      have tx : Same [87, 102, 103, 104] h2 (xset (xset h2 103 (.inl (2, 625, .inr (.inr (.inr (.inl (vf_upd f2 (25 * r + q) ((swN (Zr0 o H r q) (Zr1 o H r q) (k + 1)).2)))))))) 104 (.inl (1, 625, .inl (upd st (25 * r + q) (nI 0))))) := Same.set (Same.set Same.rf (by simp)) (by simp)
      have hs : bI (swS (Zr0 o H r q) (Zr1 o H r q) k) = nI 0 := by unfold swS; rw [deq_nsym hc91]; rfl
      refine AX.sub (L' := [.ref 87, .int (nI r), .int (nI q), .int (nI (25 * r + q)), .int (nI (k + 1 + 1)), .null, .null, .null, .null]) ⟨Or.inr rfl, Or.inr rfl, Or.inr rfl, Or.inr rfl, Or.inr rfl, Or.inl rfl, Or.inl rfl, Or.inl rfl, Or.inl rfl, trivial⟩ ?_
      exact l_lp w P h0 hn0 hN0 ho12 hB0 hH ho r1 r2 q1 q2 hA hB_ hD hP g (k + 1) (xset (xset h2 103 (.inl (2, 625, .inr (.inr (.inr (.inl (vf_upd f2 (25 * r + q) ((swN (Zr0 o H r q) (Zr1 o H r q) (k + 1)).2)))))))) 104 (.inl (1, 625, .inl (upd st (25 * r + q) (nI 0))))) x2 _ _ _ (by omega) (O2.same (show Same [103, 104] h2 (xset (xset h2 103 (.inl (2, 625, .inr (.inr (.inr (.inl (vf_upd f2 (25 * r + q) ((swN (Zr0 o H r q) (Zr1 o H r q) (k + 1)).2)))))))) 104 (.inl (1, 625, .inl (upd st (25 * r + q) (nI 0))))) from Same.set (Same.set Same.rf (by simp)) (by simp)) (by simp)) ((xset_ne (by decide)).trans ((xset_ne (by decide)).trans y102)) ((xset_ne (by decide)).trans (xset_same _ _ _)) (xset_same _ _ _) (hX1.off hD q2 (fun j hj => ⟨rfl, vupd_off hj, upd_off hj⟩)) (vupd_at _ _ _) (vupd_at _ _ _) (fun j hj => by cases hj; rw [upd_at]; exact hs.symm) (hS.trans (t2.trans tx))
    · refine AX.dload (pc := 94) dX12_layPair_94 rfl ?_
      refine AX.aload_n (pc := 96) dX12_layPair_96 rfl ?_
      refine AX.getf (pc := 97) fX12_layPair_56 (lt_k (s2.le (t1.le hn)) (by omega)) ((xset_ne (by decide)).trans eO2) rfl dX12_layPair_97 ?_
      refine AX.iload_n (pc := 100) dX12_layPair_100 rfl ?_
      refine AX.daldN (pc := 101) (i := 25 * r + q) (v := ((swN (Zr0 o H r q) (Zr1 o H r q) (k + 1)).2)) (lt_k (s2.le (t1.le hn)) (by omega)) (xset_same _ _ _) (by decide) hc (vupd_at _ _ _) dX12_layPair_101 ?_
      refine AX.dcmp (pc := 102) dX12_layPair_102 ?_
      refine AX.if_ne (pc := 103) (tgt := 110) dX12_layPair_103 (by decide) (fun hc103 => ?_) (fun hc103 => ?_)
      · refine AX.iconst (pc := 110) (v := nI 0) dX12_layPair_110 (by decide) ?_
        refine AX.zastN (pc := 111) (i := 25 * r + q) (g := upd st (25 * r + q) (nI 0)) (lt_k (s2.le (t1.le hn)) (by omega)) ((xset_ne (by decide)).trans y104) (by decide) hc rfl rfl dX12_layPair_111 ?_
        refine AX.iincN (c := k + 2) (pc := 112) (L' := [.ref 87, .int (nI r), .int (nI q), .int (nI (25 * r + q)), .int (nI (k + 2)), .double ((swN (Zr0 o H r q) (Zr1 o H r q) k).1), .null, .double ((swN (Zr0 o H r q) (Zr1 o H r q) k).2), .null]) dX12_layPair_112 rfl (inc1 _) (by decide) rfl ?_
        refine AX.goto (pc := 115) (tgt := 28) dX12_layPair_115 (by decide) ?_
        have tx : Same [87, 102, 103, 104] h2 (xset (xset h2 103 (.inl (2, 625, .inr (.inr (.inr (.inl (vf_upd f2 (25 * r + q) ((swN (Zr0 o H r q) (Zr1 o H r q) (k + 1)).2)))))))) 104 (.inl (1, 625, .inl (upd st (25 * r + q) (nI 0))))) := Same.set (Same.set Same.rf (by simp)) (by simp)
        have hs : bI (swS (Zr0 o H r q) (Zr1 o H r q) k) = nI 0 := by unfold swS; rw [deq_sym hc91, deq_nsym hc103]; rfl
        refine AX.sub (L' := [.ref 87, .int (nI r), .int (nI q), .int (nI (25 * r + q)), .int (nI (k + 1 + 1)), .null, .null, .null, .null]) ⟨Or.inr rfl, Or.inr rfl, Or.inr rfl, Or.inr rfl, Or.inr rfl, Or.inl rfl, Or.inl rfl, Or.inl rfl, Or.inl rfl, trivial⟩ ?_
        exact l_lp w P h0 hn0 hN0 ho12 hB0 hH ho r1 r2 q1 q2 hA hB_ hD hP g (k + 1) (xset (xset h2 103 (.inl (2, 625, .inr (.inr (.inr (.inl (vf_upd f2 (25 * r + q) ((swN (Zr0 o H r q) (Zr1 o H r q) (k + 1)).2)))))))) 104 (.inl (1, 625, .inl (upd st (25 * r + q) (nI 0))))) x2 _ _ _ (by omega) (O2.same (show Same [103, 104] h2 (xset (xset h2 103 (.inl (2, 625, .inr (.inr (.inr (.inl (vf_upd f2 (25 * r + q) ((swN (Zr0 o H r q) (Zr1 o H r q) (k + 1)).2)))))))) 104 (.inl (1, 625, .inl (upd st (25 * r + q) (nI 0))))) from Same.set (Same.set Same.rf (by simp)) (by simp)) (by simp)) ((xset_ne (by decide)).trans ((xset_ne (by decide)).trans y102)) ((xset_ne (by decide)).trans (xset_same _ _ _)) (xset_same _ _ _) (hX1.off hD q2 (fun j hj => ⟨rfl, vupd_off hj, upd_off hj⟩)) (vupd_at _ _ _) (vupd_at _ _ _) (fun j hj => by cases hj; rw [upd_at]; exact hs.symm) (hS.trans (t2.trans tx))
      · refine AX.iconst (pc := 106) (v := nI 1) dX12_layPair_106 (by decide) ?_
        refine AX.goto (pc := 107) (tgt := 111) dX12_layPair_107 (by decide) ?_
        refine AX.zastN (pc := 111) (i := 25 * r + q) (g := upd st (25 * r + q) (nI 1)) (lt_k (s2.le (t1.le hn)) (by omega)) ((xset_ne (by decide)).trans y104) (by decide) hc rfl rfl dX12_layPair_111 ?_
        refine AX.iincN (c := k + 2) (pc := 112) (L' := [.ref 87, .int (nI r), .int (nI q), .int (nI (25 * r + q)), .int (nI (k + 2)), .double ((swN (Zr0 o H r q) (Zr1 o H r q) k).1), .null, .double ((swN (Zr0 o H r q) (Zr1 o H r q) k).2), .null]) dX12_layPair_112 rfl (inc1 _) (by decide) rfl ?_
        refine AX.goto (pc := 115) (tgt := 28) dX12_layPair_115 (by decide) ?_
        have tx : Same [87, 102, 103, 104] h2 (xset (xset h2 103 (.inl (2, 625, .inr (.inr (.inr (.inl (vf_upd f2 (25 * r + q) ((swN (Zr0 o H r q) (Zr1 o H r q) (k + 1)).2)))))))) 104 (.inl (1, 625, .inl (upd st (25 * r + q) (nI 1))))) := Same.set (Same.set Same.rf (by simp)) (by simp)
        have hs : bI (swS (Zr0 o H r q) (Zr1 o H r q) k) = nI 1 := by unfold swS; rw [deq_sym hc91, deq_sym hc103]; rfl
        refine AX.sub (L' := [.ref 87, .int (nI r), .int (nI q), .int (nI (25 * r + q)), .int (nI (k + 1 + 1)), .null, .null, .null, .null]) ⟨Or.inr rfl, Or.inr rfl, Or.inr rfl, Or.inr rfl, Or.inr rfl, Or.inl rfl, Or.inl rfl, Or.inl rfl, Or.inl rfl, trivial⟩ ?_
        exact l_lp w P h0 hn0 hN0 ho12 hB0 hH ho r1 r2 q1 q2 hA hB_ hD hP g (k + 1) (xset (xset h2 103 (.inl (2, 625, .inr (.inr (.inr (.inl (vf_upd f2 (25 * r + q) ((swN (Zr0 o H r q) (Zr1 o H r q) (k + 1)).2)))))))) 104 (.inl (1, 625, .inl (upd st (25 * r + q) (nI 1))))) x2 _ _ _ (by omega) (O2.same (show Same [103, 104] h2 (xset (xset h2 103 (.inl (2, 625, .inr (.inr (.inr (.inl (vf_upd f2 (25 * r + q) ((swN (Zr0 o H r q) (Zr1 o H r q) (k + 1)).2)))))))) 104 (.inl (1, 625, .inl (upd st (25 * r + q) (nI 1))))) from Same.set (Same.set Same.rf (by simp)) (by simp)) (by simp)) ((xset_ne (by decide)).trans ((xset_ne (by decide)).trans y102)) ((xset_ne (by decide)).trans (xset_same _ _ _)) (xset_same _ _ _) (hX1.off hD q2 (fun j hj => ⟨rfl, vupd_off hj, upd_off hj⟩)) (vupd_at _ _ _) (vupd_at _ _ _) (fun j hj => by cases hj; rw [upd_at]; exact hs.symm) (hS.trans (t2.trans tx))
theorem c_layPair (w : XW) (h : XH) {v qq : Nat → Int32} {H : Nat → Nat × Nat} {o r q : Nat} {D : Nat → Nat → Prop} (hn0 : 118 ≤ h.1) (hN0 : iA h 89 19 qq) (ho12 : qq 12 = nI o) (hB0 : BL h H) (hH : hOK H) (ho : o ≤ 2) (r1 : leN o ≤ r) (r2 : r ≤ 24) (q1 : leN o ≤ q) (q2 : q ≤ 24) (hA : ∀ d, leN o ≤ d → d < r → D d q) (hB_ : ∀ d, leN o ≤ d → d < q → D r d) (hD : ¬ D r q) (hO : MO h v) {f1 f2 : Nat → UInt64} {st : Nat → Int32} (e102 : h.2 102 = .inl (2, 625, .inr (.inr (.inr (.inl (f1)))))) (e103 : h.2 103 = .inl (2, 625, .inr (.inr (.inr (.inl (f2)))))) (e104 : h.2 104 = .inl (1, 625, .inl (st))) (hX : PD o H D f1 f2 st) : CA w M_X12_layPair [.ref 87, .int (nI r), .int (nI q)] h (fun v' h' => v' = none ∧ Same [87, 102, 103, 104] h h' ∧ (∃ x, MO h' (upd v 3 x)) ∧ ∃ (g1 g2 : Nat → UInt64) (gs : Nat → Int32), h'.2 102 = .inl (2, 625, .inr (.inr (.inr (.inl (g1))))) ∧ h'.2 103 = .inl (2, 625, .inr (.inr (.inr (.inl (g2))))) ∧ h'.2 104 = .inl (1, 625, .inl (gs)) ∧ PD o H (fun i j => D i j ∨ (i = r ∧ j = q)) g1 g2 gs) := by
  refine CA.of (by decide) rfl (fun _ => Nat.le_of_ble_eq_true rfl) ?_
  have hn := hn0
  have hc : 25 * r + q < 625 := by omega
  show AX w M_X12_layPair 0 0 0 [.ref 87, .int (nI r), .int (nI q), .null, .null, .null, .null, .null, .null] [] h _
  refine AX.bipush (pc := 0) (v := nI 25) dX12_layPair_0 (by decide) ?_
  refine AX.iload_n (pc := 2) dX12_layPair_2 rfl ?_
  refine AX.imulN (pc := 3) (c := 25 * r) dX12_layPair_3 rfl ?_
  refine AX.iload_n (pc := 4) dX12_layPair_4 rfl ?_
  refine AX.iaddN (pc := 5) (c := 25 * r + q) dX12_layPair_5 rfl ?_
  refine AX.istore_n (pc := 6) (L' := [.ref 87, .int (nI r), .int (nI q), .int (nI (25 * r + q)), .null, .null, .null, .null, .null]) dX12_layPair_6 (by decide) rfl ?_
  refine AX.aload_n (pc := 7) dX12_layPair_7 rfl ?_
  refine AX.getf (pc := 8) fX12_layPair_53 (lt_k hn (by omega)) hO rfl dX12_layPair_8 ?_
  refine AX.iload_n (pc := 11) dX12_layPair_11 rfl ?_
  refine AX.ldc2d (pc := 12) (v := 4602678819172646912) dX12_layPair_12 cX12_layPair_227 ?_
  refine AX.dastN (pc := 15) (i := 25 * r + q) (g := vf_upd f1 (25 * r + q) 4602678819172646912) (lt_k hn (by omega)) e102 (by decide) hc rfl dX12_layPair_15 ?_
  refine AX.aload_n (pc := 16) dX12_layPair_16 rfl ?_
  refine AX.getf (pc := 17) fX12_layPair_56 (lt_k hn (by omega)) ((xset_ne (by decide)).trans hO) rfl dX12_layPair_17 ?_
  refine AX.iload_n (pc := 20) dX12_layPair_20 rfl ?_
  refine AX.ldc2d (pc := 21) (v := 4602678819172646912) dX12_layPair_21 cX12_layPair_227 ?_
  refine AX.dastN (pc := 24) (i := 25 * r + q) (g := vf_upd f2 (25 * r + q) 4602678819172646912) (lt_k hn (by omega)) ((xset_ne (by decide)).trans e103) (by decide) hc rfl dX12_layPair_24 ?_
  refine AX.iconst (pc := 25) (v := nI 1) dX12_layPair_25 (by decide) ?_
  refine AX.istore (pc := 26) (L' := [.ref 87, .int (nI r), .int (nI q), .int (nI (25 * r + q)), .int (nI 1), .null, .null, .null, .null]) dX12_layPair_26 (by decide) rfl ?_
  have tx : Same [87, 102, 103, 104] h (xset (xset h 102 (.inl (2, 625, .inr (.inr (.inr (.inl (vf_upd f1 (25 * r + q) 4602678819172646912))))))) 103 (.inl (2, 625, .inr (.inr (.inr (.inl (vf_upd f2 (25 * r + q) 4602678819172646912))))))) := Same.set (Same.set Same.rf (by simp)) (by simp)
  refine AX.sub (L' := [.ref 87, .int (nI r), .int (nI q), .int (nI (25 * r + q)), .int (nI 1), .null, .null, .null, .null]) ⟨Or.inr rfl, Or.inr rfl, Or.inr rfl, Or.inr rfl, Or.inr rfl, Or.inl rfl, Or.inl rfl, Or.inl rfl, Or.inl rfl, trivial⟩ ?_
  refine l_lp w _ h hn0 hN0 ho12 hB0 hH ho r1 r2 q1 q2 hA hB_ hD (v := v) (fun h2 x2 g1 g2 gs O2 y1 y2 y3 X2 z1 z2 z3 t2 => ⟨rfl, t2, ⟨x2, O2⟩, g1, g2, gs, y1, y2, y3, fun i j i1 i2 j1 j2 d => ?_⟩) 12 0 (xset (xset h 102 (.inl (2, 625, .inr (.inr (.inr (.inl (vf_upd f1 (25 * r + q) 4602678819172646912))))))) 103 (.inl (2, 625, .inr (.inr (.inr (.inl (vf_upd f2 (25 * r + q) 4602678819172646912))))))) (v 3) _ _ st rfl (by rw [upd_self]; exact hO.same (show Same [102, 103] h (xset (xset h 102 (.inl (2, 625, .inr (.inr (.inr (.inl (vf_upd f1 (25 * r + q) 4602678819172646912))))))) 103 (.inl (2, 625, .inr (.inr (.inr (.inl (vf_upd f2 (25 * r + q) 4602678819172646912))))))) from Same.set (Same.set Same.rf (by simp)) (by simp)) (by simp)) ((xset_ne (by decide)).trans (xset_same _ _ _)) (xset_same _ _ _) ((xset_ne (by decide)).trans ((xset_ne (by decide)).trans e104)) (hX.off hD q2 (fun j hj => ⟨vupd_off hj, vupd_off hj, rfl⟩)) (vupd_at _ _ _) (vupd_at _ _ _) (fun j hj => absurd hj (by omega)) tx
  rcases d with d | ⟨rfl, rfl⟩
  · exact X2 i j i1 i2 j1 j2 d
  · rw [rcV_r]; exact ⟨z1, z2, z3 11 rfl⟩
