/-! ===== THE FACE: RACKS ===== -/
abbrev RKs : Type := Nat → Option (Nat × Nat × (Nat → Int32))
abbrev inL (n : Nat) (i : Int32) : Prop := (0 : Int) ≤ i.toInt ∧ i.toInt < (n : Int)
theorem inL_nat {n : Nat} {i : Int32} (h : inL n i) : ∃ k, i = nI k ∧ k < n := by
  obtain ⟨h1, h2⟩ := h
  have h3 := i.toInt_lt
  refine ⟨i.toInt.toNat, Int32.toInt_inj.mp ?_, by omega⟩
  rw [nI_toInt (by omega)]
  omega
theorem nL {n : Nat} {i : Int32} (h : ¬ inL n i) : i.toInt < 0 ∨ (n : Int) ≤ i.toInt := by unfold inL at h; omega
def stK (k : RKs) (x : Nat) (v : Option (Nat × Nat × (Nat → Int32))) : RKs := fun j => if j = x then v else k j
def aRack (x k n : Int32) : Int32 := if inR 0 3 x then if inR 0 5 k then if inR 0 20 n then 1 else (if n.toInt < 0 then -14 else -2) else -1 else -1
def nRack (r : RKs) (x k n : Int32) : RKs := if inR 0 3 x then if inR 0 5 k then if inR 0 20 n then stK r x.toNatClampNeg (some (k.toNatClampNeg, n.toNatClampNeg, fun _ => -5)) else r else r else r
def aLaid (r : RKs) (x i : Int32) : Int32 := if inR 0 3 x then (match r x.toNatClampNeg with
  | none => -11
  | some (_, n, g) => if inL n i then g i.toNatClampNeg else -12) else -1
def aLays (r : RKs) (x i z : Int32) : Int32 := if inR 0 3 x then if z = -1 ∨ inR 0 62 z then (match r x.toNatClampNeg with
  | none => -11
  | some (k, n, _) => if inL n i then if z = -1 ∨ unN z.toNatClampNeg k = true then 1 else -16 else -12) else -1 else -1
def nLays (r : RKs) (x i z : Int32) : RKs := if inR 0 3 x then if z = -1 ∨ inR 0 62 z then (match r x.toNatClampNeg with
  | none => r
  | some (k, n, g) => if inL n i then if z = -1 ∨ unN z.toNatClampNeg k = true then stK r x.toNatClampNeg (some (k, n, upd g i.toNatClampNeg (if z = -1 then -5 else z))) else r else r) else r else r
def aLike (r : RKs) (x y : Int32) : Int32 := if inR 0 3 x then if inR 0 3 y then (match r y.toNatClampNeg with
  | none => -11
  | some (_, n, _) => nI n) else -1 else -1
def nLike (r : RKs) (x y : Int32) : RKs := if inR 0 3 x then if inR 0 3 y then (match r y.toNatClampNeg with
  | none => r
  | some p => stK r x.toNatClampNeg (some p)) else r else r
def gaS (g : Nat → Int32) (c i : Nat) : Nat → Nat := fun j => ((gaN g c i).getD j 0).toNatClampNeg
def aJudged (o : Nat) (r : RKs) (x i z : Int32) : Int32 := if inR 0 3 x then if inR (leN o) 501 z then (match r x.toNatClampNeg with
  | none => -11
  | some (_, n, g) => if inR 0 n i then nI (vdN o (gaS g (n - i.toNatClampNeg) i.toNatClampNeg) (gaN g (n - i.toNatClampNeg) i.toNatClampNeg).length 0 z.toNatClampNeg) else -12) else -2 else -1
theorem gaN_congr {f g : Nat → Int32} : ∀ c i, (∀ j, j < i + c → f j = g j) → gaN f c i = gaN g c i
  | 0, _, _ => rfl
  | c + 1, i, h => by
    unfold gaN
    rw [h i (by omega), gaN_congr c (i + 1) (fun j hj => h j (by omega))]
theorem gaN_mem {g : Nat → Int32} : ∀ c i v, v ∈ gaN g c i → ∃ j, j < i + c ∧ v = g j ∧ g j ≠ -5
  | 0, _, v, h => by cases h
  | c + 1, i, v, h => by
    unfold gaN at h
    by_cases e : g i = -5
    · rw [if_pos e] at h
      obtain ⟨j, h1, h2⟩ := gaN_mem c (i + 1) v h
      exact ⟨j, by omega, h2⟩
    · rw [if_neg e] at h
      rcases List.mem_cons.mp h with h | h
      · exact ⟨i, by omega, h, e⟩
      · obtain ⟨j, h1, h2⟩ := gaN_mem c (i + 1) v h
        exact ⟨j, by omega, h2⟩
/-- what is sure of a RACK -/
def okK (x : Option (Nat × Nat × (Nat → Int32))) : Prop := match x with
  | none => True
  | some (k, n, g) => k ≤ 5 ∧ n ≤ 20 ∧ ∀ j, j < 20 → g j = (-5) ∨ ∃ z, z < 63 ∧ g j = nI z
theorem TR.at {s : SS} (t : TR s) (r : Nat) : okK (sk s r) := t r
theorem gaS_ok {k n i : Nat} {g : Nat → Int32} (h : okK (some (k, n, g))) (hi : i ≤ n) {j : Nat} (hj : j < (gaN g (n - i) i).length) : (gaN g (n - i) i).getD j 0 = nI (gaS g (n - i) i j) ∧ gaS g (n - i) i j < 63 := by
  obtain ⟨h1, h2, h3⟩ := h
  have hm : (gaN g (n - i) i).getD j 0 ∈ gaN g (n - i) i := by
    rw [List.getD_eq_getElem?_getD, List.getElem?_eq_getElem hj]
    exact List.getElem_mem hj
  obtain ⟨m, m1, m2, m3⟩ := gaN_mem _ _ _ hm
  obtain ⟨z, z1, z2⟩ := (h3 m (by omega)).resolve_left m3
  unfold gaS
  rw [m2, z2, nI_nat (by omega)]
  exact ⟨rfl, z1⟩
theorem CSo.rx2 {h : XH} {s : SS} {o x : Nat} {a b : Nat × Nat} (c : CSo h s o a b) (hx : x ≤ 3) : ∃ m_, m_ = 78 + 2 * x ∧ RQ h m_ (sk s x) := ⟨_, rfl, c.rq x (by omega)⟩
theorem i11 : (-11 : Int32).toInt = -11 := by decide
theorem nI_i11 {n : Nat} (h : n < 100) : ¬ nI n = -11 := neT (iN n (by omega)) i11 (by omega)
theorem c_laid (w : XW) (h : XH) {s : SS} {o : Nat} {a b : Nat × Nat} (c : CSo h s o a b) (t : TR s) (x : Int32) (i : Int32) : CA w M_X11_laid [.ref 0, .int x, .int i] h (fun v' h'' => v' = some (.int (aLaid (sk s) x i)) ∧ h'' = h) := by
  obtain ⟨f77, e77, q77⟩ := id c.rr
  by_cases h_x : inR 0 3 x
  · obtain ⟨xn, rfl, l_x, u_x⟩ := inR_nat (by decide) h_x
    obtain ⟨m_, hm, kd, sz, f, RK1, RM⟩ := c.rx2 (x := xn) (by omega)
    have okk := t.at xn
    cases he : sk s xn with
    | none =>
      rw [he] at RM okk
      have RM : sz = -11 := RM
      refine CA.of (by decide) rfl (fun _ => Nat.le_of_ble_eq_true rfl) ?_
      show AX w M_X11_laid 0 0 0 [.ref 0, .int (nI xn), .int i, .null] [] h _
      refine AX.iload_n (pc := 0) dX11_laid_0 rfl ?_
      refine AX.callS (pc := 1) (M2 := M_X11_isRack) (As := [.int (nI xn)]) (rest := []) (c_isRack w h (nI xn)) xc_X11_laid__X11_isRack gX11_laid_X11_isRack rfl (Nat.le_of_ble_eq_true rfl) dX11_laid_1 ?_
      rintro _ h9 ⟨rfl, e9⟩
      have e9 := e9.symm
      subst e9
      rw [decide_eq_true (rack_iff.mpr h_x)]
      show AX w M_X11_laid 0 0 4 [.ref 0, .int (nI xn), .int i, .null] [.int (bI true)] _ _
      refine AX.if_neB (pc := 4) (tgt := 9) dX11_laid_4 (by decide) (fun hc4 => ?_) (fun q => absurd q (by decide))
      refine AX.aload_n (pc := 9) dX11_laid_9 rfl ?_
      refine AX.getf (pc := 10) fX11_laid_77 (lt_k c.hn (by omega)) c.dm rfl dX11_laid_10 ?_
      refine AX.iload_n (pc := 13) dX11_laid_13 rfl ?_
      refine AX.aaldN (pc := 14) (i := xn) (b := m_) (by decide) (lt_k c.hn (by omega)) e77 (by decide) (by omega) ((q77 xn (by omega)).trans (by rw [hm])) dX11_laid_14 ?_
      refine AX.astore_n (pc := 15) (L' := [.ref 0, .int (nI xn), .int i, .ref m_]) dX11_laid_15 (by decide) rfl ?_
      refine AX.aload_n (pc := 16) dX11_laid_16 rfl ?_
      refine AX.callV (pc := 17) (M2 := M_X8_isMissing) (As := []) (rest := []) (c_isMissing w h (K := 86) (show m_ < 86 by omega) (show 86 ≤ h.1 by have := c.hn; omega) RK1) xc_X11_laid__X8_isMissing gX11_laid_X8_isMissing (ci := 7) rfl (lt_k c.hn (by omega)) RK1.1 rfl (Nat.le_of_ble_eq_true rfl) dX11_laid_17 ?_
      rintro _ h9 ⟨rfl, e9⟩
      have e9 := e9.symm
      subst e9
      rw [decide_eq_true RM]
      show AX w M_X11_laid 0 0 20 [.ref 0, .int (nI xn), .int i, .ref m_] [.int (bI true)] _ _
      refine AX.if_eqB (pc := 20) (tgt := 26) dX11_laid_20 (by decide) (fun q => absurd q (by decide)) (fun hc20 => ?_)
      refine AX.bipush (pc := 23) (v := (-11)) dX11_laid_23 (by decide) ?_
      refine AX.iret (pc := 25) dX11_laid_25 rfl rfl (by decide) (by decide) ?_
      exact ⟨by unfold aLaid; rw [if_pos h_x, nI_nat (show xn < 2147483648 by omega), he]; try rfl, rfl⟩
    | some p =>
      rw [he] at RM okk
      obtain ⟨kk, nn, g⟩ := p
      obtain ⟨rfl, rfl, hf⟩ := RM
      have hnn : nn ≤ 20 := okk.2.1
      have hkk : kk ≤ 5 := okk.1
      by_cases hi : inL nn i
      · obtain ⟨in_, rfl, u_i⟩ := inL_nat hi
        refine CA.of (by decide) rfl (fun _ => Nat.le_of_ble_eq_true rfl) ?_
        show AX w M_X11_laid 0 0 0 [.ref 0, .int (nI xn), .int (nI in_), .null] [] h _
        refine AX.iload_n (pc := 0) dX11_laid_0 rfl ?_
        refine AX.callS (pc := 1) (M2 := M_X11_isRack) (As := [.int (nI xn)]) (rest := []) (c_isRack w h (nI xn)) xc_X11_laid__X11_isRack gX11_laid_X11_isRack rfl (Nat.le_of_ble_eq_true rfl) dX11_laid_1 ?_
        rintro _ h9 ⟨rfl, e9⟩
        have e9 := e9.symm
        subst e9
        rw [decide_eq_true (rack_iff.mpr h_x)]
        show AX w M_X11_laid 0 0 4 [.ref 0, .int (nI xn), .int (nI in_), .null] [.int (bI true)] _ _
        refine AX.if_neB (pc := 4) (tgt := 9) dX11_laid_4 (by decide) (fun hc4 => ?_) (fun q => absurd q (by decide))
        refine AX.aload_n (pc := 9) dX11_laid_9 rfl ?_
        refine AX.getf (pc := 10) fX11_laid_77 (lt_k c.hn (by omega)) c.dm rfl dX11_laid_10 ?_
        refine AX.iload_n (pc := 13) dX11_laid_13 rfl ?_
        refine AX.aaldN (pc := 14) (i := xn) (b := m_) (by decide) (lt_k c.hn (by omega)) e77 (by decide) (by omega) ((q77 xn (by omega)).trans (by rw [hm])) dX11_laid_14 ?_
        refine AX.astore_n (pc := 15) (L' := [.ref 0, .int (nI xn), .int (nI in_), .ref m_]) dX11_laid_15 (by decide) rfl ?_
        refine AX.aload_n (pc := 16) dX11_laid_16 rfl ?_
        refine AX.callV (pc := 17) (M2 := M_X8_isMissing) (As := []) (rest := []) (c_isMissing w h (K := 86) (show m_ < 86 by omega) (show 86 ≤ h.1 by have := c.hn; omega) RK1) xc_X11_laid__X8_isMissing gX11_laid_X8_isMissing (ci := 7) rfl (lt_k c.hn (by omega)) RK1.1 rfl (Nat.le_of_ble_eq_true rfl) dX11_laid_17 ?_
        rintro _ h9 ⟨rfl, e9⟩
        have e9 := e9.symm
        subst e9
        rw [decide_eq_false (nI_i11 (show nn < 100 by omega))]
        show AX w M_X11_laid 0 0 20 [.ref 0, .int (nI xn), .int (nI in_), .ref m_] [.int (bI false)] _ _
        refine AX.if_eqB (pc := 20) (tgt := 26) dX11_laid_20 (by decide) (fun hc20 => ?_) (fun q => absurd q (by decide))
        refine AX.iload_n (pc := 26) dX11_laid_26 rfl ?_
        refine AX.if_ltN (pc := 27) (tgt := 38) dX11_laid_27 (by decide) (by omega) (fun q => absurd q (by omega)) (fun hc27 => ?_)
        refine AX.iload_n (pc := 30) dX11_laid_30 rfl ?_
        refine AX.aload_n (pc := 31) dX11_laid_31 rfl ?_
        refine AX.getf (pc := 32) fX11_laid_293 (lt_k c.hn (by omega)) RK1.1 rfl dX11_laid_32 ?_
        refine AX.icmp_ltN (pc := 35) (tgt := 43) dX11_laid_35 (by decide) (by omega) (by omega) (fun hc35 => ?_) (fun q => absurd q (by omega))
        refine AX.aload_n (pc := 43) dX11_laid_43 rfl ?_
        refine AX.getf (pc := 44) fX11_laid_297 (lt_k c.hn (by omega)) RK1.1 rfl dX11_laid_44 ?_
        refine AX.iload_n (pc := 47) dX11_laid_47 rfl ?_
        refine AX.ialdN (pc := 48) (i := in_) (v := (g in_)) (lt_k c.hn (by omega)) RK1.2 (by decide) (by omega) (hf in_ (by omega)) dX11_laid_48 ?_
        refine AX.iret (pc := 49) dX11_laid_49 rfl rfl (by decide) (by decide) ?_
        exact ⟨by unfold aLaid; rw [if_pos h_x, nI_nat (show xn < 2147483648 by omega), he]; show _ = some (Value.int (if inL nn (nI in_) then _ else _)); rw [if_pos hi, nI_nat (by omega)]; try rfl, rfl⟩
      · rcases nL hi with hl | hu
        · refine CA.of (by decide) rfl (fun _ => Nat.le_of_ble_eq_true rfl) ?_
          show AX w M_X11_laid 0 0 0 [.ref 0, .int (nI xn), .int i, .null] [] h _
          refine AX.iload_n (pc := 0) dX11_laid_0 rfl ?_
          refine AX.callS (pc := 1) (M2 := M_X11_isRack) (As := [.int (nI xn)]) (rest := []) (c_isRack w h (nI xn)) xc_X11_laid__X11_isRack gX11_laid_X11_isRack rfl (Nat.le_of_ble_eq_true rfl) dX11_laid_1 ?_
          rintro _ h9 ⟨rfl, e9⟩
          have e9 := e9.symm
          subst e9
          rw [decide_eq_true (rack_iff.mpr h_x)]
          show AX w M_X11_laid 0 0 4 [.ref 0, .int (nI xn), .int i, .null] [.int (bI true)] _ _
          refine AX.if_neB (pc := 4) (tgt := 9) dX11_laid_4 (by decide) (fun hc4 => ?_) (fun q => absurd q (by decide))
          refine AX.aload_n (pc := 9) dX11_laid_9 rfl ?_
          refine AX.getf (pc := 10) fX11_laid_77 (lt_k c.hn (by omega)) c.dm rfl dX11_laid_10 ?_
          refine AX.iload_n (pc := 13) dX11_laid_13 rfl ?_
          refine AX.aaldN (pc := 14) (i := xn) (b := m_) (by decide) (lt_k c.hn (by omega)) e77 (by decide) (by omega) ((q77 xn (by omega)).trans (by rw [hm])) dX11_laid_14 ?_
          refine AX.astore_n (pc := 15) (L' := [.ref 0, .int (nI xn), .int i, .ref m_]) dX11_laid_15 (by decide) rfl ?_
          refine AX.aload_n (pc := 16) dX11_laid_16 rfl ?_
          refine AX.callV (pc := 17) (M2 := M_X8_isMissing) (As := []) (rest := []) (c_isMissing w h (K := 86) (show m_ < 86 by omega) (show 86 ≤ h.1 by have := c.hn; omega) RK1) xc_X11_laid__X8_isMissing gX11_laid_X8_isMissing (ci := 7) rfl (lt_k c.hn (by omega)) RK1.1 rfl (Nat.le_of_ble_eq_true rfl) dX11_laid_17 ?_
          rintro _ h9 ⟨rfl, e9⟩
          have e9 := e9.symm
          subst e9
          rw [decide_eq_false (nI_i11 (show nn < 100 by omega))]
          show AX w M_X11_laid 0 0 20 [.ref 0, .int (nI xn), .int i, .ref m_] [.int (bI false)] _ _
          refine AX.if_eqB (pc := 20) (tgt := 26) dX11_laid_20 (by decide) (fun hc20 => ?_) (fun q => absurd q (by decide))
          refine AX.iload_n (pc := 26) dX11_laid_26 rfl ?_
          refine AX.if_lt (pc := 27) (tgt := 38) dX11_laid_27 (by decide) (fun hc27 => ?_) (fun q => absurd (ltT rfl i0 (by omega)) q)
          refine AX.bipush (pc := 38) (v := (-12)) dX11_laid_38 (by decide) ?_
          refine AX.goto (pc := 40) (tgt := 49) dX11_laid_40 (by decide) ?_
          refine AX.iret (pc := 49) dX11_laid_49 rfl rfl (by decide) (by decide) ?_
          exact ⟨by unfold aLaid; rw [if_pos h_x, nI_nat (show xn < 2147483648 by omega), he]; show _ = some (Value.int (if inL nn i then _ else _)); rw [if_neg hi]; try rfl, rfl⟩
        · refine CA.of (by decide) rfl (fun _ => Nat.le_of_ble_eq_true rfl) ?_
          show AX w M_X11_laid 0 0 0 [.ref 0, .int (nI xn), .int i, .null] [] h _
          refine AX.iload_n (pc := 0) dX11_laid_0 rfl ?_
          refine AX.callS (pc := 1) (M2 := M_X11_isRack) (As := [.int (nI xn)]) (rest := []) (c_isRack w h (nI xn)) xc_X11_laid__X11_isRack gX11_laid_X11_isRack rfl (Nat.le_of_ble_eq_true rfl) dX11_laid_1 ?_
          rintro _ h9 ⟨rfl, e9⟩
          have e9 := e9.symm
          subst e9
          rw [decide_eq_true (rack_iff.mpr h_x)]
          show AX w M_X11_laid 0 0 4 [.ref 0, .int (nI xn), .int i, .null] [.int (bI true)] _ _
          refine AX.if_neB (pc := 4) (tgt := 9) dX11_laid_4 (by decide) (fun hc4 => ?_) (fun q => absurd q (by decide))
          refine AX.aload_n (pc := 9) dX11_laid_9 rfl ?_
          refine AX.getf (pc := 10) fX11_laid_77 (lt_k c.hn (by omega)) c.dm rfl dX11_laid_10 ?_
          refine AX.iload_n (pc := 13) dX11_laid_13 rfl ?_
          refine AX.aaldN (pc := 14) (i := xn) (b := m_) (by decide) (lt_k c.hn (by omega)) e77 (by decide) (by omega) ((q77 xn (by omega)).trans (by rw [hm])) dX11_laid_14 ?_
          refine AX.astore_n (pc := 15) (L' := [.ref 0, .int (nI xn), .int i, .ref m_]) dX11_laid_15 (by decide) rfl ?_
          refine AX.aload_n (pc := 16) dX11_laid_16 rfl ?_
          refine AX.callV (pc := 17) (M2 := M_X8_isMissing) (As := []) (rest := []) (c_isMissing w h (K := 86) (show m_ < 86 by omega) (show 86 ≤ h.1 by have := c.hn; omega) RK1) xc_X11_laid__X8_isMissing gX11_laid_X8_isMissing (ci := 7) rfl (lt_k c.hn (by omega)) RK1.1 rfl (Nat.le_of_ble_eq_true rfl) dX11_laid_17 ?_
          rintro _ h9 ⟨rfl, e9⟩
          have e9 := e9.symm
          subst e9
          rw [decide_eq_false (nI_i11 (show nn < 100 by omega))]
          show AX w M_X11_laid 0 0 20 [.ref 0, .int (nI xn), .int i, .ref m_] [.int (bI false)] _ _
          refine AX.if_eqB (pc := 20) (tgt := 26) dX11_laid_20 (by decide) (fun hc20 => ?_) (fun q => absurd q (by decide))
          refine AX.iload_n (pc := 26) dX11_laid_26 rfl ?_
          refine AX.if_lt (pc := 27) (tgt := 38) dX11_laid_27 (by decide) (fun q => absurd q (ltF rfl i0 (by omega))) (fun hc27 => ?_)
          refine AX.iload_n (pc := 30) dX11_laid_30 rfl ?_
          refine AX.aload_n (pc := 31) dX11_laid_31 rfl ?_
          refine AX.getf (pc := 32) fX11_laid_293 (lt_k c.hn (by omega)) RK1.1 rfl dX11_laid_32 ?_
          refine AX.icmp_lt (pc := 35) (tgt := 43) dX11_laid_35 (by decide) (fun q => absurd q (ltF rfl (iN nn (by omega)) (by omega))) (fun hc35 => ?_)
          refine AX.bipush (pc := 38) (v := (-12)) dX11_laid_38 (by decide) ?_
          refine AX.goto (pc := 40) (tgt := 49) dX11_laid_40 (by decide) ?_
          refine AX.iret (pc := 49) dX11_laid_49 rfl rfl (by decide) (by decide) ?_
          exact ⟨by unfold aLaid; rw [if_pos h_x, nI_nat (show xn < 2147483648 by omega), he]; show _ = some (Value.int (if inL nn i then _ else _)); rw [if_neg hi]; try rfl, rfl⟩
  · refine CA.of (by decide) rfl (fun _ => Nat.le_of_ble_eq_true rfl) ?_
    show AX w M_X11_laid 0 0 0 [.ref 0, .int x, .int i, .null] [] h _
    refine AX.iload_n (pc := 0) dX11_laid_0 rfl ?_
    refine AX.callS (pc := 1) (M2 := M_X11_isRack) (As := [.int x]) (rest := []) (c_isRack w h x) xc_X11_laid__X11_isRack gX11_laid_X11_isRack rfl (Nat.le_of_ble_eq_true rfl) dX11_laid_1 ?_
    rintro _ h9 ⟨rfl, e9⟩
    have e9 := e9.symm
    subst e9
    rw [decide_eq_false (fun q => h_x (rack_iff.mp q))]
    show AX w M_X11_laid 0 0 4 [.ref 0, .int x, .int i, .null] [.int (bI false)] _ _
    refine AX.if_neB (pc := 4) (tgt := 9) dX11_laid_4 (by decide) (fun q => absurd q (by decide)) (fun hc4 => ?_)
    refine AX.iconst (pc := 7) (v := (-1)) dX11_laid_7 (by decide) ?_
    refine AX.iret (pc := 8) dX11_laid_8 rfl rfl (by decide) (by decide) ?_
    exact ⟨by unfold aLaid; rw [if_neg h_x]; try rfl, rfl⟩
theorem c_rack (w : XW) (h : XH) {s : SS} {o : Nat} {a b : Nat × Nat} (c : CSo h s o a b) (t : TR s) (x : Int32) (k : Int32) (n : Int32) : CA w M_X11_rack [.ref 0, .int x, .int k, .int n] h (fun v' h'' => v' = some (.int (aRack x k n)) ∧ Same clS h h'' ∧ CSo h'' (wk s (nRack (sk s) x k n)) o a b) := by
  obtain ⟨f77, e77, q77⟩ := id c.rr
  by_cases h_x : inR 0 3 x
  · obtain ⟨xn, rfl, l_x, u_x⟩ := inR_nat (by decide) h_x
    by_cases h_k : inR 0 5 k
    · obtain ⟨kn, rfl, l_k, u_k⟩ := inR_nat (by decide) h_k
      by_cases h_n : inR 0 20 n
      · obtain ⟨nn, rfl, l_n, u_n⟩ := inR_nat (by decide) h_n
        have en : nRack (sk s) (nI xn) (nI kn) (nI nn) = stK (sk s) xn (some (kn, nn, fun _ => -5)) := by unfold nRack; rw [if_pos h_x, if_pos h_k, if_pos h_n, nI_nat (show xn < 2147483648 by omega), nI_nat (show kn < 2147483648 by omega), nI_nat (show nn < 2147483648 by omega)]
        rw [en]
        obtain ⟨m_, hm, kd, sz, f, RK1, RM⟩ := c.rx2 (x := xn) (by omega)
        refine CA.of (by decide) rfl (fun _ => Nat.le_of_ble_eq_true rfl) ?_
        show AX w M_X11_rack 0 0 0 [.ref 0, .int (nI xn), .int (nI kn), .int (nI nn)] [] h _
        refine AX.iload_n (pc := 0) dX11_rack_0 rfl ?_
        refine AX.callS (pc := 1) (M2 := M_X11_isRack) (As := [.int (nI xn)]) (rest := []) (c_isRack w h (nI xn)) xc_X11_rack__X11_isRack gX11_rack_X11_isRack rfl (Nat.le_of_ble_eq_true rfl) dX11_rack_1 ?_
        rintro _ h9 ⟨rfl, e9⟩
        have e9 := e9.symm
        subst e9
        rw [decide_eq_true (rack_iff.mpr h_x)]
        show AX w M_X11_rack 0 0 4 [.ref 0, .int (nI xn), .int (nI kn), .int (nI nn)] [.int (bI true)] _ _
        refine AX.if_eqB (pc := 4) (tgt := 14) dX11_rack_4 (by decide) (fun q => absurd q (by decide)) (fun hc4 => ?_)
        refine AX.iload_n (pc := 7) dX11_rack_7 rfl ?_
        refine AX.callS (pc := 8) (M2 := M_X11_isKind) (As := [.int (nI kn)]) (rest := []) (c_isKind w h (nI kn)) xc_X11_rack__X11_isKind gX11_rack_X11_isKind rfl (Nat.le_of_ble_eq_true rfl) dX11_rack_8 ?_
        rintro _ h9 ⟨rfl, e9⟩
        have e9 := e9.symm
        subst e9
        rw [decide_eq_true (kind_iff.mpr h_k)]
        show AX w M_X11_rack 0 0 11 [.ref 0, .int (nI xn), .int (nI kn), .int (nI nn)] [.int (bI true)] _ _
        refine AX.if_neB (pc := 11) (tgt := 16) dX11_rack_11 (by decide) (fun hc11 => ?_) (fun q => absurd q (by decide))
        refine AX.iload_n (pc := 16) dX11_rack_16 rfl ?_
        refine AX.bipush (pc := 17) (v := nI 20) dX11_rack_17 (by decide) ?_
        refine AX.icmp_leN (pc := 19) (tgt := 25) dX11_rack_19 (by decide) (by omega) (by decide) (fun hc19 => ?_) (fun q => absurd q (by omega))
        refine AX.iload_n (pc := 25) dX11_rack_25 rfl ?_
        refine AX.if_geN (pc := 26) (tgt := 32) dX11_rack_26 (by decide) (by omega) (fun hc26 => ?_) (fun q => absurd q (by omega))
        refine AX.aload_n (pc := 32) dX11_rack_32 rfl ?_
        refine AX.getf (pc := 33) fX11_rack_77 (lt_k c.hn (by omega)) c.dm rfl dX11_rack_33 ?_
        refine AX.iload_n (pc := 36) dX11_rack_36 rfl ?_
        refine AX.aaldN (pc := 37) (i := xn) (b := m_) (by decide) (lt_k c.hn (by omega)) e77 (by decide) (by omega) ((q77 xn (by omega)).trans (by rw [hm])) dX11_rack_37 ?_
        refine AX.iload_n (pc := 38) dX11_rack_38 rfl ?_
        refine AX.iload_n (pc := 39) dX11_rack_39 rfl ?_
        refine AX.callV (pc := 40) (M2 := M_X8_make) (As := [.int (nI kn), .int (nI nn)]) (rest := []) (c_make w h (nI kn) (nI nn) (show m_ + 2 ≤ h.1 by have := c.hn; omega) RK1) xc_X11_rack__X8_make gX11_rack_X8_make (ci := 7) rfl (lt_k c.hn (by omega)) RK1.1 rfl (Nat.le_of_ble_eq_true rfl) dX11_rack_40 ?_
        rintro _ h1 ⟨rfl, s1, g, RK2, hg⟩
        rw [hm] at s1 RK2
        have c1 : CSo h1 (wk s (stK (sk s) xn (some (kn, nn, fun _ => -5)))) o a b := c.rack (r := xn) (by omega) s1 ⟨_, _, g, RK2, rfl, rfl, hg⟩
        show AX w M_X11_rack 0 0 43 [.ref 0, .int (nI xn), .int (nI kn), .int (nI nn)] [] _ _
        refine AX.iconst (pc := 43) (v := nI 1) dX11_rack_43 (by decide) ?_
        refine AX.iret (pc := 44) dX11_rack_44 rfl rfl (by decide) (by decide) ?_
        exact ⟨by unfold aRack; rw [if_pos h_x, if_pos h_k, if_pos h_n]; try rfl, clS_in s1 (by intro k hk; simp at hk; omega), c1⟩
      · rcases nR h_n with hl | hu
        · refine CA.of (by decide) rfl (fun _ => Nat.le_of_ble_eq_true rfl) ?_
          show AX w M_X11_rack 0 0 0 [.ref 0, .int (nI xn), .int (nI kn), .int n] [] h _
          refine AX.iload_n (pc := 0) dX11_rack_0 rfl ?_
          refine AX.callS (pc := 1) (M2 := M_X11_isRack) (As := [.int (nI xn)]) (rest := []) (c_isRack w h (nI xn)) xc_X11_rack__X11_isRack gX11_rack_X11_isRack rfl (Nat.le_of_ble_eq_true rfl) dX11_rack_1 ?_
          rintro _ h9 ⟨rfl, e9⟩
          have e9 := e9.symm
          subst e9
          rw [decide_eq_true (rack_iff.mpr h_x)]
          show AX w M_X11_rack 0 0 4 [.ref 0, .int (nI xn), .int (nI kn), .int n] [.int (bI true)] _ _
          refine AX.if_eqB (pc := 4) (tgt := 14) dX11_rack_4 (by decide) (fun q => absurd q (by decide)) (fun hc4 => ?_)
          refine AX.iload_n (pc := 7) dX11_rack_7 rfl ?_
          refine AX.callS (pc := 8) (M2 := M_X11_isKind) (As := [.int (nI kn)]) (rest := []) (c_isKind w h (nI kn)) xc_X11_rack__X11_isKind gX11_rack_X11_isKind rfl (Nat.le_of_ble_eq_true rfl) dX11_rack_8 ?_
          rintro _ h9 ⟨rfl, e9⟩
          have e9 := e9.symm
          subst e9
          rw [decide_eq_true (kind_iff.mpr h_k)]
          show AX w M_X11_rack 0 0 11 [.ref 0, .int (nI xn), .int (nI kn), .int n] [.int (bI true)] _ _
          refine AX.if_neB (pc := 11) (tgt := 16) dX11_rack_11 (by decide) (fun hc11 => ?_) (fun q => absurd q (by decide))
          refine AX.iload_n (pc := 16) dX11_rack_16 rfl ?_
          refine AX.bipush (pc := 17) (v := nI 20) dX11_rack_17 (by decide) ?_
          refine AX.icmp_le (pc := 19) (tgt := 25) dX11_rack_19 (by decide) (fun hc19 => ?_) (fun q => absurd (leT rfl (iN 20 (by omega)) (by omega)) q)
          refine AX.iload_n (pc := 25) dX11_rack_25 rfl ?_
          refine AX.if_ge (pc := 26) (tgt := 32) dX11_rack_26 (by decide) (fun q => absurd q (leF i0 rfl (by omega))) (fun hc26 => ?_)
          refine AX.bipush (pc := 29) (v := (-14)) dX11_rack_29 (by decide) ?_
          refine AX.iret (pc := 31) dX11_rack_31 rfl rfl (by decide) (by decide) ?_
          have en : nRack (sk s) (nI xn) (nI kn) n = sk s := by unfold nRack; rw [if_pos h_x, if_pos h_k, if_neg h_n]
          rw [en]
          exact ⟨by unfold aRack; rw [if_pos h_x, if_pos h_k, if_neg h_n]; first | (rw [if_pos (show n.toInt < 0 by omega)]) | (rw [if_neg (by omega)]) | rfl, Same.rf, c⟩
        · refine CA.of (by decide) rfl (fun _ => Nat.le_of_ble_eq_true rfl) ?_
          show AX w M_X11_rack 0 0 0 [.ref 0, .int (nI xn), .int (nI kn), .int n] [] h _
          refine AX.iload_n (pc := 0) dX11_rack_0 rfl ?_
          refine AX.callS (pc := 1) (M2 := M_X11_isRack) (As := [.int (nI xn)]) (rest := []) (c_isRack w h (nI xn)) xc_X11_rack__X11_isRack gX11_rack_X11_isRack rfl (Nat.le_of_ble_eq_true rfl) dX11_rack_1 ?_
          rintro _ h9 ⟨rfl, e9⟩
          have e9 := e9.symm
          subst e9
          rw [decide_eq_true (rack_iff.mpr h_x)]
          show AX w M_X11_rack 0 0 4 [.ref 0, .int (nI xn), .int (nI kn), .int n] [.int (bI true)] _ _
          refine AX.if_eqB (pc := 4) (tgt := 14) dX11_rack_4 (by decide) (fun q => absurd q (by decide)) (fun hc4 => ?_)
          refine AX.iload_n (pc := 7) dX11_rack_7 rfl ?_
          refine AX.callS (pc := 8) (M2 := M_X11_isKind) (As := [.int (nI kn)]) (rest := []) (c_isKind w h (nI kn)) xc_X11_rack__X11_isKind gX11_rack_X11_isKind rfl (Nat.le_of_ble_eq_true rfl) dX11_rack_8 ?_
          rintro _ h9 ⟨rfl, e9⟩
          have e9 := e9.symm
          subst e9
          rw [decide_eq_true (kind_iff.mpr h_k)]
          show AX w M_X11_rack 0 0 11 [.ref 0, .int (nI xn), .int (nI kn), .int n] [.int (bI true)] _ _
          refine AX.if_neB (pc := 11) (tgt := 16) dX11_rack_11 (by decide) (fun hc11 => ?_) (fun q => absurd q (by decide))
          refine AX.iload_n (pc := 16) dX11_rack_16 rfl ?_
          refine AX.bipush (pc := 17) (v := nI 20) dX11_rack_17 (by decide) ?_
          refine AX.icmp_le (pc := 19) (tgt := 25) dX11_rack_19 (by decide) (fun q => absurd q (leF rfl (iN 20 (by omega)) (by omega))) (fun hc19 => ?_)
          refine AX.bipush (pc := 22) (v := (-2)) dX11_rack_22 (by decide) ?_
          refine AX.iret (pc := 24) dX11_rack_24 rfl rfl (by decide) (by decide) ?_
          have en : nRack (sk s) (nI xn) (nI kn) n = sk s := by unfold nRack; rw [if_pos h_x, if_pos h_k, if_neg h_n]
          rw [en]
          exact ⟨by unfold aRack; rw [if_pos h_x, if_pos h_k, if_neg h_n]; first | (rw [if_pos (show n.toInt < 0 by omega)]) | (rw [if_neg (by omega)]) | rfl, Same.rf, c⟩
    · refine CA.of (by decide) rfl (fun _ => Nat.le_of_ble_eq_true rfl) ?_
      show AX w M_X11_rack 0 0 0 [.ref 0, .int (nI xn), .int k, .int n] [] h _
      refine AX.iload_n (pc := 0) dX11_rack_0 rfl ?_
      refine AX.callS (pc := 1) (M2 := M_X11_isRack) (As := [.int (nI xn)]) (rest := []) (c_isRack w h (nI xn)) xc_X11_rack__X11_isRack gX11_rack_X11_isRack rfl (Nat.le_of_ble_eq_true rfl) dX11_rack_1 ?_
      rintro _ h9 ⟨rfl, e9⟩
      have e9 := e9.symm
      subst e9
      rw [decide_eq_true (rack_iff.mpr h_x)]
      show AX w M_X11_rack 0 0 4 [.ref 0, .int (nI xn), .int k, .int n] [.int (bI true)] _ _
      refine AX.if_eqB (pc := 4) (tgt := 14) dX11_rack_4 (by decide) (fun q => absurd q (by decide)) (fun hc4 => ?_)
      refine AX.iload_n (pc := 7) dX11_rack_7 rfl ?_
      refine AX.callS (pc := 8) (M2 := M_X11_isKind) (As := [.int k]) (rest := []) (c_isKind w h k) xc_X11_rack__X11_isKind gX11_rack_X11_isKind rfl (Nat.le_of_ble_eq_true rfl) dX11_rack_8 ?_
      rintro _ h9 ⟨rfl, e9⟩
      have e9 := e9.symm
      subst e9
      rw [decide_eq_false (fun q => h_k (kind_iff.mp q))]
      show AX w M_X11_rack 0 0 11 [.ref 0, .int (nI xn), .int k, .int n] [.int (bI false)] _ _
      refine AX.if_neB (pc := 11) (tgt := 16) dX11_rack_11 (by decide) (fun q => absurd q (by decide)) (fun hc11 => ?_)
      refine AX.iconst (pc := 14) (v := (-1)) dX11_rack_14 (by decide) ?_
      refine AX.iret (pc := 15) dX11_rack_15 rfl rfl (by decide) (by decide) ?_
      have en : nRack (sk s) (nI xn) k n = sk s := by unfold nRack; rw [if_pos h_x, if_neg h_k]
      rw [en]
      exact ⟨by unfold aRack; rw [if_pos h_x, if_neg h_k]; try rfl, Same.rf, c⟩
  · refine CA.of (by decide) rfl (fun _ => Nat.le_of_ble_eq_true rfl) ?_
    show AX w M_X11_rack 0 0 0 [.ref 0, .int x, .int k, .int n] [] h _
    refine AX.iload_n (pc := 0) dX11_rack_0 rfl ?_
    refine AX.callS (pc := 1) (M2 := M_X11_isRack) (As := [.int x]) (rest := []) (c_isRack w h x) xc_X11_rack__X11_isRack gX11_rack_X11_isRack rfl (Nat.le_of_ble_eq_true rfl) dX11_rack_1 ?_
    rintro _ h9 ⟨rfl, e9⟩
    have e9 := e9.symm
    subst e9
    rw [decide_eq_false (fun q => h_x (rack_iff.mp q))]
    show AX w M_X11_rack 0 0 4 [.ref 0, .int x, .int k, .int n] [.int (bI false)] _ _
    refine AX.if_eqB (pc := 4) (tgt := 14) dX11_rack_4 (by decide) (fun hc4 => ?_) (fun q => absurd q (by decide))
    refine AX.iconst (pc := 14) (v := (-1)) dX11_rack_14 (by decide) ?_
    refine AX.iret (pc := 15) dX11_rack_15 rfl rfl (by decide) (by decide) ?_
    have en : nRack (sk s) x k n = sk s := by unfold nRack; rw [if_neg h_x]
    rw [en]
    exact ⟨by unfold aRack; rw [if_neg h_x]; try rfl, Same.rf, c⟩
theorem c_like (w : XW) (h : XH) {s : SS} {o : Nat} {a b : Nat × Nat} (c : CSo h s o a b) (t : TR s) (x : Int32) (y : Int32) : CA w M_X11_like [.ref 0, .int x, .int y] h (fun v' h'' => v' = some (.int (aLike (sk s) x y)) ∧ Same clS h h'' ∧ CSo h'' (wk s (nLike (sk s) x y)) o a b) := by
  obtain ⟨f77, e77, q77⟩ := id c.rr
  by_cases h_x : inR 0 3 x
  · obtain ⟨xn, rfl, l_x, u_x⟩ := inR_nat (by decide) h_x
    by_cases h_y : inR 0 3 y
    · obtain ⟨yn, rfl, l_y, u_y⟩ := inR_nat (by decide) h_y
      obtain ⟨m_, hm, kd, sz, f, RK1, RM⟩ := c.rx2 (x := yn) (by omega)
      have okk := t.at yn
      cases he : sk s yn with
      | none =>
        rw [he] at RM okk
        have RM : sz = -11 := RM
        have en : nLike (sk s) (nI xn) (nI yn) = sk s := by unfold nLike; rw [if_pos h_x, if_pos h_y, nI_nat (show yn < 2147483648 by omega), he]
        rw [en]
        refine CA.of (by decide) rfl (fun _ => Nat.le_of_ble_eq_true rfl) ?_
        show AX w M_X11_like 0 0 0 [.ref 0, .int (nI xn), .int (nI yn)] [] h _
        refine AX.iload_n (pc := 0) dX11_like_0 rfl ?_
        refine AX.callS (pc := 1) (M2 := M_X11_isRack) (As := [.int (nI xn)]) (rest := []) (c_isRack w h (nI xn)) xc_X11_like__X11_isRack gX11_like_X11_isRack rfl (Nat.le_of_ble_eq_true rfl) dX11_like_1 ?_
        rintro _ h9 ⟨rfl, e9⟩
        have e9 := e9.symm
        subst e9
        rw [decide_eq_true (rack_iff.mpr h_x)]
        show AX w M_X11_like 0 0 4 [.ref 0, .int (nI xn), .int (nI yn)] [.int (bI true)] _ _
        refine AX.if_eqB (pc := 4) (tgt := 14) dX11_like_4 (by decide) (fun q => absurd q (by decide)) (fun hc4 => ?_)
        refine AX.iload_n (pc := 7) dX11_like_7 rfl ?_
        refine AX.callS (pc := 8) (M2 := M_X11_isRack) (As := [.int (nI yn)]) (rest := []) (c_isRack w h (nI yn)) xc_X11_like__X11_isRack gX11_like_X11_isRack rfl (Nat.le_of_ble_eq_true rfl) dX11_like_8 ?_
        rintro _ h9 ⟨rfl, e9⟩
        have e9 := e9.symm
        subst e9
        rw [decide_eq_true (rack_iff.mpr h_y)]
        show AX w M_X11_like 0 0 11 [.ref 0, .int (nI xn), .int (nI yn)] [.int (bI true)] _ _
        refine AX.if_neB (pc := 11) (tgt := 16) dX11_like_11 (by decide) (fun hc11 => ?_) (fun q => absurd q (by decide))
        refine AX.aload_n (pc := 16) dX11_like_16 rfl ?_
        refine AX.getf (pc := 17) fX11_like_77 (lt_k c.hn (by omega)) c.dm rfl dX11_like_17 ?_
        refine AX.iload_n (pc := 20) dX11_like_20 rfl ?_
        refine AX.aaldN (pc := 21) (i := yn) (b := m_) (by decide) (lt_k c.hn (by omega)) e77 (by decide) (by omega) ((q77 yn (by omega)).trans (by rw [hm])) dX11_like_21 ?_
        refine AX.callV (pc := 22) (M2 := M_X8_isMissing) (As := []) (rest := []) (c_isMissing w h (K := 86) (show m_ < 86 by omega) (show 86 ≤ h.1 by have := c.hn; omega) RK1) xc_X11_like__X8_isMissing gX11_like_X8_isMissing (ci := 7) rfl (lt_k c.hn (by omega)) RK1.1 rfl (Nat.le_of_ble_eq_true rfl) dX11_like_22 ?_
        rintro _ h9 ⟨rfl, e9⟩
        have e9 := e9.symm
        subst e9
        rw [decide_eq_true RM]
        show AX w M_X11_like 0 0 25 [.ref 0, .int (nI xn), .int (nI yn)] [.int (bI true)] _ _
        refine AX.if_eqB (pc := 25) (tgt := 31) dX11_like_25 (by decide) (fun q => absurd q (by decide)) (fun hc25 => ?_)
        refine AX.bipush (pc := 28) (v := (-11)) dX11_like_28 (by decide) ?_
        refine AX.iret (pc := 30) dX11_like_30 rfl rfl (by decide) (by decide) ?_
        exact ⟨by unfold aLike; rw [if_pos h_x, if_pos h_y, nI_nat (show yn < 2147483648 by omega), he]; try rfl, Same.rf, c⟩
      | some p =>
        rw [he] at RM okk
        obtain ⟨kk, nn, g⟩ := p
        obtain ⟨rfl, rfl, hf⟩ := RM
        have hnn : nn ≤ 20 := okk.2.1
        have hkk : kk ≤ 5 := okk.1
        have en : nLike (sk s) (nI xn) (nI yn) = stK (sk s) xn (some (kk, nn, g)) := by unfold nLike; rw [if_pos h_x, if_pos h_y, nI_nat (show yn < 2147483648 by omega), nI_nat (show xn < 2147483648 by omega), he]
        rw [en]
        by_cases hxy : xn = yn
        · subst hxy
          refine CA.of (by decide) rfl (fun _ => Nat.le_of_ble_eq_true rfl) ?_
          show AX w M_X11_like 0 0 0 [.ref 0, .int (nI xn), .int (nI xn)] [] h _
          refine AX.iload_n (pc := 0) dX11_like_0 rfl ?_
          refine AX.callS (pc := 1) (M2 := M_X11_isRack) (As := [.int (nI xn)]) (rest := []) (c_isRack w h (nI xn)) xc_X11_like__X11_isRack gX11_like_X11_isRack rfl (Nat.le_of_ble_eq_true rfl) dX11_like_1 ?_
          rintro _ h9 ⟨rfl, e9⟩
          have e9 := e9.symm
          subst e9
          rw [decide_eq_true (rack_iff.mpr h_x)]
          show AX w M_X11_like 0 0 4 [.ref 0, .int (nI xn), .int (nI xn)] [.int (bI true)] _ _
          refine AX.if_eqB (pc := 4) (tgt := 14) dX11_like_4 (by decide) (fun q => absurd q (by decide)) (fun hc4 => ?_)
          refine AX.iload_n (pc := 7) dX11_like_7 rfl ?_
          refine AX.callS (pc := 8) (M2 := M_X11_isRack) (As := [.int (nI xn)]) (rest := []) (c_isRack w h (nI xn)) xc_X11_like__X11_isRack gX11_like_X11_isRack rfl (Nat.le_of_ble_eq_true rfl) dX11_like_8 ?_
          rintro _ h9 ⟨rfl, e9⟩
          have e9 := e9.symm
          subst e9
          rw [decide_eq_true (rack_iff.mpr h_x)]
          show AX w M_X11_like 0 0 11 [.ref 0, .int (nI xn), .int (nI xn)] [.int (bI true)] _ _
          refine AX.if_neB (pc := 11) (tgt := 16) dX11_like_11 (by decide) (fun hc11 => ?_) (fun q => absurd q (by decide))
          refine AX.aload_n (pc := 16) dX11_like_16 rfl ?_
          refine AX.getf (pc := 17) fX11_like_77 (lt_k c.hn (by omega)) c.dm rfl dX11_like_17 ?_
          refine AX.iload_n (pc := 20) dX11_like_20 rfl ?_
          refine AX.aaldN (pc := 21) (i := xn) (b := m_) (by decide) (lt_k c.hn (by omega)) e77 (by decide) (by omega) ((q77 xn (by omega)).trans (by rw [hm])) dX11_like_21 ?_
          refine AX.callV (pc := 22) (M2 := M_X8_isMissing) (As := []) (rest := []) (c_isMissing w h (K := 86) (show m_ < 86 by omega) (show 86 ≤ h.1 by have := c.hn; omega) RK1) xc_X11_like__X8_isMissing gX11_like_X8_isMissing (ci := 7) rfl (lt_k c.hn (by omega)) RK1.1 rfl (Nat.le_of_ble_eq_true rfl) dX11_like_22 ?_
          rintro _ h9 ⟨rfl, e9⟩
          have e9 := e9.symm
          subst e9
          rw [decide_eq_false (nI_i11 (show nn < 100 by omega))]
          show AX w M_X11_like 0 0 25 [.ref 0, .int (nI xn), .int (nI xn)] [.int (bI false)] _ _
          refine AX.if_eqB (pc := 25) (tgt := 31) dX11_like_25 (by decide) (fun hc25 => ?_) (fun q => absurd q (by decide))
          refine AX.aload_n (pc := 31) dX11_like_31 rfl ?_
          refine AX.getf (pc := 32) fX11_like_77 (lt_k c.hn (by omega)) c.dm rfl dX11_like_32 ?_
          refine AX.iload_n (pc := 35) dX11_like_35 rfl ?_
          refine AX.aaldN (pc := 36) (i := xn) (b := m_) (by decide) (lt_k c.hn (by omega)) e77 (by decide) (by omega) ((q77 xn (by omega)).trans (by rw [hm])) dX11_like_36 ?_
          refine AX.aload_n (pc := 37) dX11_like_37 rfl ?_
          refine AX.getf (pc := 38) fX11_like_77 (lt_k c.hn (by omega)) c.dm rfl dX11_like_38 ?_
          refine AX.iload_n (pc := 41) dX11_like_41 rfl ?_
          refine AX.aaldN (pc := 42) (i := xn) (b := m_) (by decide) (lt_k c.hn (by omega)) e77 (by decide) (by omega) ((q77 xn (by omega)).trans (by rw [hm])) dX11_like_42 ?_
          refine AX.callV (pc := 43) (M2 := M_X8_become) (As := [.ref m_]) (rest := []) (c_rBecomeSelf w h (show 86 ≤ h.1 by have := c.hn; omega) (show m_ + 2 ≤ 86 by omega) RK1) xc_X11_like__X8_become gX11_like_X8_become (ci := 7) rfl (lt_k c.hn (by omega)) RK1.1 rfl (Nat.le_of_ble_eq_true rfl) dX11_like_43 ?_
          rintro _ h1 ⟨rfl, s1, g1, RK2, hg⟩
          have c1 : CSo h1 (wk s (stK (sk s) xn (some (kk, nn, g)))) o a b := c.rack (r := xn) (by omega) (hm ▸ s1) (hm ▸ ⟨_, _, g1, RK2, rfl, rfl, fun j hj => (hg j hj).trans (hf j hj)⟩)
          show AX w M_X11_like 0 0 46 [.ref 0, .int (nI xn), .int (nI xn)] [] _ _
          refine AX.aload_n (pc := 46) dX11_like_46 rfl ?_
          refine AX.getf (pc := 47) fX11_like_77 (lt_k (s1.le c.hn) (by omega)) (s1.at (by simp <;> omega) c.dm) rfl dX11_like_47 ?_
          refine AX.iload_n (pc := 50) dX11_like_50 rfl ?_
          refine AX.aaldN (pc := 51) (i := xn) (b := m_) (by decide) (lt_k (s1.le c.hn) (by omega)) (s1.at (by simp <;> omega) e77) (by decide) (by omega) ((q77 xn (by omega)).trans (by rw [hm])) dX11_like_51 ?_
          refine AX.getf (pc := 52) fX11_like_293 (lt_k (s1.le c.hn) (by omega)) RK2.1 rfl dX11_like_52 ?_
          refine AX.iret (pc := 55) dX11_like_55 rfl rfl (by decide) (by decide) ?_
          exact ⟨by unfold aLike; rw [if_pos h_x, if_pos h_y, nI_nat (show xn < 2147483648 by omega), he]; try rfl, clS_in s1 (by intro k hk; simp at hk; omega), c1⟩
        · obtain ⟨d_, hd, kd2, sz2, f2, RKd, RMd⟩ := c.rx2 (x := xn) (by omega)
          refine CA.of (by decide) rfl (fun _ => Nat.le_of_ble_eq_true rfl) ?_
          show AX w M_X11_like 0 0 0 [.ref 0, .int (nI xn), .int (nI yn)] [] h _
          refine AX.iload_n (pc := 0) dX11_like_0 rfl ?_
          refine AX.callS (pc := 1) (M2 := M_X11_isRack) (As := [.int (nI xn)]) (rest := []) (c_isRack w h (nI xn)) xc_X11_like__X11_isRack gX11_like_X11_isRack rfl (Nat.le_of_ble_eq_true rfl) dX11_like_1 ?_
          rintro _ h9 ⟨rfl, e9⟩
          have e9 := e9.symm
          subst e9
          rw [decide_eq_true (rack_iff.mpr h_x)]
          show AX w M_X11_like 0 0 4 [.ref 0, .int (nI xn), .int (nI yn)] [.int (bI true)] _ _
          refine AX.if_eqB (pc := 4) (tgt := 14) dX11_like_4 (by decide) (fun q => absurd q (by decide)) (fun hc4 => ?_)
          refine AX.iload_n (pc := 7) dX11_like_7 rfl ?_
          refine AX.callS (pc := 8) (M2 := M_X11_isRack) (As := [.int (nI yn)]) (rest := []) (c_isRack w h (nI yn)) xc_X11_like__X11_isRack gX11_like_X11_isRack rfl (Nat.le_of_ble_eq_true rfl) dX11_like_8 ?_
          rintro _ h9 ⟨rfl, e9⟩
          have e9 := e9.symm
          subst e9
          rw [decide_eq_true (rack_iff.mpr h_y)]
          show AX w M_X11_like 0 0 11 [.ref 0, .int (nI xn), .int (nI yn)] [.int (bI true)] _ _
          refine AX.if_neB (pc := 11) (tgt := 16) dX11_like_11 (by decide) (fun hc11 => ?_) (fun q => absurd q (by decide))
          refine AX.aload_n (pc := 16) dX11_like_16 rfl ?_
          refine AX.getf (pc := 17) fX11_like_77 (lt_k c.hn (by omega)) c.dm rfl dX11_like_17 ?_
          refine AX.iload_n (pc := 20) dX11_like_20 rfl ?_
          refine AX.aaldN (pc := 21) (i := yn) (b := m_) (by decide) (lt_k c.hn (by omega)) e77 (by decide) (by omega) ((q77 yn (by omega)).trans (by rw [hm])) dX11_like_21 ?_
          refine AX.callV (pc := 22) (M2 := M_X8_isMissing) (As := []) (rest := []) (c_isMissing w h (K := 86) (show m_ < 86 by omega) (show 86 ≤ h.1 by have := c.hn; omega) RK1) xc_X11_like__X8_isMissing gX11_like_X8_isMissing (ci := 7) rfl (lt_k c.hn (by omega)) RK1.1 rfl (Nat.le_of_ble_eq_true rfl) dX11_like_22 ?_
          rintro _ h9 ⟨rfl, e9⟩
          have e9 := e9.symm
          subst e9
          rw [decide_eq_false (nI_i11 (show nn < 100 by omega))]
          show AX w M_X11_like 0 0 25 [.ref 0, .int (nI xn), .int (nI yn)] [.int (bI false)] _ _
          refine AX.if_eqB (pc := 25) (tgt := 31) dX11_like_25 (by decide) (fun hc25 => ?_) (fun q => absurd q (by decide))
          refine AX.aload_n (pc := 31) dX11_like_31 rfl ?_
          refine AX.getf (pc := 32) fX11_like_77 (lt_k c.hn (by omega)) c.dm rfl dX11_like_32 ?_
          refine AX.iload_n (pc := 35) dX11_like_35 rfl ?_
          refine AX.aaldN (pc := 36) (i := xn) (b := d_) (by decide) (lt_k c.hn (by omega)) e77 (by decide) (by omega) ((q77 xn (by omega)).trans (by rw [hd])) dX11_like_36 ?_
          refine AX.aload_n (pc := 37) dX11_like_37 rfl ?_
          refine AX.getf (pc := 38) fX11_like_77 (lt_k c.hn (by omega)) c.dm rfl dX11_like_38 ?_
          refine AX.iload_n (pc := 41) dX11_like_41 rfl ?_
          refine AX.aaldN (pc := 42) (i := yn) (b := m_) (by decide) (lt_k c.hn (by omega)) e77 (by decide) (by omega) ((q77 yn (by omega)).trans (by rw [hm])) dX11_like_42 ?_
          refine AX.callV (pc := 43) (M2 := M_X8_become) (As := [.ref m_]) (rest := []) (c_rBecome w h (show m_ + 1 < d_ ∨ d_ + 1 < m_ by omega) (show 86 ≤ h.1 by have := c.hn; omega) (show d_ + 2 ≤ 86 by omega) (show m_ + 2 ≤ 86 by omega) RKd RK1) xc_X11_like__X8_become gX11_like_X8_become (ci := 7) rfl (lt_k c.hn (by omega)) RKd.1 rfl (Nat.le_of_ble_eq_true rfl) dX11_like_43 ?_
          rintro _ h1 ⟨rfl, s1, g1, RK2, hg⟩
          have c1 : CSo h1 (wk s (stK (sk s) xn (some (kk, nn, g)))) o a b := c.rack (r := xn) (by omega) (hd ▸ s1) (hd ▸ ⟨_, _, g1, RK2, rfl, rfl, fun j hj => (hg j hj).trans (hf j hj)⟩)
          show AX w M_X11_like 0 0 46 [.ref 0, .int (nI xn), .int (nI yn)] [] _ _
          refine AX.aload_n (pc := 46) dX11_like_46 rfl ?_
          refine AX.getf (pc := 47) fX11_like_77 (lt_k (s1.le c.hn) (by omega)) (s1.at (by simp <;> omega) c.dm) rfl dX11_like_47 ?_
          refine AX.iload_n (pc := 50) dX11_like_50 rfl ?_
          refine AX.aaldN (pc := 51) (i := xn) (b := d_) (by decide) (lt_k (s1.le c.hn) (by omega)) (s1.at (by simp <;> omega) e77) (by decide) (by omega) ((q77 xn (by omega)).trans (by rw [hd])) dX11_like_51 ?_
          refine AX.getf (pc := 52) fX11_like_293 (lt_k (s1.le c.hn) (by omega)) RK2.1 rfl dX11_like_52 ?_
          refine AX.iret (pc := 55) dX11_like_55 rfl rfl (by decide) (by decide) ?_
          exact ⟨by unfold aLike; rw [if_pos h_x, if_pos h_y, nI_nat (show yn < 2147483648 by omega), he]; try rfl, clS_in s1 (by intro k hk; simp at hk; omega), c1⟩
    · refine CA.of (by decide) rfl (fun _ => Nat.le_of_ble_eq_true rfl) ?_
      show AX w M_X11_like 0 0 0 [.ref 0, .int (nI xn), .int y] [] h _
      refine AX.iload_n (pc := 0) dX11_like_0 rfl ?_
      refine AX.callS (pc := 1) (M2 := M_X11_isRack) (As := [.int (nI xn)]) (rest := []) (c_isRack w h (nI xn)) xc_X11_like__X11_isRack gX11_like_X11_isRack rfl (Nat.le_of_ble_eq_true rfl) dX11_like_1 ?_
      rintro _ h9 ⟨rfl, e9⟩
      have e9 := e9.symm
      subst e9
      rw [decide_eq_true (rack_iff.mpr h_x)]
      show AX w M_X11_like 0 0 4 [.ref 0, .int (nI xn), .int y] [.int (bI true)] _ _
      refine AX.if_eqB (pc := 4) (tgt := 14) dX11_like_4 (by decide) (fun q => absurd q (by decide)) (fun hc4 => ?_)
      refine AX.iload_n (pc := 7) dX11_like_7 rfl ?_
      refine AX.callS (pc := 8) (M2 := M_X11_isRack) (As := [.int y]) (rest := []) (c_isRack w h y) xc_X11_like__X11_isRack gX11_like_X11_isRack rfl (Nat.le_of_ble_eq_true rfl) dX11_like_8 ?_
      rintro _ h9 ⟨rfl, e9⟩
      have e9 := e9.symm
      subst e9
      rw [decide_eq_false (fun q => h_y (rack_iff.mp q))]
      show AX w M_X11_like 0 0 11 [.ref 0, .int (nI xn), .int y] [.int (bI false)] _ _
      refine AX.if_neB (pc := 11) (tgt := 16) dX11_like_11 (by decide) (fun q => absurd q (by decide)) (fun hc11 => ?_)
      refine AX.iconst (pc := 14) (v := (-1)) dX11_like_14 (by decide) ?_
      refine AX.iret (pc := 15) dX11_like_15 rfl rfl (by decide) (by decide) ?_
      have en : nLike (sk s) (nI xn) y = sk s := by unfold nLike; rw [if_pos h_x, if_neg h_y]
      rw [en]
      exact ⟨by unfold aLike; rw [if_pos h_x, if_neg h_y]; try rfl, Same.rf, c⟩
  · refine CA.of (by decide) rfl (fun _ => Nat.le_of_ble_eq_true rfl) ?_
    show AX w M_X11_like 0 0 0 [.ref 0, .int x, .int y] [] h _
    refine AX.iload_n (pc := 0) dX11_like_0 rfl ?_
    refine AX.callS (pc := 1) (M2 := M_X11_isRack) (As := [.int x]) (rest := []) (c_isRack w h x) xc_X11_like__X11_isRack gX11_like_X11_isRack rfl (Nat.le_of_ble_eq_true rfl) dX11_like_1 ?_
    rintro _ h9 ⟨rfl, e9⟩
    have e9 := e9.symm
    subst e9
    rw [decide_eq_false (fun q => h_x (rack_iff.mp q))]
    show AX w M_X11_like 0 0 4 [.ref 0, .int x, .int y] [.int (bI false)] _ _
    refine AX.if_eqB (pc := 4) (tgt := 14) dX11_like_4 (by decide) (fun hc4 => ?_) (fun q => absurd q (by decide))
    refine AX.iconst (pc := 14) (v := (-1)) dX11_like_14 (by decide) ?_
    refine AX.iret (pc := 15) dX11_like_15 rfl rfl (by decide) (by decide) ?_
    have en : nLike (sk s) x y = sk s := by unfold nLike; rw [if_neg h_x]
    rw [en]
    exact ⟨by unfold aLike; rw [if_neg h_x]; try rfl, Same.rf, c⟩
theorem c_judged (w : XW) (h : XH) {s : SS} {o : Nat} {a b : Nat × Nat} (c : CSo h s o a b) (t : TR s) (x : Int32) (i : Int32) (z : Int32) : CA w M_X11_judged [.ref 0, .int x, .int i, .int z] h (fun v' h'' => v' = some (.int (aJudged o (sk s) x i z)) ∧ Same clS h h'' ∧ CSo h'' s o a b) := by
  obtain ⟨f77, e77, q77⟩ := id c.rr
  obtain ⟨f86, e86⟩ := id c.ro
  by_cases h_x : inR 0 3 x
  · obtain ⟨xn, rfl, l_x, u_x⟩ := inR_nat (by decide) h_x
    by_cases h_z : inR (leN o) 501 z
    · obtain ⟨zn, rfl, l_z, u_z⟩ := inR_nat (by decide) h_z
      have p_z := leN_pos o
      obtain ⟨m_, hm, kd, sz, f, RK1, RM⟩ := c.rx2 (x := xn) (by omega)
      have okk := t.at xn
      cases he : sk s xn with
      | none =>
        rw [he] at RM okk
        have RM : sz = -11 := RM
        refine CA.of (by decide) rfl (fun _ => Nat.le_of_ble_eq_true rfl) ?_
        show AX w M_X11_judged 0 0 0 [.ref 0, .int (nI xn), .int i, .int (nI zn), .null] [] h _
        refine AX.iload_n (pc := 0) dX11_judged_0 rfl ?_
        refine AX.callS (pc := 1) (M2 := M_X11_isRack) (As := [.int (nI xn)]) (rest := []) (c_isRack w h (nI xn)) xc_X11_judged__X11_isRack gX11_judged_X11_isRack rfl (Nat.le_of_ble_eq_true rfl) dX11_judged_1 ?_
        rintro _ h9 ⟨rfl, e9⟩
        have e9 := e9.symm
        subst e9
        rw [decide_eq_true (rack_iff.mpr h_x)]
        show AX w M_X11_judged 0 0 4 [.ref 0, .int (nI xn), .int i, .int (nI zn), .null] [.int (bI true)] _ _
        refine AX.if_neB (pc := 4) (tgt := 9) dX11_judged_4 (by decide) (fun hc4 => ?_) (fun q => absurd q (by decide))
        refine AX.aload_n (pc := 9) dX11_judged_9 rfl ?_
        refine AX.iload_n (pc := 10) dX11_judged_10 rfl ?_
        refine AX.sipush (pc := 11) (v := nI 501) dX11_judged_11 (by decide) ?_
        refine AX.callV (pc := 14) (M2 := M_X11_isRestUpTo) (As := [.int (nI zn), .int (nI 501)]) (rest := []) (c_isRestUpTo w h (nI zn) 501 c.hn c.dm c.ru) xc_X11_judged__X11_isRestUpTo gX11_judged_X11_isRestUpTo (ci := 10) rfl (lt_k c.hn (by omega)) c.dm rfl (Nat.le_of_ble_eq_true rfl) dX11_judged_14 ?_
        rintro _ h9 ⟨rfl, e9⟩
        have e9 := e9.symm
        subst e9
        rw [decide_eq_true ((rest_iff (by decide)).mpr h_z)]
        show AX w M_X11_judged 0 0 17 [.ref 0, .int (nI xn), .int i, .int (nI zn), .null] [.int (bI true)] _ _
        refine AX.if_neB (pc := 17) (tgt := 23) dX11_judged_17 (by decide) (fun hc17 => ?_) (fun q => absurd q (by decide))
        refine AX.aload_n (pc := 23) dX11_judged_23 rfl ?_
        refine AX.getf (pc := 24) fX11_judged_77 (lt_k c.hn (by omega)) c.dm rfl dX11_judged_24 ?_
        refine AX.iload_n (pc := 27) dX11_judged_27 rfl ?_
        refine AX.aaldN (pc := 28) (i := xn) (b := m_) (by decide) (lt_k c.hn (by omega)) e77 (by decide) (by omega) ((q77 xn (by omega)).trans (by rw [hm])) dX11_judged_28 ?_
        refine AX.astore (pc := 29) (L' := [.ref 0, .int (nI xn), .int i, .int (nI zn), .ref m_]) dX11_judged_29 (by decide) rfl ?_
        refine AX.aload (pc := 31) dX11_judged_31 rfl ?_
        refine AX.callV (pc := 33) (M2 := M_X8_isMissing) (As := []) (rest := []) (c_isMissing w h (K := 86) (show m_ < 86 by omega) (show 86 ≤ h.1 by have := c.hn; omega) RK1) xc_X11_judged__X8_isMissing gX11_judged_X8_isMissing (ci := 7) rfl (lt_k c.hn (by omega)) RK1.1 rfl (Nat.le_of_ble_eq_true rfl) dX11_judged_33 ?_
        rintro _ h9 ⟨rfl, e9⟩
        have e9 := e9.symm
        subst e9
        rw [decide_eq_true RM]
        show AX w M_X11_judged 0 0 36 [.ref 0, .int (nI xn), .int i, .int (nI zn), .ref m_] [.int (bI true)] _ _
        refine AX.if_eqB (pc := 36) (tgt := 42) dX11_judged_36 (by decide) (fun q => absurd q (by decide)) (fun hc36 => ?_)
        refine AX.bipush (pc := 39) (v := (-11)) dX11_judged_39 (by decide) ?_
        refine AX.iret (pc := 41) dX11_judged_41 rfl rfl (by decide) (by decide) ?_
        exact ⟨by unfold aJudged; rw [if_pos h_x, if_pos h_z, nI_nat (show xn < 2147483648 by omega), he]; try rfl, Same.rf, c⟩
      | some p =>
        rw [he] at RM okk
        obtain ⟨kk, nn, g⟩ := p
        obtain ⟨rfl, rfl, hf⟩ := RM
        have hnn : nn ≤ 20 := okk.2.1
        have hkk : kk ≤ 5 := okk.1
        by_cases hi : inR 0 nn i
        · obtain ⟨in_, rfl, l_i, u_i⟩ := inR_nat (show nn < 2147483648 by omega) hi
          have hga : gaN f (nn - in_) in_ = gaN g (nn - in_) in_ := gaN_congr _ _ (fun j hj => hf j (by omega))
          have hgl := gaN_le f (nn - in_) in_
          refine CA.of (by decide) rfl (fun _ => Nat.le_of_ble_eq_true rfl) ?_
          show AX w M_X11_judged 0 0 0 [.ref 0, .int (nI xn), .int (nI in_), .int (nI zn), .null] [] h _
          refine AX.iload_n (pc := 0) dX11_judged_0 rfl ?_
          refine AX.callS (pc := 1) (M2 := M_X11_isRack) (As := [.int (nI xn)]) (rest := []) (c_isRack w h (nI xn)) xc_X11_judged__X11_isRack gX11_judged_X11_isRack rfl (Nat.le_of_ble_eq_true rfl) dX11_judged_1 ?_
          rintro _ h9 ⟨rfl, e9⟩
          have e9 := e9.symm
          subst e9
          rw [decide_eq_true (rack_iff.mpr h_x)]
          show AX w M_X11_judged 0 0 4 [.ref 0, .int (nI xn), .int (nI in_), .int (nI zn), .null] [.int (bI true)] _ _
          refine AX.if_neB (pc := 4) (tgt := 9) dX11_judged_4 (by decide) (fun hc4 => ?_) (fun q => absurd q (by decide))
          refine AX.aload_n (pc := 9) dX11_judged_9 rfl ?_
          refine AX.iload_n (pc := 10) dX11_judged_10 rfl ?_
          refine AX.sipush (pc := 11) (v := nI 501) dX11_judged_11 (by decide) ?_
          refine AX.callV (pc := 14) (M2 := M_X11_isRestUpTo) (As := [.int (nI zn), .int (nI 501)]) (rest := []) (c_isRestUpTo w h (nI zn) 501 c.hn c.dm c.ru) xc_X11_judged__X11_isRestUpTo gX11_judged_X11_isRestUpTo (ci := 10) rfl (lt_k c.hn (by omega)) c.dm rfl (Nat.le_of_ble_eq_true rfl) dX11_judged_14 ?_
          rintro _ h9 ⟨rfl, e9⟩
          have e9 := e9.symm
          subst e9
          rw [decide_eq_true ((rest_iff (by decide)).mpr h_z)]
          show AX w M_X11_judged 0 0 17 [.ref 0, .int (nI xn), .int (nI in_), .int (nI zn), .null] [.int (bI true)] _ _
          refine AX.if_neB (pc := 17) (tgt := 23) dX11_judged_17 (by decide) (fun hc17 => ?_) (fun q => absurd q (by decide))
          refine AX.aload_n (pc := 23) dX11_judged_23 rfl ?_
          refine AX.getf (pc := 24) fX11_judged_77 (lt_k c.hn (by omega)) c.dm rfl dX11_judged_24 ?_
          refine AX.iload_n (pc := 27) dX11_judged_27 rfl ?_
          refine AX.aaldN (pc := 28) (i := xn) (b := m_) (by decide) (lt_k c.hn (by omega)) e77 (by decide) (by omega) ((q77 xn (by omega)).trans (by rw [hm])) dX11_judged_28 ?_
          refine AX.astore (pc := 29) (L' := [.ref 0, .int (nI xn), .int (nI in_), .int (nI zn), .ref m_]) dX11_judged_29 (by decide) rfl ?_
          refine AX.aload (pc := 31) dX11_judged_31 rfl ?_
          refine AX.callV (pc := 33) (M2 := M_X8_isMissing) (As := []) (rest := []) (c_isMissing w h (K := 86) (show m_ < 86 by omega) (show 86 ≤ h.1 by have := c.hn; omega) RK1) xc_X11_judged__X8_isMissing gX11_judged_X8_isMissing (ci := 7) rfl (lt_k c.hn (by omega)) RK1.1 rfl (Nat.le_of_ble_eq_true rfl) dX11_judged_33 ?_
          rintro _ h9 ⟨rfl, e9⟩
          have e9 := e9.symm
          subst e9
          rw [decide_eq_false (nI_i11 (show nn < 100 by omega))]
          show AX w M_X11_judged 0 0 36 [.ref 0, .int (nI xn), .int (nI in_), .int (nI zn), .ref m_] [.int (bI false)] _ _
          refine AX.if_eqB (pc := 36) (tgt := 42) dX11_judged_36 (by decide) (fun hc36 => ?_) (fun q => absurd q (by decide))
          refine AX.iload_n (pc := 42) dX11_judged_42 rfl ?_
          refine AX.if_ltN (pc := 43) (tgt := 55) dX11_judged_43 (by decide) (by omega) (fun q => absurd q (by omega)) (fun hc43 => ?_)
          refine AX.iload_n (pc := 46) dX11_judged_46 rfl ?_
          refine AX.aload (pc := 47) dX11_judged_47 rfl ?_
          refine AX.getf (pc := 49) fX11_judged_293 (lt_k c.hn (by omega)) RK1.1 rfl dX11_judged_49 ?_
          refine AX.icmp_leN (pc := 52) (tgt := 58) dX11_judged_52 (by decide) (by omega) (by omega) (fun hc52 => ?_) (fun q => absurd q (by omega))
          refine AX.aload_n (pc := 58) dX11_judged_58 rfl ?_
          refine AX.getf (pc := 59) fX11_judged_18 (lt_k c.hn (by omega)) c.dm rfl dX11_judged_59 ?_
          refine AX.aload_n (pc := 62) dX11_judged_62 rfl ?_
          refine AX.getf (pc := 63) fX11_judged_81 (lt_k c.hn (by omega)) c.dm rfl dX11_judged_63 ?_
          refine AX.aload (pc := 66) dX11_judged_66 rfl ?_
          refine AX.iload_n (pc := 68) dX11_judged_68 rfl ?_
          refine AX.aload_n (pc := 69) dX11_judged_69 rfl ?_
          refine AX.getf (pc := 70) fX11_judged_81 (lt_k c.hn (by omega)) c.dm rfl dX11_judged_70 ?_
          refine AX.callV (pc := 73) (M2 := M_X8_gather) (As := [.int (nI in_), .ref 86]) (rest := [.ref 86, .ref 1]) (c_gather w h (show 78 ≤ m_ by omega) (show m_ + 1 < 86 by omega) hnn u_i c.hn RK1 e86) xc_X11_judged__X8_gather gX11_judged_X8_gather (ci := 7) rfl (lt_k c.hn (by omega)) RK1.1 rfl (Nat.le_of_ble_eq_true rfl) dX11_judged_73 ?_
          rintro _ h1 ⟨rfl, s1, fr, efr, qfr⟩
          have c1 : CSo h1 s o a b := c.row86 s1 ⟨fr, efr⟩
          show AX w M_X11_judged 0 0 76 [.ref 0, .int (nI xn), .int (nI in_), .int (nI zn), .ref m_] [.int (nI ((gaN f (nn - in_) in_).length)), .ref 86, .ref 1] _ _
          refine AX.iload_n (pc := 76) dX11_judged_76 rfl ?_
          refine AX.callV (pc := 77) (M2 := M_X9_verdict) (As := [.ref 86, .int (nI ((gaN f (nn - in_) in_).length)), .int (nI zn)]) (rest := []) (c_verdict w h1 86 (gaN f (nn - in_) in_).length zn (show 4 ≤ h1.1 by have := c.hn; have := s1.1; omega) (lt_k (s1.le c.hn) (by decide)) (c.ru.same s1 (by simp) (by simp) (by simp)) efr (by decide) (by omega) (gaS g (nn - in_) in_) (fun j hj => ⟨(qfr j hj).trans (by rw [hga]; exact (gaS_ok okk u_i (hga ▸ hj)).1), (gaS_ok okk u_i (hga ▸ hj)).2⟩) u_z (by omega)) xc_X11_judged__X9_verdict gX11_judged_X9_verdict (ci := 8) rfl (lt_k (s1.le c.hn) (by omega)) (s1.at (by simp) c.ru.2.1) rfl (Nat.le_of_ble_eq_true rfl) dX11_judged_77 ?_
          rintro _ h9 ⟨rfl, e9⟩
          have e9 := e9.symm
          subst e9
          show AX w M_X11_judged 0 0 80 [.ref 0, .int (nI xn), .int (nI in_), .int (nI zn), .ref m_] [.int (nI (vdN o (gaS g (nn - in_) in_) (gaN f (nn - in_) in_).length 0 zn))] _ _
          refine AX.iret (pc := 80) dX11_judged_80 rfl rfl (by decide) (by decide) ?_
          exact ⟨by unfold aJudged; rw [if_pos h_x, if_pos h_z, nI_nat (show xn < 2147483648 by omega), he]; show _ = some (Value.int (if inR 0 nn (nI in_) then _ else _)); rw [if_pos hi, nI_nat (show in_ < 2147483648 by omega), nI_nat (show zn < 2147483648 by omega), hga]; try rfl, clS_in s1 (by decide), c1⟩
        · rcases nR hi with hl | hu
          · refine CA.of (by decide) rfl (fun _ => Nat.le_of_ble_eq_true rfl) ?_
            show AX w M_X11_judged 0 0 0 [.ref 0, .int (nI xn), .int i, .int (nI zn), .null] [] h _
            refine AX.iload_n (pc := 0) dX11_judged_0 rfl ?_
            refine AX.callS (pc := 1) (M2 := M_X11_isRack) (As := [.int (nI xn)]) (rest := []) (c_isRack w h (nI xn)) xc_X11_judged__X11_isRack gX11_judged_X11_isRack rfl (Nat.le_of_ble_eq_true rfl) dX11_judged_1 ?_
            rintro _ h9 ⟨rfl, e9⟩
            have e9 := e9.symm
            subst e9
            rw [decide_eq_true (rack_iff.mpr h_x)]
            show AX w M_X11_judged 0 0 4 [.ref 0, .int (nI xn), .int i, .int (nI zn), .null] [.int (bI true)] _ _
            refine AX.if_neB (pc := 4) (tgt := 9) dX11_judged_4 (by decide) (fun hc4 => ?_) (fun q => absurd q (by decide))
            refine AX.aload_n (pc := 9) dX11_judged_9 rfl ?_
            refine AX.iload_n (pc := 10) dX11_judged_10 rfl ?_
            refine AX.sipush (pc := 11) (v := nI 501) dX11_judged_11 (by decide) ?_
            refine AX.callV (pc := 14) (M2 := M_X11_isRestUpTo) (As := [.int (nI zn), .int (nI 501)]) (rest := []) (c_isRestUpTo w h (nI zn) 501 c.hn c.dm c.ru) xc_X11_judged__X11_isRestUpTo gX11_judged_X11_isRestUpTo (ci := 10) rfl (lt_k c.hn (by omega)) c.dm rfl (Nat.le_of_ble_eq_true rfl) dX11_judged_14 ?_
            rintro _ h9 ⟨rfl, e9⟩
            have e9 := e9.symm
            subst e9
            rw [decide_eq_true ((rest_iff (by decide)).mpr h_z)]
            show AX w M_X11_judged 0 0 17 [.ref 0, .int (nI xn), .int i, .int (nI zn), .null] [.int (bI true)] _ _
            refine AX.if_neB (pc := 17) (tgt := 23) dX11_judged_17 (by decide) (fun hc17 => ?_) (fun q => absurd q (by decide))
            refine AX.aload_n (pc := 23) dX11_judged_23 rfl ?_
            refine AX.getf (pc := 24) fX11_judged_77 (lt_k c.hn (by omega)) c.dm rfl dX11_judged_24 ?_
            refine AX.iload_n (pc := 27) dX11_judged_27 rfl ?_
            refine AX.aaldN (pc := 28) (i := xn) (b := m_) (by decide) (lt_k c.hn (by omega)) e77 (by decide) (by omega) ((q77 xn (by omega)).trans (by rw [hm])) dX11_judged_28 ?_
            refine AX.astore (pc := 29) (L' := [.ref 0, .int (nI xn), .int i, .int (nI zn), .ref m_]) dX11_judged_29 (by decide) rfl ?_
            refine AX.aload (pc := 31) dX11_judged_31 rfl ?_
            refine AX.callV (pc := 33) (M2 := M_X8_isMissing) (As := []) (rest := []) (c_isMissing w h (K := 86) (show m_ < 86 by omega) (show 86 ≤ h.1 by have := c.hn; omega) RK1) xc_X11_judged__X8_isMissing gX11_judged_X8_isMissing (ci := 7) rfl (lt_k c.hn (by omega)) RK1.1 rfl (Nat.le_of_ble_eq_true rfl) dX11_judged_33 ?_
            rintro _ h9 ⟨rfl, e9⟩
            have e9 := e9.symm
            subst e9
            rw [decide_eq_false (nI_i11 (show nn < 100 by omega))]
            show AX w M_X11_judged 0 0 36 [.ref 0, .int (nI xn), .int i, .int (nI zn), .ref m_] [.int (bI false)] _ _
            refine AX.if_eqB (pc := 36) (tgt := 42) dX11_judged_36 (by decide) (fun hc36 => ?_) (fun q => absurd q (by decide))
            refine AX.iload_n (pc := 42) dX11_judged_42 rfl ?_
            refine AX.if_lt (pc := 43) (tgt := 55) dX11_judged_43 (by decide) (fun hc43 => ?_) (fun q => absurd (ltT rfl i0 (by omega)) q)
            refine AX.bipush (pc := 55) (v := (-12)) dX11_judged_55 (by decide) ?_
            refine AX.iret (pc := 57) dX11_judged_57 rfl rfl (by decide) (by decide) ?_
            exact ⟨by unfold aJudged; rw [if_pos h_x, if_pos h_z, nI_nat (show xn < 2147483648 by omega), he]; show _ = some (Value.int (if inR 0 nn i then _ else _)); rw [if_neg hi]; try rfl, Same.rf, c⟩
          · refine CA.of (by decide) rfl (fun _ => Nat.le_of_ble_eq_true rfl) ?_
            show AX w M_X11_judged 0 0 0 [.ref 0, .int (nI xn), .int i, .int (nI zn), .null] [] h _
            refine AX.iload_n (pc := 0) dX11_judged_0 rfl ?_
            refine AX.callS (pc := 1) (M2 := M_X11_isRack) (As := [.int (nI xn)]) (rest := []) (c_isRack w h (nI xn)) xc_X11_judged__X11_isRack gX11_judged_X11_isRack rfl (Nat.le_of_ble_eq_true rfl) dX11_judged_1 ?_
            rintro _ h9 ⟨rfl, e9⟩
            have e9 := e9.symm
            subst e9
            rw [decide_eq_true (rack_iff.mpr h_x)]
            show AX w M_X11_judged 0 0 4 [.ref 0, .int (nI xn), .int i, .int (nI zn), .null] [.int (bI true)] _ _
            refine AX.if_neB (pc := 4) (tgt := 9) dX11_judged_4 (by decide) (fun hc4 => ?_) (fun q => absurd q (by decide))
            refine AX.aload_n (pc := 9) dX11_judged_9 rfl ?_
            refine AX.iload_n (pc := 10) dX11_judged_10 rfl ?_
            refine AX.sipush (pc := 11) (v := nI 501) dX11_judged_11 (by decide) ?_
            refine AX.callV (pc := 14) (M2 := M_X11_isRestUpTo) (As := [.int (nI zn), .int (nI 501)]) (rest := []) (c_isRestUpTo w h (nI zn) 501 c.hn c.dm c.ru) xc_X11_judged__X11_isRestUpTo gX11_judged_X11_isRestUpTo (ci := 10) rfl (lt_k c.hn (by omega)) c.dm rfl (Nat.le_of_ble_eq_true rfl) dX11_judged_14 ?_
            rintro _ h9 ⟨rfl, e9⟩
            have e9 := e9.symm
            subst e9
            rw [decide_eq_true ((rest_iff (by decide)).mpr h_z)]
            show AX w M_X11_judged 0 0 17 [.ref 0, .int (nI xn), .int i, .int (nI zn), .null] [.int (bI true)] _ _
            refine AX.if_neB (pc := 17) (tgt := 23) dX11_judged_17 (by decide) (fun hc17 => ?_) (fun q => absurd q (by decide))
            refine AX.aload_n (pc := 23) dX11_judged_23 rfl ?_
            refine AX.getf (pc := 24) fX11_judged_77 (lt_k c.hn (by omega)) c.dm rfl dX11_judged_24 ?_
            refine AX.iload_n (pc := 27) dX11_judged_27 rfl ?_
            refine AX.aaldN (pc := 28) (i := xn) (b := m_) (by decide) (lt_k c.hn (by omega)) e77 (by decide) (by omega) ((q77 xn (by omega)).trans (by rw [hm])) dX11_judged_28 ?_
            refine AX.astore (pc := 29) (L' := [.ref 0, .int (nI xn), .int i, .int (nI zn), .ref m_]) dX11_judged_29 (by decide) rfl ?_
            refine AX.aload (pc := 31) dX11_judged_31 rfl ?_
            refine AX.callV (pc := 33) (M2 := M_X8_isMissing) (As := []) (rest := []) (c_isMissing w h (K := 86) (show m_ < 86 by omega) (show 86 ≤ h.1 by have := c.hn; omega) RK1) xc_X11_judged__X8_isMissing gX11_judged_X8_isMissing (ci := 7) rfl (lt_k c.hn (by omega)) RK1.1 rfl (Nat.le_of_ble_eq_true rfl) dX11_judged_33 ?_
            rintro _ h9 ⟨rfl, e9⟩
            have e9 := e9.symm
            subst e9
            rw [decide_eq_false (nI_i11 (show nn < 100 by omega))]
            show AX w M_X11_judged 0 0 36 [.ref 0, .int (nI xn), .int i, .int (nI zn), .ref m_] [.int (bI false)] _ _
            refine AX.if_eqB (pc := 36) (tgt := 42) dX11_judged_36 (by decide) (fun hc36 => ?_) (fun q => absurd q (by decide))
            refine AX.iload_n (pc := 42) dX11_judged_42 rfl ?_
            refine AX.if_lt (pc := 43) (tgt := 55) dX11_judged_43 (by decide) (fun q => absurd q (ltF rfl i0 (by omega))) (fun hc43 => ?_)
            refine AX.iload_n (pc := 46) dX11_judged_46 rfl ?_
            refine AX.aload (pc := 47) dX11_judged_47 rfl ?_
            refine AX.getf (pc := 49) fX11_judged_293 (lt_k c.hn (by omega)) RK1.1 rfl dX11_judged_49 ?_
            refine AX.icmp_le (pc := 52) (tgt := 58) dX11_judged_52 (by decide) (fun q => absurd q (leF rfl (iN nn (by omega)) (by omega))) (fun hc52 => ?_)
            refine AX.bipush (pc := 55) (v := (-12)) dX11_judged_55 (by decide) ?_
            refine AX.iret (pc := 57) dX11_judged_57 rfl rfl (by decide) (by decide) ?_
            exact ⟨by unfold aJudged; rw [if_pos h_x, if_pos h_z, nI_nat (show xn < 2147483648 by omega), he]; show _ = some (Value.int (if inR 0 nn i then _ else _)); rw [if_neg hi]; try rfl, Same.rf, c⟩
    · refine CA.of (by decide) rfl (fun _ => Nat.le_of_ble_eq_true rfl) ?_
      show AX w M_X11_judged 0 0 0 [.ref 0, .int (nI xn), .int i, .int z, .null] [] h _
      refine AX.iload_n (pc := 0) dX11_judged_0 rfl ?_
      refine AX.callS (pc := 1) (M2 := M_X11_isRack) (As := [.int (nI xn)]) (rest := []) (c_isRack w h (nI xn)) xc_X11_judged__X11_isRack gX11_judged_X11_isRack rfl (Nat.le_of_ble_eq_true rfl) dX11_judged_1 ?_
      rintro _ h9 ⟨rfl, e9⟩
      have e9 := e9.symm
      subst e9
      rw [decide_eq_true (rack_iff.mpr h_x)]
      show AX w M_X11_judged 0 0 4 [.ref 0, .int (nI xn), .int i, .int z, .null] [.int (bI true)] _ _
      refine AX.if_neB (pc := 4) (tgt := 9) dX11_judged_4 (by decide) (fun hc4 => ?_) (fun q => absurd q (by decide))
      refine AX.aload_n (pc := 9) dX11_judged_9 rfl ?_
      refine AX.iload_n (pc := 10) dX11_judged_10 rfl ?_
      refine AX.sipush (pc := 11) (v := nI 501) dX11_judged_11 (by decide) ?_
      refine AX.callV (pc := 14) (M2 := M_X11_isRestUpTo) (As := [.int z, .int (nI 501)]) (rest := []) (c_isRestUpTo w h z 501 c.hn c.dm c.ru) xc_X11_judged__X11_isRestUpTo gX11_judged_X11_isRestUpTo (ci := 10) rfl (lt_k c.hn (by omega)) c.dm rfl (Nat.le_of_ble_eq_true rfl) dX11_judged_14 ?_
      rintro _ h9 ⟨rfl, e9⟩
      have e9 := e9.symm
      subst e9
      rw [decide_eq_false (fun q => h_z ((rest_iff (by decide)).mp q))]
      show AX w M_X11_judged 0 0 17 [.ref 0, .int (nI xn), .int i, .int z, .null] [.int (bI false)] _ _
      refine AX.if_neB (pc := 17) (tgt := 23) dX11_judged_17 (by decide) (fun q => absurd q (by decide)) (fun hc17 => ?_)
      refine AX.bipush (pc := 20) (v := (-2)) dX11_judged_20 (by decide) ?_
      refine AX.iret (pc := 22) dX11_judged_22 rfl rfl (by decide) (by decide) ?_
      exact ⟨by unfold aJudged; rw [if_pos h_x, if_neg h_z]; try rfl, Same.rf, c⟩
  · refine CA.of (by decide) rfl (fun _ => Nat.le_of_ble_eq_true rfl) ?_
    show AX w M_X11_judged 0 0 0 [.ref 0, .int x, .int i, .int z, .null] [] h _
    refine AX.iload_n (pc := 0) dX11_judged_0 rfl ?_
    refine AX.callS (pc := 1) (M2 := M_X11_isRack) (As := [.int x]) (rest := []) (c_isRack w h x) xc_X11_judged__X11_isRack gX11_judged_X11_isRack rfl (Nat.le_of_ble_eq_true rfl) dX11_judged_1 ?_
    rintro _ h9 ⟨rfl, e9⟩
    have e9 := e9.symm
    subst e9
    rw [decide_eq_false (fun q => h_x (rack_iff.mp q))]
    show AX w M_X11_judged 0 0 4 [.ref 0, .int x, .int i, .int z, .null] [.int (bI false)] _ _
    refine AX.if_neB (pc := 4) (tgt := 9) dX11_judged_4 (by decide) (fun q => absurd q (by decide)) (fun hc4 => ?_)
    refine AX.iconst (pc := 7) (v := (-1)) dX11_judged_7 (by decide) ?_
    refine AX.iret (pc := 8) dX11_judged_8 rfl rfl (by decide) (by decide) ?_
    exact ⟨by unfold aJudged; rw [if_neg h_x]; try rfl, Same.rf, c⟩
