/-! ===== THE FACE: FINISHES, THE PAPER ===== -/
theorem wyGo_lt {o : Nat} : ∀ (k r i : Nat), i < wyN o k r → ∀ j, j < k → 1 ≤ (wyGo o k r i).getD j 0 ∧ (wyGo o k r i).getD j 0 < 63
  | 0, _, _, _, j, hj => absurd hj (Nat.not_lt_zero _)
  | k + 1, r, i, h, j, hj => by
    obtain ⟨a, b, d, hd, hi⟩ := wyF_1 h
    rw [wyGo_step h hd]
    cases j with
    | zero => exact ⟨a, b⟩
    | succ j => exact wyGo_lt k d _ hi j (by omega)
/-- the SPOTS of the i-th FINISH -/
def fnS (o r i : Nat) : Nat → Nat := fun j => (wyGo o (wyK o r i).1 r (wyK o r i).2).getD j 0
theorem fnS_lt {o r i j : Nat} (h : i < wyA o r) (hj : j < (wyK o r i).1) : 1 ≤ fnS o r i j ∧ fnS o r i j < 63 := wyGo_lt _ _ _ (wyK_ok h).2.2 j hj
def aWays (o : Nat) (r k : Int32) : Int32 := if inR (leN o) 180 r then if inR 0 3 k then nI (if k.toNatClampNeg = 0 then wyA o r.toNatClampNeg else wyN o k.toNatClampNeg r.toNatClampNeg) else -1 else -1
def aWay (o : Nat) (r i j : Int32) : Int32 := if inR (leN o) 180 r then if inR 0 2147483647 i then if i.toNatClampNeg < wyA o r.toNatClampNeg then
  (if j = -1 then nI (wyK o r.toNatClampNeg i.toNatClampNeg).1 else if inR 0 ((wyK o r.toNatClampNeg i.toNatClampNeg).1 - 1) j then nI (fnS o r.toNatClampNeg i.toNatClampNeg j.toNatClampNeg) else -1) else -1 else -1 else -1
def fnT (o r i : Nat) : List Nat := txN (fnS o r i) (wyK o r i).1
def aSpell (o : Nat) (r i : Int32) : Int32 := if inR (leN o) 180 r then if inR 0 2147483647 i then if i.toNatClampNeg < wyA o r.toNatClampNeg then nI (fnT o r.toNatClampNeg i.toNatClampNeg).length else -1 else -1 else -1
def nSpell (o : Nat) (X : List Nat) (r i : Int32) : List Nat := if inR (leN o) 180 r then if inR 0 2147483647 i then if i.toNatClampNeg < wyA o r.toNatClampNeg then fnT o r.toNatClampNeg i.toNatClampNeg else X else X else X
def aPaper (X : List Nat) (i : Int32) : Int32 := if inR 0 2147483647 i then if i.toNatClampNeg < X.length then nI (X.getD i.toNatClampNeg 0) else -1 else -1
theorem neg_of {x : Int32} (h : ¬ inR 0 2147483647 x) : x < 0 := by
  have h1 := x.toInt_lt
  have h2 := x.le_toInt
  rw [lt_i, i0]
  unfold inR at h
  omega
theorem c_ways (w : XW) (h : XH) {s : SS} {o : Nat} {a b : Nat × Nat} (c : CSo h s o a b) (r : Int32) (k : Int32) : CA w M_X11_ways [.ref 0, .int r, .int k] h (fun v' h'' => v' = some (.int (aWays o r k)) ∧ Same clS h h'' ∧ CSo h'' s o a b) := by
  obtain ⟨z63, fi⟩ := id c.fi
  obtain ⟨fr63, e63⟩ := id c.row
  obtain ⟨kn0, e57_, t57_⟩ := id fi
  by_cases h_r : inR (leN o) 180 r
  · obtain ⟨rn, rfl, l_r, u_r⟩ := inR_nat (by decide) h_r
    have p_r := leN_pos o
    by_cases h_k : inR 0 3 k
    · obtain ⟨kn, rfl, l_k, u_k⟩ := inR_nat (by decide) h_k
      by_cases hk : kn = 0
      · subst hk
        refine CA.of (by decide) rfl (fun _ => Nat.le_of_ble_eq_true rfl) ?_
        show AX w M_X11_ways 0 0 0 [.ref 0, .int (nI rn), .int (nI 0)] [] h _
        refine AX.aload_n (pc := 0) dX11_ways_0 rfl ?_
        refine AX.iload_n (pc := 1) dX11_ways_1 rfl ?_
        refine AX.sipush (pc := 2) (v := nI 180) dX11_ways_2 (by decide) ?_
        refine AX.callV (pc := 5) (M2 := M_X11_isRestUpTo) (As := [.int (nI rn), .int (nI 180)]) (rest := []) (c_isRestUpTo w h (nI rn) 180 c.hn c.dm c.ru) xc_X11_ways__X11_isRestUpTo gX11_ways_X11_isRestUpTo (ci := 10) rfl (lt_k c.hn (by omega)) c.dm rfl (Nat.le_of_ble_eq_true rfl) dX11_ways_5 ?_
        rintro _ h9 ⟨rfl, e9⟩
        have e9 := e9.symm
        subst e9
        rw [decide_eq_true ((rest_iff (by decide)).mpr h_r)]
        show AX w M_X11_ways 0 0 8 [.ref 0, .int (nI rn), .int (nI 0)] [.int (bI true)] _ _
        refine AX.if_eqB (pc := 8) (tgt := 20) dX11_ways_8 (by decide) (fun q => absurd q (by decide)) (fun hc8 => ?_)
        refine AX.iload_n (pc := 11) dX11_ways_11 rfl ?_
        refine AX.if_ltN (pc := 12) (tgt := 20) dX11_ways_12 (by decide) (by decide) (fun q => absurd q (by decide)) (fun hc12 => ?_)
        refine AX.iload_n (pc := 15) dX11_ways_15 rfl ?_
        refine AX.iconst (pc := 16) (v := nI 3) dX11_ways_16 (by decide) ?_
        refine AX.icmp_leN (pc := 17) (tgt := 22) dX11_ways_17 (by decide) (by decide) (by decide) (fun hc17 => ?_) (fun q => absurd q (by decide))
        refine AX.iload_n (pc := 22) dX11_ways_22 rfl ?_
        refine AX.if_neN (pc := 23) (tgt := 37) dX11_ways_23 (by decide) (by decide) (fun q => absurd q (by decide)) (fun hc23 => ?_)
        refine AX.aload_n (pc := 26) dX11_ways_26 rfl ?_
        refine AX.getf (pc := 27) fX11_ways_46 (lt_k c.hn (by omega)) c.dm rfl dX11_ways_27 ?_
        refine AX.iload_n (pc := 30) dX11_ways_30 rfl ?_
        refine AX.callV (pc := 31) (M2 := M_X2_countOfAll) (As := [.int (nI rn)]) (rest := []) (c_countOfAll w h (show 64 ≤ h.1 by have := c.hn; omega) c.ru fi u_r) xc_X11_ways__X2_countOfAll gX11_ways_X2_countOfAll (ci := 1) rfl (lt_k c.hn (by omega)) e57_ rfl (Nat.le_of_ble_eq_true rfl) dX11_ways_31 ?_
        rintro _ h1 ⟨rfl, s1, R1, E1, F1⟩
        have c1 : CSo h1 s o a b := c.fin (s1.wide (by decide)) ⟨_, true, E1, F1⟩ ⟨fr63, s1.at (by simp) e63⟩
        show AX w M_X11_ways 0 0 34 [.ref 0, .int (nI rn), .int (nI 0)] [.int (nI (wyN o 1 rn + wyN o 2 rn + wyN o 3 rn))] _ _
        refine AX.goto (pc := 34) (tgt := 46) dX11_ways_34 (by decide) ?_
        refine AX.iret (pc := 46) dX11_ways_46 rfl rfl (by decide) (by decide) ?_
        exact ⟨by unfold aWays; rw [if_pos h_r, if_pos h_k, nI_nat (show rn < 2147483648 by omega)]; try rfl, clS_in s1 (by decide), c1⟩
      · refine CA.of (by decide) rfl (fun _ => Nat.le_of_ble_eq_true rfl) ?_
        show AX w M_X11_ways 0 0 0 [.ref 0, .int (nI rn), .int (nI kn)] [] h _
        refine AX.aload_n (pc := 0) dX11_ways_0 rfl ?_
        refine AX.iload_n (pc := 1) dX11_ways_1 rfl ?_
        refine AX.sipush (pc := 2) (v := nI 180) dX11_ways_2 (by decide) ?_
        refine AX.callV (pc := 5) (M2 := M_X11_isRestUpTo) (As := [.int (nI rn), .int (nI 180)]) (rest := []) (c_isRestUpTo w h (nI rn) 180 c.hn c.dm c.ru) xc_X11_ways__X11_isRestUpTo gX11_ways_X11_isRestUpTo (ci := 10) rfl (lt_k c.hn (by omega)) c.dm rfl (Nat.le_of_ble_eq_true rfl) dX11_ways_5 ?_
        rintro _ h9 ⟨rfl, e9⟩
        have e9 := e9.symm
        subst e9
        rw [decide_eq_true ((rest_iff (by decide)).mpr h_r)]
        show AX w M_X11_ways 0 0 8 [.ref 0, .int (nI rn), .int (nI kn)] [.int (bI true)] _ _
        refine AX.if_eqB (pc := 8) (tgt := 20) dX11_ways_8 (by decide) (fun q => absurd q (by decide)) (fun hc8 => ?_)
        refine AX.iload_n (pc := 11) dX11_ways_11 rfl ?_
        refine AX.if_ltN (pc := 12) (tgt := 20) dX11_ways_12 (by decide) (by omega) (fun q => absurd q (by omega)) (fun hc12 => ?_)
        refine AX.iload_n (pc := 15) dX11_ways_15 rfl ?_
        refine AX.iconst (pc := 16) (v := nI 3) dX11_ways_16 (by decide) ?_
        refine AX.icmp_leN (pc := 17) (tgt := 22) dX11_ways_17 (by decide) (by omega) (by decide) (fun hc17 => ?_) (fun q => absurd q (by omega))
        refine AX.iload_n (pc := 22) dX11_ways_22 rfl ?_
        refine AX.if_neN (pc := 23) (tgt := 37) dX11_ways_23 (by decide) (by omega) (fun hc23 => ?_) (fun q => absurd q (by omega))
        refine AX.aload_n (pc := 37) dX11_ways_37 rfl ?_
        refine AX.getf (pc := 38) fX11_ways_46 (lt_k c.hn (by omega)) c.dm rfl dX11_ways_38 ?_
        refine AX.iload_n (pc := 41) dX11_ways_41 rfl ?_
        refine AX.iload_n (pc := 42) dX11_ways_42 rfl ?_
        refine AX.callV (pc := 43) (M2 := M_X2_countBy) (As := [.int (nI rn), .int (nI kn)]) (rest := []) (c_countBy w h (show 64 ≤ h.1 by have := c.hn; omega) c.ru fi u_r (by omega) u_k) xc_X11_ways__X2_countBy gX11_ways_X2_countBy (ci := 1) rfl (lt_k c.hn (by omega)) e57_ rfl (Nat.le_of_ble_eq_true rfl) dX11_ways_43 ?_
        rintro _ h1 ⟨rfl, s1, R1, F1⟩
        have c1 : CSo h1 s o a b := c.fin (s1.wide (by decide)) ⟨_, F1⟩ ⟨fr63, s1.at (by simp) e63⟩
        show AX w M_X11_ways 0 0 46 [.ref 0, .int (nI rn), .int (nI kn)] [.int (nI (wyN o kn rn))] _ _
        refine AX.iret (pc := 46) dX11_ways_46 rfl rfl (by decide) (by decide) ?_
        exact ⟨by unfold aWays; rw [if_pos h_r, if_pos h_k, nI_nat (show rn < 2147483648 by omega), nI_nat (show kn < 2147483648 by omega), if_neg hk]; try rfl, clS_in s1 (by decide), c1⟩
    · rcases nR h_k with hl | hu
      · refine CA.of (by decide) rfl (fun _ => Nat.le_of_ble_eq_true rfl) ?_
        show AX w M_X11_ways 0 0 0 [.ref 0, .int (nI rn), .int k] [] h _
        refine AX.aload_n (pc := 0) dX11_ways_0 rfl ?_
        refine AX.iload_n (pc := 1) dX11_ways_1 rfl ?_
        refine AX.sipush (pc := 2) (v := nI 180) dX11_ways_2 (by decide) ?_
        refine AX.callV (pc := 5) (M2 := M_X11_isRestUpTo) (As := [.int (nI rn), .int (nI 180)]) (rest := []) (c_isRestUpTo w h (nI rn) 180 c.hn c.dm c.ru) xc_X11_ways__X11_isRestUpTo gX11_ways_X11_isRestUpTo (ci := 10) rfl (lt_k c.hn (by omega)) c.dm rfl (Nat.le_of_ble_eq_true rfl) dX11_ways_5 ?_
        rintro _ h9 ⟨rfl, e9⟩
        have e9 := e9.symm
        subst e9
        rw [decide_eq_true ((rest_iff (by decide)).mpr h_r)]
        show AX w M_X11_ways 0 0 8 [.ref 0, .int (nI rn), .int k] [.int (bI true)] _ _
        refine AX.if_eqB (pc := 8) (tgt := 20) dX11_ways_8 (by decide) (fun q => absurd q (by decide)) (fun hc8 => ?_)
        refine AX.iload_n (pc := 11) dX11_ways_11 rfl ?_
        refine AX.if_lt (pc := 12) (tgt := 20) dX11_ways_12 (by decide) (fun hc12 => ?_) (fun q => absurd (ltT rfl i0 (by omega)) q)
        refine AX.iconst (pc := 20) (v := (-1)) dX11_ways_20 (by decide) ?_
        refine AX.iret (pc := 21) dX11_ways_21 rfl rfl (by decide) (by decide) ?_
        exact ⟨by unfold aWays; rw [if_pos h_r, if_neg h_k]; try rfl, Same.rf, c⟩
      · refine CA.of (by decide) rfl (fun _ => Nat.le_of_ble_eq_true rfl) ?_
        show AX w M_X11_ways 0 0 0 [.ref 0, .int (nI rn), .int k] [] h _
        refine AX.aload_n (pc := 0) dX11_ways_0 rfl ?_
        refine AX.iload_n (pc := 1) dX11_ways_1 rfl ?_
        refine AX.sipush (pc := 2) (v := nI 180) dX11_ways_2 (by decide) ?_
        refine AX.callV (pc := 5) (M2 := M_X11_isRestUpTo) (As := [.int (nI rn), .int (nI 180)]) (rest := []) (c_isRestUpTo w h (nI rn) 180 c.hn c.dm c.ru) xc_X11_ways__X11_isRestUpTo gX11_ways_X11_isRestUpTo (ci := 10) rfl (lt_k c.hn (by omega)) c.dm rfl (Nat.le_of_ble_eq_true rfl) dX11_ways_5 ?_
        rintro _ h9 ⟨rfl, e9⟩
        have e9 := e9.symm
        subst e9
        rw [decide_eq_true ((rest_iff (by decide)).mpr h_r)]
        show AX w M_X11_ways 0 0 8 [.ref 0, .int (nI rn), .int k] [.int (bI true)] _ _
        refine AX.if_eqB (pc := 8) (tgt := 20) dX11_ways_8 (by decide) (fun q => absurd q (by decide)) (fun hc8 => ?_)
        refine AX.iload_n (pc := 11) dX11_ways_11 rfl ?_
        refine AX.if_lt (pc := 12) (tgt := 20) dX11_ways_12 (by decide) (fun q => absurd q (ltF rfl i0 (by omega))) (fun hc12 => ?_)
        refine AX.iload_n (pc := 15) dX11_ways_15 rfl ?_
        refine AX.iconst (pc := 16) (v := nI 3) dX11_ways_16 (by decide) ?_
        refine AX.icmp_le (pc := 17) (tgt := 22) dX11_ways_17 (by decide) (fun q => absurd q (leF rfl (iN 3 (by omega)) (by omega))) (fun hc17 => ?_)
        refine AX.iconst (pc := 20) (v := (-1)) dX11_ways_20 (by decide) ?_
        refine AX.iret (pc := 21) dX11_ways_21 rfl rfl (by decide) (by decide) ?_
        exact ⟨by unfold aWays; rw [if_pos h_r, if_neg h_k]; try rfl, Same.rf, c⟩
  · refine CA.of (by decide) rfl (fun _ => Nat.le_of_ble_eq_true rfl) ?_
    show AX w M_X11_ways 0 0 0 [.ref 0, .int r, .int k] [] h _
    refine AX.aload_n (pc := 0) dX11_ways_0 rfl ?_
    refine AX.iload_n (pc := 1) dX11_ways_1 rfl ?_
    refine AX.sipush (pc := 2) (v := nI 180) dX11_ways_2 (by decide) ?_
    refine AX.callV (pc := 5) (M2 := M_X11_isRestUpTo) (As := [.int r, .int (nI 180)]) (rest := []) (c_isRestUpTo w h r 180 c.hn c.dm c.ru) xc_X11_ways__X11_isRestUpTo gX11_ways_X11_isRestUpTo (ci := 10) rfl (lt_k c.hn (by omega)) c.dm rfl (Nat.le_of_ble_eq_true rfl) dX11_ways_5 ?_
    rintro _ h9 ⟨rfl, e9⟩
    have e9 := e9.symm
    subst e9
    rw [decide_eq_false (fun q => h_r ((rest_iff (by decide)).mp q))]
    show AX w M_X11_ways 0 0 8 [.ref 0, .int r, .int k] [.int (bI false)] _ _
    refine AX.if_eqB (pc := 8) (tgt := 20) dX11_ways_8 (by decide) (fun hc8 => ?_) (fun q => absurd q (by decide))
    refine AX.iconst (pc := 20) (v := (-1)) dX11_ways_20 (by decide) ?_
    refine AX.iret (pc := 21) dX11_ways_21 rfl rfl (by decide) (by decide) ?_
    exact ⟨by unfold aWays; rw [if_neg h_r]; try rfl, Same.rf, c⟩
theorem c_way (w : XW) (h : XH) {s : SS} {o : Nat} {a b : Nat × Nat} (c : CSo h s o a b) (r : Int32) (i : Int32) (j : Int32) : CA w M_X11_way [.ref 0, .int r, .int i, .int j] h (fun v' h'' => v' = some (.int (aWay o r i j)) ∧ Same clS h h'' ∧ CSo h'' s o a b) := by
  obtain ⟨z63, fi⟩ := id c.fi
  obtain ⟨fr63, e63⟩ := id c.row
  obtain ⟨kn0, e57_, t57_⟩ := id fi
  by_cases h_r : inR (leN o) 180 r
  · obtain ⟨rn, rfl, l_r, u_r⟩ := inR_nat (by decide) h_r
    have p_r := leN_pos o
    by_cases h_i : inR 0 2147483647 i
    · obtain ⟨in_, rfl, l_i, u_i⟩ := inR_nat (by decide) h_i
      by_cases hw : in_ < wyA o rn
      · have hk := wyK_ok hw
        by_cases hj : j = -1
        · subst hj
          refine CA.of (by decide) rfl (fun _ => Nat.le_of_ble_eq_true rfl) ?_
          show AX w M_X11_way 0 0 0 [.ref 0, .int (nI rn), .int (nI in_), .int (-1)] [] h _
          refine AX.aload_n (pc := 0) dX11_way_0 rfl ?_
          refine AX.iload_n (pc := 1) dX11_way_1 rfl ?_
          refine AX.sipush (pc := 2) (v := nI 180) dX11_way_2 (by decide) ?_
          refine AX.callV (pc := 5) (M2 := M_X11_isRestUpTo) (As := [.int (nI rn), .int (nI 180)]) (rest := []) (c_isRestUpTo w h (nI rn) 180 c.hn c.dm c.ru) xc_X11_way__X11_isRestUpTo gX11_way_X11_isRestUpTo (ci := 10) rfl (lt_k c.hn (by omega)) c.dm rfl (Nat.le_of_ble_eq_true rfl) dX11_way_5 ?_
          rintro _ h9 ⟨rfl, e9⟩
          have e9 := e9.symm
          subst e9
          rw [decide_eq_true ((rest_iff (by decide)).mpr h_r)]
          show AX w M_X11_way 0 0 8 [.ref 0, .int (nI rn), .int (nI in_), .int (-1)] [.int (bI true)] _ _
          refine AX.if_eqB (pc := 8) (tgt := 23) dX11_way_8 (by decide) (fun q => absurd q (by decide)) (fun hc8 => ?_)
          refine AX.aload_n (pc := 11) dX11_way_11 rfl ?_
          refine AX.getf (pc := 12) fX11_way_46 (lt_k c.hn (by omega)) c.dm rfl dX11_way_12 ?_
          refine AX.iload_n (pc := 15) dX11_way_15 rfl ?_
          refine AX.iload_n (pc := 16) dX11_way_16 rfl ?_
          refine AX.callV (pc := 17) (M2 := M_X2_find) (As := [.int (nI rn), .int (nI in_)]) (rest := []) (c_find w h (show 64 ≤ h.1 by have := c.hn; omega) c.ru fi u_r (show in_ < 2147483648 by omega) e63) xc_X11_way__X2_find gX11_way_X2_find (ci := 1) rfl (lt_k c.hn (by omega)) e57_ rfl (Nat.le_of_ble_eq_true rfl) dX11_way_17 ?_
          rintro _ h1 ⟨rfl, fA, -⟩
          obtain ⟨s1, R1, F1, fr1, e1, q1⟩ := fA hw
          have c1 : CSo h1 s o a b := c.fin s1 ⟨_, F1⟩ ⟨fr1, e1⟩
          rw [decide_eq_true hw]
          obtain ⟨kn1, e57, t57⟩ := F1
          show AX w M_X11_way 0 0 20 [.ref 0, .int (nI rn), .int (nI in_), .int (-1)] [.int (bI true)] _ _
          refine AX.if_neB (pc := 20) (tgt := 25) dX11_way_20 (by decide) (fun hc20 => ?_) (fun q => absurd q (by decide))
          refine AX.iload_n (pc := 25) dX11_way_25 rfl ?_
          refine AX.iconst (pc := 26) (v := (-1)) dX11_way_26 (by decide) ?_
          refine AX.icmp_ne (pc := 27) (tgt := 38) dX11_way_27 (by decide) (fun q => absurd rfl q) (fun hc27 => ?_)
          refine AX.aload_n (pc := 30) dX11_way_30 rfl ?_
          refine AX.getf (pc := 31) fX11_way_46 (lt_k (s1.le c.hn) (by omega)) (s1.at (by simp) c.dm) rfl dX11_way_31 ?_
          refine AX.getf (pc := 34) fX11_way_210 (lt_k (s1.le c.hn) (by omega)) e57 rfl dX11_way_34 ?_
          refine AX.iret (pc := 37) dX11_way_37 rfl rfl (by decide) (by decide) ?_
          exact ⟨by unfold aWay; rw [if_pos h_r, if_pos h_i, nI_nat (show rn < 2147483648 by omega), nI_nat (show in_ < 2147483648 by omega), if_pos hw, if_pos rfl]; try rfl, clS_in s1 (by decide), c1⟩
        by_cases h_j : inR 0 ((wyK o rn in_).1 - 1) j
        · obtain ⟨jn, rfl, l_j, u_j⟩ := inR_nat (show (wyK o rn in_).1 - 1 < 2147483648 by omega) h_j
          refine CA.of (by decide) rfl (fun _ => Nat.le_of_ble_eq_true rfl) ?_
          show AX w M_X11_way 0 0 0 [.ref 0, .int (nI rn), .int (nI in_), .int (nI jn)] [] h _
          refine AX.aload_n (pc := 0) dX11_way_0 rfl ?_
          refine AX.iload_n (pc := 1) dX11_way_1 rfl ?_
          refine AX.sipush (pc := 2) (v := nI 180) dX11_way_2 (by decide) ?_
          refine AX.callV (pc := 5) (M2 := M_X11_isRestUpTo) (As := [.int (nI rn), .int (nI 180)]) (rest := []) (c_isRestUpTo w h (nI rn) 180 c.hn c.dm c.ru) xc_X11_way__X11_isRestUpTo gX11_way_X11_isRestUpTo (ci := 10) rfl (lt_k c.hn (by omega)) c.dm rfl (Nat.le_of_ble_eq_true rfl) dX11_way_5 ?_
          rintro _ h9 ⟨rfl, e9⟩
          have e9 := e9.symm
          subst e9
          rw [decide_eq_true ((rest_iff (by decide)).mpr h_r)]
          show AX w M_X11_way 0 0 8 [.ref 0, .int (nI rn), .int (nI in_), .int (nI jn)] [.int (bI true)] _ _
          refine AX.if_eqB (pc := 8) (tgt := 23) dX11_way_8 (by decide) (fun q => absurd q (by decide)) (fun hc8 => ?_)
          refine AX.aload_n (pc := 11) dX11_way_11 rfl ?_
          refine AX.getf (pc := 12) fX11_way_46 (lt_k c.hn (by omega)) c.dm rfl dX11_way_12 ?_
          refine AX.iload_n (pc := 15) dX11_way_15 rfl ?_
          refine AX.iload_n (pc := 16) dX11_way_16 rfl ?_
          refine AX.callV (pc := 17) (M2 := M_X2_find) (As := [.int (nI rn), .int (nI in_)]) (rest := []) (c_find w h (show 64 ≤ h.1 by have := c.hn; omega) c.ru fi u_r (show in_ < 2147483648 by omega) e63) xc_X11_way__X2_find gX11_way_X2_find (ci := 1) rfl (lt_k c.hn (by omega)) e57_ rfl (Nat.le_of_ble_eq_true rfl) dX11_way_17 ?_
          rintro _ h1 ⟨rfl, fA, -⟩
          obtain ⟨s1, R1, F1, fr1, e1, q1⟩ := fA hw
          have c1 : CSo h1 s o a b := c.fin s1 ⟨_, F1⟩ ⟨fr1, e1⟩
          rw [decide_eq_true hw]
          obtain ⟨kn1, e57, t57⟩ := F1
          show AX w M_X11_way 0 0 20 [.ref 0, .int (nI rn), .int (nI in_), .int (nI jn)] [.int (bI true)] _ _
          refine AX.if_neB (pc := 20) (tgt := 25) dX11_way_20 (by decide) (fun hc20 => ?_) (fun q => absurd q (by decide))
          refine AX.iload_n (pc := 25) dX11_way_25 rfl ?_
          refine AX.iconst (pc := 26) (v := (-1)) dX11_way_26 (by decide) ?_
          refine AX.icmp_ne (pc := 27) (tgt := 38) dX11_way_27 (by decide) (fun hc27 => ?_) (fun q => absurd q (neT (iN jn (by omega)) iM1 (by omega)))
          refine AX.iload_n (pc := 38) dX11_way_38 rfl ?_
          refine AX.if_ltN (pc := 39) (tgt := 53) dX11_way_39 (by decide) (by omega) (fun q => absurd q (by omega)) (fun hc39 => ?_)
          refine AX.iload_n (pc := 42) dX11_way_42 rfl ?_
          refine AX.aload_n (pc := 43) dX11_way_43 rfl ?_
          refine AX.getf (pc := 44) fX11_way_46 (lt_k (s1.le c.hn) (by omega)) (s1.at (by simp) c.dm) rfl dX11_way_44 ?_
          refine AX.getf (pc := 47) fX11_way_210 (lt_k (s1.le c.hn) (by omega)) e57 rfl dX11_way_47 ?_
          refine AX.icmp_ltN (pc := 50) (tgt := 57) dX11_way_50 (by decide) (by omega) (by omega) (fun hc50 => ?_) (fun q => absurd q (by omega))
          refine AX.aload_n (pc := 57) dX11_way_57 rfl ?_
          refine AX.getf (pc := 58) fX11_way_46 (lt_k (s1.le c.hn) (by omega)) (s1.at (by simp) c.dm) rfl dX11_way_58 ?_
          refine AX.getf (pc := 61) fX11_way_213 (lt_k (s1.le c.hn) (by omega)) e57 rfl dX11_way_61 ?_
          refine AX.iload_n (pc := 64) dX11_way_64 rfl ?_
          refine AX.ialdN (pc := 65) (i := jn) (v := (nI (fnS o rn in_ jn))) (lt_k (s1.le c.hn) (by omega)) e1 (by decide) (by omega) (q1 jn (by omega)) dX11_way_65 ?_
          refine AX.iret (pc := 66) dX11_way_66 rfl rfl (by decide) (by decide) ?_
          exact ⟨by unfold aWay; rw [if_pos h_r, if_pos h_i, nI_nat (show rn < 2147483648 by omega), nI_nat (show in_ < 2147483648 by omega), if_pos hw, if_neg hj, if_pos h_j, nI_nat (show jn < 2147483648 by omega)]; try rfl, clS_in s1 (by decide), c1⟩
        have hj2 : ¬ j.toInt = -1 := fun q => hj (Int32.toInt_inj.mp (q.trans iM1.symm))
        rcases nR h_j with hl | hu
        · refine CA.of (by decide) rfl (fun _ => Nat.le_of_ble_eq_true rfl) ?_
          show AX w M_X11_way 0 0 0 [.ref 0, .int (nI rn), .int (nI in_), .int j] [] h _
          refine AX.aload_n (pc := 0) dX11_way_0 rfl ?_
          refine AX.iload_n (pc := 1) dX11_way_1 rfl ?_
          refine AX.sipush (pc := 2) (v := nI 180) dX11_way_2 (by decide) ?_
          refine AX.callV (pc := 5) (M2 := M_X11_isRestUpTo) (As := [.int (nI rn), .int (nI 180)]) (rest := []) (c_isRestUpTo w h (nI rn) 180 c.hn c.dm c.ru) xc_X11_way__X11_isRestUpTo gX11_way_X11_isRestUpTo (ci := 10) rfl (lt_k c.hn (by omega)) c.dm rfl (Nat.le_of_ble_eq_true rfl) dX11_way_5 ?_
          rintro _ h9 ⟨rfl, e9⟩
          have e9 := e9.symm
          subst e9
          rw [decide_eq_true ((rest_iff (by decide)).mpr h_r)]
          show AX w M_X11_way 0 0 8 [.ref 0, .int (nI rn), .int (nI in_), .int j] [.int (bI true)] _ _
          refine AX.if_eqB (pc := 8) (tgt := 23) dX11_way_8 (by decide) (fun q => absurd q (by decide)) (fun hc8 => ?_)
          refine AX.aload_n (pc := 11) dX11_way_11 rfl ?_
          refine AX.getf (pc := 12) fX11_way_46 (lt_k c.hn (by omega)) c.dm rfl dX11_way_12 ?_
          refine AX.iload_n (pc := 15) dX11_way_15 rfl ?_
          refine AX.iload_n (pc := 16) dX11_way_16 rfl ?_
          refine AX.callV (pc := 17) (M2 := M_X2_find) (As := [.int (nI rn), .int (nI in_)]) (rest := []) (c_find w h (show 64 ≤ h.1 by have := c.hn; omega) c.ru fi u_r (show in_ < 2147483648 by omega) e63) xc_X11_way__X2_find gX11_way_X2_find (ci := 1) rfl (lt_k c.hn (by omega)) e57_ rfl (Nat.le_of_ble_eq_true rfl) dX11_way_17 ?_
          rintro _ h1 ⟨rfl, fA, -⟩
          obtain ⟨s1, R1, F1, fr1, e1, q1⟩ := fA hw
          have c1 : CSo h1 s o a b := c.fin s1 ⟨_, F1⟩ ⟨fr1, e1⟩
          rw [decide_eq_true hw]
          obtain ⟨kn1, e57, t57⟩ := F1
          show AX w M_X11_way 0 0 20 [.ref 0, .int (nI rn), .int (nI in_), .int j] [.int (bI true)] _ _
          refine AX.if_neB (pc := 20) (tgt := 25) dX11_way_20 (by decide) (fun hc20 => ?_) (fun q => absurd q (by decide))
          refine AX.iload_n (pc := 25) dX11_way_25 rfl ?_
          refine AX.iconst (pc := 26) (v := (-1)) dX11_way_26 (by decide) ?_
          refine AX.icmp_ne (pc := 27) (tgt := 38) dX11_way_27 (by decide) (fun hc27 => ?_) (fun q => absurd q (neT rfl iM1 (by omega)))
          refine AX.iload_n (pc := 38) dX11_way_38 rfl ?_
          refine AX.if_lt (pc := 39) (tgt := 53) dX11_way_39 (by decide) (fun hc39 => ?_) (fun q => absurd (ltT rfl i0 (by omega)) q)
          refine AX.iconst (pc := 53) (v := (-1)) dX11_way_53 (by decide) ?_
          refine AX.goto (pc := 54) (tgt := 66) dX11_way_54 (by decide) ?_
          refine AX.iret (pc := 66) dX11_way_66 rfl rfl (by decide) (by decide) ?_
          exact ⟨by unfold aWay; rw [if_pos h_r, if_pos h_i, nI_nat (show rn < 2147483648 by omega), nI_nat (show in_ < 2147483648 by omega), if_pos hw, if_neg hj, if_neg h_j]; try rfl, clS_in s1 (by decide), c1⟩
        · refine CA.of (by decide) rfl (fun _ => Nat.le_of_ble_eq_true rfl) ?_
          show AX w M_X11_way 0 0 0 [.ref 0, .int (nI rn), .int (nI in_), .int j] [] h _
          refine AX.aload_n (pc := 0) dX11_way_0 rfl ?_
          refine AX.iload_n (pc := 1) dX11_way_1 rfl ?_
          refine AX.sipush (pc := 2) (v := nI 180) dX11_way_2 (by decide) ?_
          refine AX.callV (pc := 5) (M2 := M_X11_isRestUpTo) (As := [.int (nI rn), .int (nI 180)]) (rest := []) (c_isRestUpTo w h (nI rn) 180 c.hn c.dm c.ru) xc_X11_way__X11_isRestUpTo gX11_way_X11_isRestUpTo (ci := 10) rfl (lt_k c.hn (by omega)) c.dm rfl (Nat.le_of_ble_eq_true rfl) dX11_way_5 ?_
          rintro _ h9 ⟨rfl, e9⟩
          have e9 := e9.symm
          subst e9
          rw [decide_eq_true ((rest_iff (by decide)).mpr h_r)]
          show AX w M_X11_way 0 0 8 [.ref 0, .int (nI rn), .int (nI in_), .int j] [.int (bI true)] _ _
          refine AX.if_eqB (pc := 8) (tgt := 23) dX11_way_8 (by decide) (fun q => absurd q (by decide)) (fun hc8 => ?_)
          refine AX.aload_n (pc := 11) dX11_way_11 rfl ?_
          refine AX.getf (pc := 12) fX11_way_46 (lt_k c.hn (by omega)) c.dm rfl dX11_way_12 ?_
          refine AX.iload_n (pc := 15) dX11_way_15 rfl ?_
          refine AX.iload_n (pc := 16) dX11_way_16 rfl ?_
          refine AX.callV (pc := 17) (M2 := M_X2_find) (As := [.int (nI rn), .int (nI in_)]) (rest := []) (c_find w h (show 64 ≤ h.1 by have := c.hn; omega) c.ru fi u_r (show in_ < 2147483648 by omega) e63) xc_X11_way__X2_find gX11_way_X2_find (ci := 1) rfl (lt_k c.hn (by omega)) e57_ rfl (Nat.le_of_ble_eq_true rfl) dX11_way_17 ?_
          rintro _ h1 ⟨rfl, fA, -⟩
          obtain ⟨s1, R1, F1, fr1, e1, q1⟩ := fA hw
          have c1 : CSo h1 s o a b := c.fin s1 ⟨_, F1⟩ ⟨fr1, e1⟩
          rw [decide_eq_true hw]
          obtain ⟨kn1, e57, t57⟩ := F1
          show AX w M_X11_way 0 0 20 [.ref 0, .int (nI rn), .int (nI in_), .int j] [.int (bI true)] _ _
          refine AX.if_neB (pc := 20) (tgt := 25) dX11_way_20 (by decide) (fun hc20 => ?_) (fun q => absurd q (by decide))
          refine AX.iload_n (pc := 25) dX11_way_25 rfl ?_
          refine AX.iconst (pc := 26) (v := (-1)) dX11_way_26 (by decide) ?_
          refine AX.icmp_ne (pc := 27) (tgt := 38) dX11_way_27 (by decide) (fun hc27 => ?_) (fun q => absurd q (neT rfl iM1 (by omega)))
          refine AX.iload_n (pc := 38) dX11_way_38 rfl ?_
          refine AX.if_lt (pc := 39) (tgt := 53) dX11_way_39 (by decide) (fun q => absurd q (ltF rfl i0 (by omega))) (fun hc39 => ?_)
          refine AX.iload_n (pc := 42) dX11_way_42 rfl ?_
          refine AX.aload_n (pc := 43) dX11_way_43 rfl ?_
          refine AX.getf (pc := 44) fX11_way_46 (lt_k (s1.le c.hn) (by omega)) (s1.at (by simp) c.dm) rfl dX11_way_44 ?_
          refine AX.getf (pc := 47) fX11_way_210 (lt_k (s1.le c.hn) (by omega)) e57 rfl dX11_way_47 ?_
          refine AX.icmp_lt (pc := 50) (tgt := 57) dX11_way_50 (by decide) (fun q => absurd q (ltF rfl (iN (wyK o rn in_).1 (by omega)) (by omega))) (fun hc50 => ?_)
          refine AX.iconst (pc := 53) (v := (-1)) dX11_way_53 (by decide) ?_
          refine AX.goto (pc := 54) (tgt := 66) dX11_way_54 (by decide) ?_
          refine AX.iret (pc := 66) dX11_way_66 rfl rfl (by decide) (by decide) ?_
          exact ⟨by unfold aWay; rw [if_pos h_r, if_pos h_i, nI_nat (show rn < 2147483648 by omega), nI_nat (show in_ < 2147483648 by omega), if_pos hw, if_neg hj, if_neg h_j]; try rfl, clS_in s1 (by decide), c1⟩
      · refine CA.of (by decide) rfl (fun _ => Nat.le_of_ble_eq_true rfl) ?_
        show AX w M_X11_way 0 0 0 [.ref 0, .int (nI rn), .int (nI in_), .int j] [] h _
        refine AX.aload_n (pc := 0) dX11_way_0 rfl ?_
        refine AX.iload_n (pc := 1) dX11_way_1 rfl ?_
        refine AX.sipush (pc := 2) (v := nI 180) dX11_way_2 (by decide) ?_
        refine AX.callV (pc := 5) (M2 := M_X11_isRestUpTo) (As := [.int (nI rn), .int (nI 180)]) (rest := []) (c_isRestUpTo w h (nI rn) 180 c.hn c.dm c.ru) xc_X11_way__X11_isRestUpTo gX11_way_X11_isRestUpTo (ci := 10) rfl (lt_k c.hn (by omega)) c.dm rfl (Nat.le_of_ble_eq_true rfl) dX11_way_5 ?_
        rintro _ h9 ⟨rfl, e9⟩
        have e9 := e9.symm
        subst e9
        rw [decide_eq_true ((rest_iff (by decide)).mpr h_r)]
        show AX w M_X11_way 0 0 8 [.ref 0, .int (nI rn), .int (nI in_), .int j] [.int (bI true)] _ _
        refine AX.if_eqB (pc := 8) (tgt := 23) dX11_way_8 (by decide) (fun q => absurd q (by decide)) (fun hc8 => ?_)
        refine AX.aload_n (pc := 11) dX11_way_11 rfl ?_
        refine AX.getf (pc := 12) fX11_way_46 (lt_k c.hn (by omega)) c.dm rfl dX11_way_12 ?_
        refine AX.iload_n (pc := 15) dX11_way_15 rfl ?_
        refine AX.iload_n (pc := 16) dX11_way_16 rfl ?_
        refine AX.callV (pc := 17) (M2 := M_X2_find) (As := [.int (nI rn), .int (nI in_)]) (rest := []) (c_find w h (show 64 ≤ h.1 by have := c.hn; omega) c.ru fi u_r (show in_ < 2147483648 by omega) e63) xc_X11_way__X2_find gX11_way_X2_find (ci := 1) rfl (lt_k c.hn (by omega)) e57_ rfl (Nat.le_of_ble_eq_true rfl) dX11_way_17 ?_
        rintro _ h1 ⟨rfl, -, fA⟩
        obtain ⟨s1, R1, F1⟩ := fA hw
        have c1 : CSo h1 s o a b := c.fin (s1.wide (by decide)) ⟨_, F1⟩ ⟨fr63, s1.at (by simp) e63⟩
        rw [decide_eq_false hw]
        show AX w M_X11_way 0 0 20 [.ref 0, .int (nI rn), .int (nI in_), .int j] [.int (bI false)] _ _
        refine AX.if_neB (pc := 20) (tgt := 25) dX11_way_20 (by decide) (fun q => absurd q (by decide)) (fun hc20 => ?_)
        refine AX.iconst (pc := 23) (v := (-1)) dX11_way_23 (by decide) ?_
        refine AX.iret (pc := 24) dX11_way_24 rfl rfl (by decide) (by decide) ?_
        exact ⟨by unfold aWay; rw [if_pos h_r, if_pos h_i, nI_nat (show rn < 2147483648 by omega), nI_nat (show in_ < 2147483648 by omega), if_neg hw]; try rfl, clS_in s1 (by decide), c1⟩
    · refine CA.of (by decide) rfl (fun _ => Nat.le_of_ble_eq_true rfl) ?_
      show AX w M_X11_way 0 0 0 [.ref 0, .int (nI rn), .int i, .int j] [] h _
      refine AX.aload_n (pc := 0) dX11_way_0 rfl ?_
      refine AX.iload_n (pc := 1) dX11_way_1 rfl ?_
      refine AX.sipush (pc := 2) (v := nI 180) dX11_way_2 (by decide) ?_
      refine AX.callV (pc := 5) (M2 := M_X11_isRestUpTo) (As := [.int (nI rn), .int (nI 180)]) (rest := []) (c_isRestUpTo w h (nI rn) 180 c.hn c.dm c.ru) xc_X11_way__X11_isRestUpTo gX11_way_X11_isRestUpTo (ci := 10) rfl (lt_k c.hn (by omega)) c.dm rfl (Nat.le_of_ble_eq_true rfl) dX11_way_5 ?_
      rintro _ h9 ⟨rfl, e9⟩
      have e9 := e9.symm
      subst e9
      rw [decide_eq_true ((rest_iff (by decide)).mpr h_r)]
      show AX w M_X11_way 0 0 8 [.ref 0, .int (nI rn), .int i, .int j] [.int (bI true)] _ _
      refine AX.if_eqB (pc := 8) (tgt := 23) dX11_way_8 (by decide) (fun q => absurd q (by decide)) (fun hc8 => ?_)
      refine AX.aload_n (pc := 11) dX11_way_11 rfl ?_
      refine AX.getf (pc := 12) fX11_way_46 (lt_k c.hn (by omega)) c.dm rfl dX11_way_12 ?_
      refine AX.iload_n (pc := 15) dX11_way_15 rfl ?_
      refine AX.iload_n (pc := 16) dX11_way_16 rfl ?_
      refine AX.callV (pc := 17) (M2 := M_X2_find) (As := [.int (nI rn), .int i]) (rest := []) (c_findNeg w h (neg_of h_i)) xc_X11_way__X2_find gX11_way_X2_find (ci := 1) rfl (lt_k c.hn (by omega)) e57_ rfl (Nat.le_of_ble_eq_true rfl) dX11_way_17 ?_
      rintro _ h9 ⟨rfl, e9⟩
      have e9 := e9.symm
      subst e9
      show AX w M_X11_way 0 0 20 [.ref 0, .int (nI rn), .int i, .int j] [.int (bI false)] _ _
      refine AX.if_neB (pc := 20) (tgt := 25) dX11_way_20 (by decide) (fun q => absurd q (by decide)) (fun hc20 => ?_)
      refine AX.iconst (pc := 23) (v := (-1)) dX11_way_23 (by decide) ?_
      refine AX.iret (pc := 24) dX11_way_24 rfl rfl (by decide) (by decide) ?_
      exact ⟨by unfold aWay; rw [if_pos h_r, if_neg h_i]; try rfl, Same.rf, c⟩
  · refine CA.of (by decide) rfl (fun _ => Nat.le_of_ble_eq_true rfl) ?_
    show AX w M_X11_way 0 0 0 [.ref 0, .int r, .int i, .int j] [] h _
    refine AX.aload_n (pc := 0) dX11_way_0 rfl ?_
    refine AX.iload_n (pc := 1) dX11_way_1 rfl ?_
    refine AX.sipush (pc := 2) (v := nI 180) dX11_way_2 (by decide) ?_
    refine AX.callV (pc := 5) (M2 := M_X11_isRestUpTo) (As := [.int r, .int (nI 180)]) (rest := []) (c_isRestUpTo w h r 180 c.hn c.dm c.ru) xc_X11_way__X11_isRestUpTo gX11_way_X11_isRestUpTo (ci := 10) rfl (lt_k c.hn (by omega)) c.dm rfl (Nat.le_of_ble_eq_true rfl) dX11_way_5 ?_
    rintro _ h9 ⟨rfl, e9⟩
    have e9 := e9.symm
    subst e9
    rw [decide_eq_false (fun q => h_r ((rest_iff (by decide)).mp q))]
    show AX w M_X11_way 0 0 8 [.ref 0, .int r, .int i, .int j] [.int (bI false)] _ _
    refine AX.if_eqB (pc := 8) (tgt := 23) dX11_way_8 (by decide) (fun hc8 => ?_) (fun q => absurd q (by decide))
    refine AX.iconst (pc := 23) (v := (-1)) dX11_way_23 (by decide) ?_
    refine AX.iret (pc := 24) dX11_way_24 rfl rfl (by decide) (by decide) ?_
    exact ⟨by unfold aWay; rw [if_neg h_r]; try rfl, Same.rf, c⟩
theorem c_spell (w : XW) (h : XH) {s : SS} {o : Nat} {a b : Nat × Nat} (c : CSo h s o a b) (r : Int32) (i : Int32) : CA w M_X11_spell [.ref 0, .int r, .int i] h (fun v' h'' => v' = some (.int (aSpell o r i)) ∧ Same clS h h'' ∧ CSo h'' (wX s (nSpell o (sX s) r i)) o a b) := by
  obtain ⟨z63, fi⟩ := id c.fi
  obtain ⟨fr63, e63⟩ := id c.row
  obtain ⟨kn0, e57_, t57_⟩ := id fi
  by_cases h_r : inR (leN o) 180 r
  · obtain ⟨rn, rfl, l_r, u_r⟩ := inR_nat (by decide) h_r
    have p_r := leN_pos o
    by_cases h_i : inR 0 2147483647 i
    · obtain ⟨in_, rfl, l_i, u_i⟩ := inR_nat (by decide) h_i
      by_cases hw : in_ < wyA o rn
      · have hk := wyK_ok hw
        have en : nSpell o (sX s) (nI rn) (nI in_) = fnT o rn in_ := by unfold nSpell; rw [if_pos h_r, if_pos h_i, nI_nat (show rn < 2147483648 by omega), nI_nat (show in_ < 2147483648 by omega), if_pos hw]
        rw [en]
        refine CA.of (by decide) rfl (fun _ => Nat.le_of_ble_eq_true rfl) ?_
        show AX w M_X11_spell 0 0 0 [.ref 0, .int (nI rn), .int (nI in_)] [] h _
        refine AX.aload_n (pc := 0) dX11_spell_0 rfl ?_
        refine AX.iload_n (pc := 1) dX11_spell_1 rfl ?_
        refine AX.sipush (pc := 2) (v := nI 180) dX11_spell_2 (by decide) ?_
        refine AX.callV (pc := 5) (M2 := M_X11_isRestUpTo) (As := [.int (nI rn), .int (nI 180)]) (rest := []) (c_isRestUpTo w h (nI rn) 180 c.hn c.dm c.ru) xc_X11_spell__X11_isRestUpTo gX11_spell_X11_isRestUpTo (ci := 10) rfl (lt_k c.hn (by omega)) c.dm rfl (Nat.le_of_ble_eq_true rfl) dX11_spell_5 ?_
        rintro _ h9 ⟨rfl, e9⟩
        have e9 := e9.symm
        subst e9
        rw [decide_eq_true ((rest_iff (by decide)).mpr h_r)]
        show AX w M_X11_spell 0 0 8 [.ref 0, .int (nI rn), .int (nI in_)] [.int (bI true)] _ _
        refine AX.if_eqB (pc := 8) (tgt := 23) dX11_spell_8 (by decide) (fun q => absurd q (by decide)) (fun hc8 => ?_)
        refine AX.aload_n (pc := 11) dX11_spell_11 rfl ?_
        refine AX.getf (pc := 12) fX11_spell_46 (lt_k c.hn (by omega)) c.dm rfl dX11_spell_12 ?_
        refine AX.iload_n (pc := 15) dX11_spell_15 rfl ?_
        refine AX.iload_n (pc := 16) dX11_spell_16 rfl ?_
        refine AX.callV (pc := 17) (M2 := M_X2_find) (As := [.int (nI rn), .int (nI in_)]) (rest := []) (c_find w h (show 64 ≤ h.1 by have := c.hn; omega) c.ru fi u_r (show in_ < 2147483648 by omega) e63) xc_X11_spell__X2_find gX11_spell_X2_find (ci := 1) rfl (lt_k c.hn (by omega)) e57_ rfl (Nat.le_of_ble_eq_true rfl) dX11_spell_17 ?_
        rintro _ h1 ⟨rfl, fA, -⟩
        obtain ⟨s1, R1, F1, fr1, e1, q1⟩ := fA hw
        have c1 : CSo h1 s o a b := c.fin s1 ⟨_, F1⟩ ⟨fr1, e1⟩
        rw [decide_eq_true hw]
        obtain ⟨kn1, e57, t57⟩ := F1
        show AX w M_X11_spell 0 0 20 [.ref 0, .int (nI rn), .int (nI in_)] [.int (bI true)] _ _
        refine AX.if_neB (pc := 20) (tgt := 25) dX11_spell_20 (by decide) (fun hc20 => ?_) (fun q => absurd q (by decide))
        refine AX.aload_n (pc := 25) dX11_spell_25 rfl ?_
        refine AX.getf (pc := 26) fX11_spell_70 (lt_k (s1.le c.hn) (by omega)) (s1.at (by simp) c.dm) rfl dX11_spell_26 ?_
        refine AX.aload_n (pc := 29) dX11_spell_29 rfl ?_
        refine AX.getf (pc := 30) fX11_spell_46 (lt_k (s1.le c.hn) (by omega)) (s1.at (by simp) c.dm) rfl dX11_spell_30 ?_
        refine AX.getf (pc := 33) fX11_spell_213 (lt_k (s1.le c.hn) (by omega)) e57 rfl dX11_spell_33 ?_
        refine AX.aload_n (pc := 36) dX11_spell_36 rfl ?_
        refine AX.getf (pc := 37) fX11_spell_46 (lt_k (s1.le c.hn) (by omega)) (s1.at (by simp) c.dm) rfl dX11_spell_37 ?_
        refine AX.getf (pc := 40) fX11_spell_210 (lt_k (s1.le c.hn) (by omega)) e57 rfl dX11_spell_40 ?_
        refine AX.callV (pc := 43) (M2 := M_X5_spellRow) (As := [.ref 63, .int (nI ((wyK o rn in_).1))]) (rest := []) (c_spellRow w h1 (fnS o rn in_) (show 77 ≤ h1.1 by have := c.hn; have := s1.1; omega) (c.pt.same s1 (by simp) (by simp)) hk.2.1 e1 (fun j hj => ⟨q1 j hj, (fnS_lt hw hj).2⟩)) xc_X11_spell__X5_spellRow gX11_spell_X5_spellRow (ci := 4) rfl (lt_k (s1.le c.hn) (by omega)) (s1.at (by simp) c.pt.1) rfl (Nat.le_of_ble_eq_true rfl) dX11_spell_43 ?_
        rintro _ h2 ⟨rfl, s2, P2⟩
        have P2 : PT h2 (fnT o rn in_) := P2
        have c2 : CSo h2 (wX s (fnT o rn in_)) o a b := c1.paper s2 P2
        show AX w M_X11_spell 0 0 46 [.ref 0, .int (nI rn), .int (nI in_)] [] _ _
        refine AX.aload_n (pc := 46) dX11_spell_46 rfl ?_
        refine AX.getf (pc := 47) fX11_spell_70 (lt_k (s2.le (s1.le c.hn)) (by omega)) (s2.at (by simp) (s1.at (by simp) c.dm)) rfl dX11_spell_47 ?_
        refine AX.getf (pc := 50) fX11_spell_218 (lt_k (s2.le (s1.le c.hn)) (by omega)) P2.1 rfl dX11_spell_50 ?_
        refine AX.iret (pc := 53) dX11_spell_53 rfl rfl (by decide) (by decide) ?_
        exact ⟨by unfold aSpell; rw [if_pos h_r, if_pos h_i, nI_nat (show rn < 2147483648 by omega), nI_nat (show in_ < 2147483648 by omega), if_pos hw]; try rfl, clS_in ((s1.wide (T := [57, 60, 61, 62, 63, 75, 76]) (by decide)).trans (s2.wide (by decide))) (by decide), c2⟩
      · have en : nSpell o (sX s) (nI rn) (nI in_) = sX s := by unfold nSpell; rw [if_pos h_r, if_pos h_i, nI_nat (show rn < 2147483648 by omega), nI_nat (show in_ < 2147483648 by omega), if_neg hw]
        rw [en]
        refine CA.of (by decide) rfl (fun _ => Nat.le_of_ble_eq_true rfl) ?_
        show AX w M_X11_spell 0 0 0 [.ref 0, .int (nI rn), .int (nI in_)] [] h _
        refine AX.aload_n (pc := 0) dX11_spell_0 rfl ?_
        refine AX.iload_n (pc := 1) dX11_spell_1 rfl ?_
        refine AX.sipush (pc := 2) (v := nI 180) dX11_spell_2 (by decide) ?_
        refine AX.callV (pc := 5) (M2 := M_X11_isRestUpTo) (As := [.int (nI rn), .int (nI 180)]) (rest := []) (c_isRestUpTo w h (nI rn) 180 c.hn c.dm c.ru) xc_X11_spell__X11_isRestUpTo gX11_spell_X11_isRestUpTo (ci := 10) rfl (lt_k c.hn (by omega)) c.dm rfl (Nat.le_of_ble_eq_true rfl) dX11_spell_5 ?_
        rintro _ h9 ⟨rfl, e9⟩
        have e9 := e9.symm
        subst e9
        rw [decide_eq_true ((rest_iff (by decide)).mpr h_r)]
        show AX w M_X11_spell 0 0 8 [.ref 0, .int (nI rn), .int (nI in_)] [.int (bI true)] _ _
        refine AX.if_eqB (pc := 8) (tgt := 23) dX11_spell_8 (by decide) (fun q => absurd q (by decide)) (fun hc8 => ?_)
        refine AX.aload_n (pc := 11) dX11_spell_11 rfl ?_
        refine AX.getf (pc := 12) fX11_spell_46 (lt_k c.hn (by omega)) c.dm rfl dX11_spell_12 ?_
        refine AX.iload_n (pc := 15) dX11_spell_15 rfl ?_
        refine AX.iload_n (pc := 16) dX11_spell_16 rfl ?_
        refine AX.callV (pc := 17) (M2 := M_X2_find) (As := [.int (nI rn), .int (nI in_)]) (rest := []) (c_find w h (show 64 ≤ h.1 by have := c.hn; omega) c.ru fi u_r (show in_ < 2147483648 by omega) e63) xc_X11_spell__X2_find gX11_spell_X2_find (ci := 1) rfl (lt_k c.hn (by omega)) e57_ rfl (Nat.le_of_ble_eq_true rfl) dX11_spell_17 ?_
        rintro _ h1 ⟨rfl, -, fA⟩
        obtain ⟨s1, R1, F1⟩ := fA hw
        have c1 : CSo h1 s o a b := c.fin (s1.wide (by decide)) ⟨_, F1⟩ ⟨fr63, s1.at (by simp) e63⟩
        rw [decide_eq_false hw]
        show AX w M_X11_spell 0 0 20 [.ref 0, .int (nI rn), .int (nI in_)] [.int (bI false)] _ _
        refine AX.if_neB (pc := 20) (tgt := 25) dX11_spell_20 (by decide) (fun q => absurd q (by decide)) (fun hc20 => ?_)
        refine AX.iconst (pc := 23) (v := (-1)) dX11_spell_23 (by decide) ?_
        refine AX.iret (pc := 24) dX11_spell_24 rfl rfl (by decide) (by decide) ?_
        exact ⟨by unfold aSpell; rw [if_pos h_r, if_pos h_i, nI_nat (show rn < 2147483648 by omega), nI_nat (show in_ < 2147483648 by omega), if_neg hw]; try rfl, clS_in s1 (by decide), c1⟩
    · have en : nSpell o (sX s) (nI rn) i = sX s := by unfold nSpell; rw [if_pos h_r, if_neg h_i]
      rw [en]
      refine CA.of (by decide) rfl (fun _ => Nat.le_of_ble_eq_true rfl) ?_
      show AX w M_X11_spell 0 0 0 [.ref 0, .int (nI rn), .int i] [] h _
      refine AX.aload_n (pc := 0) dX11_spell_0 rfl ?_
      refine AX.iload_n (pc := 1) dX11_spell_1 rfl ?_
      refine AX.sipush (pc := 2) (v := nI 180) dX11_spell_2 (by decide) ?_
      refine AX.callV (pc := 5) (M2 := M_X11_isRestUpTo) (As := [.int (nI rn), .int (nI 180)]) (rest := []) (c_isRestUpTo w h (nI rn) 180 c.hn c.dm c.ru) xc_X11_spell__X11_isRestUpTo gX11_spell_X11_isRestUpTo (ci := 10) rfl (lt_k c.hn (by omega)) c.dm rfl (Nat.le_of_ble_eq_true rfl) dX11_spell_5 ?_
      rintro _ h9 ⟨rfl, e9⟩
      have e9 := e9.symm
      subst e9
      rw [decide_eq_true ((rest_iff (by decide)).mpr h_r)]
      show AX w M_X11_spell 0 0 8 [.ref 0, .int (nI rn), .int i] [.int (bI true)] _ _
      refine AX.if_eqB (pc := 8) (tgt := 23) dX11_spell_8 (by decide) (fun q => absurd q (by decide)) (fun hc8 => ?_)
      refine AX.aload_n (pc := 11) dX11_spell_11 rfl ?_
      refine AX.getf (pc := 12) fX11_spell_46 (lt_k c.hn (by omega)) c.dm rfl dX11_spell_12 ?_
      refine AX.iload_n (pc := 15) dX11_spell_15 rfl ?_
      refine AX.iload_n (pc := 16) dX11_spell_16 rfl ?_
      refine AX.callV (pc := 17) (M2 := M_X2_find) (As := [.int (nI rn), .int i]) (rest := []) (c_findNeg w h (neg_of h_i)) xc_X11_spell__X2_find gX11_spell_X2_find (ci := 1) rfl (lt_k c.hn (by omega)) e57_ rfl (Nat.le_of_ble_eq_true rfl) dX11_spell_17 ?_
      rintro _ h9 ⟨rfl, e9⟩
      have e9 := e9.symm
      subst e9
      show AX w M_X11_spell 0 0 20 [.ref 0, .int (nI rn), .int i] [.int (bI false)] _ _
      refine AX.if_neB (pc := 20) (tgt := 25) dX11_spell_20 (by decide) (fun q => absurd q (by decide)) (fun hc20 => ?_)
      refine AX.iconst (pc := 23) (v := (-1)) dX11_spell_23 (by decide) ?_
      refine AX.iret (pc := 24) dX11_spell_24 rfl rfl (by decide) (by decide) ?_
      exact ⟨by unfold aSpell; rw [if_pos h_r, if_neg h_i]; try rfl, Same.rf, c⟩
  · refine CA.of (by decide) rfl (fun _ => Nat.le_of_ble_eq_true rfl) ?_
    show AX w M_X11_spell 0 0 0 [.ref 0, .int r, .int i] [] h _
    refine AX.aload_n (pc := 0) dX11_spell_0 rfl ?_
    refine AX.iload_n (pc := 1) dX11_spell_1 rfl ?_
    refine AX.sipush (pc := 2) (v := nI 180) dX11_spell_2 (by decide) ?_
    refine AX.callV (pc := 5) (M2 := M_X11_isRestUpTo) (As := [.int r, .int (nI 180)]) (rest := []) (c_isRestUpTo w h r 180 c.hn c.dm c.ru) xc_X11_spell__X11_isRestUpTo gX11_spell_X11_isRestUpTo (ci := 10) rfl (lt_k c.hn (by omega)) c.dm rfl (Nat.le_of_ble_eq_true rfl) dX11_spell_5 ?_
    rintro _ h9 ⟨rfl, e9⟩
    have e9 := e9.symm
    subst e9
    rw [decide_eq_false (fun q => h_r ((rest_iff (by decide)).mp q))]
    show AX w M_X11_spell 0 0 8 [.ref 0, .int r, .int i] [.int (bI false)] _ _
    refine AX.if_eqB (pc := 8) (tgt := 23) dX11_spell_8 (by decide) (fun hc8 => ?_) (fun q => absurd q (by decide))
    refine AX.iconst (pc := 23) (v := (-1)) dX11_spell_23 (by decide) ?_
    refine AX.iret (pc := 24) dX11_spell_24 rfl rfl (by decide) (by decide) ?_
    have en : nSpell o (sX s) r i = sX s := by unfold nSpell; rw [if_neg h_r]
    rw [en]
    exact ⟨by unfold aSpell; rw [if_neg h_r], Same.rf, c⟩
theorem c_paper (w : XW) (h : XH) {s : SS} {o : Nat} {a b : Nat × Nat} (c : CSo h s o a b) (i : Int32) : CA w M_X11_paper [.ref 0, .int i] h (fun v' h'' => v' = some (.int (aPaper (sX s) i)) ∧ h'' = h) := by
  obtain ⟨-, l76, f76, e76, q76⟩ := id c.pt
  by_cases h_i : inR 0 2147483647 i
  · obtain ⟨in_, rfl, l_i, u_i⟩ := inR_nat (by decide) h_i
    by_cases hw : in_ < (sX s).length
    · refine CA.of (by decide) rfl (fun _ => Nat.le_of_ble_eq_true rfl) ?_
      show AX w M_X11_paper 0 0 0 [.ref 0, .int (nI in_)] [] h _
      refine AX.iload_n (pc := 0) dX11_paper_0 rfl ?_
      refine AX.if_ltN (pc := 1) (tgt := 15) dX11_paper_1 (by decide) (by omega) (fun q => absurd q (by omega)) (fun hc1 => ?_)
      refine AX.iload_n (pc := 4) dX11_paper_4 rfl ?_
      refine AX.aload_n (pc := 5) dX11_paper_5 rfl ?_
      refine AX.getf (pc := 6) fX11_paper_70 (lt_k c.hn (by omega)) c.dm rfl dX11_paper_6 ?_
      refine AX.getf (pc := 9) fX11_paper_218 (lt_k c.hn (by omega)) c.pt.1 rfl dX11_paper_9 ?_
      refine AX.icmp_ltN (pc := 12) (tgt := 19) dX11_paper_12 (by decide) (by omega) (by omega) (fun hc12 => ?_) (fun q => absurd q (by omega))
      refine AX.aload_n (pc := 19) dX11_paper_19 rfl ?_
      refine AX.getf (pc := 20) fX11_paper_70 (lt_k c.hn (by omega)) c.dm rfl dX11_paper_20 ?_
      refine AX.getf (pc := 23) fX11_paper_280 (lt_k c.hn (by omega)) c.pt.1 rfl dX11_paper_23 ?_
      refine AX.iload_n (pc := 26) dX11_paper_26 rfl ?_
      refine AX.ialdN (pc := 27) (i := in_) (v := (nI ((sX s).getD in_ 0))) (lt_k c.hn (by omega)) e76 (by decide) (by omega) (q76 in_ hw) dX11_paper_27 ?_
      refine AX.iret (pc := 28) dX11_paper_28 rfl rfl (by decide) (by decide) ?_
      exact ⟨by unfold aPaper; rw [if_pos h_i, nI_nat (show in_ < 2147483648 by omega), if_pos hw]; try rfl, rfl⟩
    · refine CA.of (by decide) rfl (fun _ => Nat.le_of_ble_eq_true rfl) ?_
      show AX w M_X11_paper 0 0 0 [.ref 0, .int (nI in_)] [] h _
      refine AX.iload_n (pc := 0) dX11_paper_0 rfl ?_
      refine AX.if_ltN (pc := 1) (tgt := 15) dX11_paper_1 (by decide) (by omega) (fun q => absurd q (by omega)) (fun hc1 => ?_)
      refine AX.iload_n (pc := 4) dX11_paper_4 rfl ?_
      refine AX.aload_n (pc := 5) dX11_paper_5 rfl ?_
      refine AX.getf (pc := 6) fX11_paper_70 (lt_k c.hn (by omega)) c.dm rfl dX11_paper_6 ?_
      refine AX.getf (pc := 9) fX11_paper_218 (lt_k c.hn (by omega)) c.pt.1 rfl dX11_paper_9 ?_
      refine AX.icmp_ltN (pc := 12) (tgt := 19) dX11_paper_12 (by decide) (by omega) (by omega) (fun q => absurd q (by omega)) (fun hc12 => ?_)
      refine AX.iconst (pc := 15) (v := (-1)) dX11_paper_15 (by decide) ?_
      refine AX.goto (pc := 16) (tgt := 28) dX11_paper_16 (by decide) ?_
      refine AX.iret (pc := 28) dX11_paper_28 rfl rfl (by decide) (by decide) ?_
      exact ⟨by unfold aPaper; rw [if_pos h_i, nI_nat (show in_ < 2147483648 by omega), if_neg hw]; try rfl, rfl⟩
  have hneg := neg_of h_i
  have hl : i.toInt < 0 := by rw [lt_i, i0] at hneg; exact hneg
  refine CA.of (by decide) rfl (fun _ => Nat.le_of_ble_eq_true rfl) ?_
  show AX w M_X11_paper 0 0 0 [.ref 0, .int i] [] h _
  refine AX.iload_n (pc := 0) dX11_paper_0 rfl ?_
  refine AX.if_lt (pc := 1) (tgt := 15) dX11_paper_1 (by decide) (fun hc1 => ?_) (fun q => absurd (ltT rfl i0 (by omega)) q)
  refine AX.iconst (pc := 15) (v := (-1)) dX11_paper_15 (by decide) ?_
  refine AX.goto (pc := 16) (tgt := 28) dX11_paper_16 (by decide) ?_
  refine AX.iret (pc := 28) dX11_paper_28 rfl rfl (by decide) (by decide) ?_
  exact ⟨by unfold aPaper; rw [if_neg h_i]; try rfl, rfl⟩
