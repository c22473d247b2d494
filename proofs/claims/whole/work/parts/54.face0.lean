/-! ===== THE FACE: arguments within bounds; SPOT, UNDER, FALL, FALLS ===== -/
abbrev inR (lo hi : Nat) (x : Int32) : Prop := (lo : Int) ≤ x.toInt ∧ x.toInt ≤ (hi : Int)
abbrev inD (o : Nat) (x : Int32) : Prop := x = nI 0 ∨ inR (leN o) 501 x
theorem iN (k : Nat) (hk : k < 2147483648) : (nI k).toInt = (k : Int) := nI_toInt hk
theorem i0 : (0 : Int32).toInt = 0 := by decide
theorem iM1 : (-1 : Int32).toInt = -1 := by decide
theorem iM5 : (-5 : Int32).toInt = -5 := by decide
theorem ltT {x y : Int32} {p q : Int} (e1 : x.toInt = p) (e2 : y.toInt = q) (h : p < q) : x < y := Int32.lt_iff_toInt_lt.mpr (by omega)
theorem ltF {x y : Int32} {p q : Int} (e1 : x.toInt = p) (e2 : y.toInt = q) (h : q ≤ p) : ¬ x < y := fun z => by have := Int32.lt_iff_toInt_lt.mp z; omega
theorem leT {x y : Int32} {p q : Int} (e1 : x.toInt = p) (e2 : y.toInt = q) (h : p ≤ q) : x ≤ y := Int32.le_iff_toInt_le.mpr (by omega)
theorem leF {x y : Int32} {p q : Int} (e1 : x.toInt = p) (e2 : y.toInt = q) (h : q < p) : ¬ x ≤ y := fun z => by have := Int32.le_iff_toInt_le.mp z; omega
theorem neT {x y : Int32} {p q : Int} (e1 : x.toInt = p) (e2 : y.toInt = q) (h : ¬ p = q) : ¬ x = y := fun z => by subst z; omega
theorem nR {lo hi : Nat} {x : Int32} (h : ¬ inR lo hi x) : x.toInt < (lo : Int) ∨ (hi : Int) < x.toInt := by unfold inR at h; omega
theorem inR_nat {lo hi : Nat} {x : Int32} (hh : hi < 2147483648) (h : inR lo hi x) : ∃ k, x = nI k ∧ lo ≤ k ∧ k ≤ hi := by
  obtain ⟨h1, h2⟩ := h
  refine ⟨x.toInt.toNat, Int32.toInt_inj.mp ?_, by omega, by omega⟩
  rw [nI_toInt (by omega)]
  omega
theorem nat_inR {lo hi k : Nat} (hh : hi < 2147483648) (h1 : lo ≤ k) (h2 : k ≤ hi) : inR lo hi (nI k) := by
  unfold inR
  rw [nI_toInt (by omega)]
  omega
theorem nI_nat {k : Nat} (h : k < 2147483648) : (nI k).toNatClampNeg = k := by
  show (nI k).toInt.toNat = k
  rw [nI_toInt h]
  rfl
theorem inD_nat {o : Nat} {x : Int32} (h : inD o x) : ∃ k, x = nI k ∧ (k = 0 ∨ leN o ≤ k) ∧ k ≤ 501 := by
  rcases h with rfl | h
  · exact ⟨0, rfl, Or.inl rfl, by omega⟩
  · obtain ⟨k, e, h1, h2⟩ := inR_nat (by decide) h
    exact ⟨k, e, Or.inr h1, h2⟩
theorem lt_i {x y : Int32} : x < y ↔ x.toInt < y.toInt := Int32.lt_iff_toInt_lt
theorem spot_iff {x : Int32} : (¬ x < 0 ∧ x < nI 63) ↔ inR 0 62 x := by rw [lt_i, lt_i, i0, iN 63 (by decide)]; unfold inR; omega
theorem aim_iff {x : Int32} : (¬ x < nI 1 ∧ x < nI 63) ↔ inR 1 62 x := by rw [lt_i, lt_i, iN 1 (by decide), iN 63 (by decide)]; unfold inR; omega
theorem kind_iff {x : Int32} : (¬ x < 0 ∧ ¬ nI 5 < x) ↔ inR 0 5 x := by rw [lt_i, lt_i, i0, iN 5 (by decide)]; unfold inR; omega
theorem rack_iff {x : Int32} : (¬ x < 0 ∧ x < nI 4) ↔ inR 0 3 x := by rw [lt_i, lt_i, i0, iN 4 (by decide)]; unfold inR; omega
theorem play_iff {x : Int32} : (x = 0 ∨ x = nI 1) ↔ inR 0 1 x := by
  constructor
  · rintro (rfl | rfl)
    · exact nat_inR (k := 0) (by decide) (by omega) (by omega)
    · exact nat_inR (by decide) (by omega) (by omega)
  · intro h
    obtain ⟨k, rfl, h1, h2⟩ := inR_nat (by decide) h
    rcases (show k = 0 ∨ k = 1 by omega) with rfl | rfl
    · exact Or.inl rfl
    · exact Or.inr rfl
theorem rest_iff {o top : Nat} {x : Int32} (ht : top < 2147483648) : (¬ x < nI (leN o) ∧ ¬ nI top < x) ↔ inR (leN o) top x := by
  have := leN_le o
  rw [lt_i, lt_i, iN (leN o) (by omega), iN top ht]; unfold inR; omega
theorem drest_iff {o : Nat} {x : Int32} : (x = 0 ∨ (¬ x < nI (leN o) ∧ ¬ nI 501 < x)) ↔ inD o x := by
  unfold inD
  rw [rest_iff (by decide)]
  exact Iff.rfl
/-! the answers -/
def aSpot (x k : Int32) : Int32 := if inR 0 62 x then if inR 0 3 k then nI (if k.toNatClampNeg = 0 then scN x.toNatClampNeg else if k.toNatClampNeg = 1 then kdN x.toNatClampNeg else bsN (nbN x.toNatClampNeg) (if k.toNatClampNeg = 2 then 1 else 19)) else -1 else -1
def aUnder (x k : Int32) : Int32 := if inR 0 62 x then if inR 0 5 k then bI (unN x.toNatClampNeg k.toNatClampNeg) else -1 else -1
def aFalls (o : Nat) (x k : Int32) : Int32 := if inR 0 62 k then if inR 1 501 x then oI (nxN o x.toNatClampNeg k.toNatClampNeg) else -2 else -1
def pl (a b : Nat × Nat) (x : Int32) : Nat × Nat := hh a b x.toNatClampNeg
def aFall (a b : Nat × Nat) (x m i k : Int32) : Int32 := if inR 0 1 x then if inR 1 62 m then if i = -1 then nI (fC m.toNatClampNeg) else if inR 0 (fC m.toNatClampNeg - 1) i then if inR 0 1 k then
  (if k.toNatClampNeg = 0 then nI (fS (m.toNatClampNeg * 5 + i.toNatClampNeg)) else nI (wtN (pl a b x).1 (pl a b x).2 (m.toNatClampNeg * 5 + i.toNatClampNeg))) else -1 else -1 else -1 else -1
theorem c_spot (w : XW) (h : XH) {s : SS} {o : Nat} {a b : Nat × Nat} (c : CSo h s o a b) (x : Int32) (k : Int32) : CA w M_X11_spot [.ref 0, .int x, .int k] h (fun v' h'' => v' = some (.int (aSpot x k)) ∧ h'' = h) := by
  by_cases h_x : inR 0 62 x
  · obtain ⟨xn, rfl, l_x, u_x⟩ := inR_nat (by decide) h_x
    by_cases h_k : inR 0 3 k
    · obtain ⟨kn, rfl, l_k, u_k⟩ := inR_nat (by decide) h_k
      rcases (show kn = 0 ∨ kn = 1 ∨ kn = 2 ∨ kn = 3 by omega) with rfl | rfl | rfl | rfl
      · refine CA.of (by decide) rfl (fun _ => Nat.le_of_ble_eq_true rfl) ?_
        show AX w M_X11_spot 0 0 0 [.ref 0, .int (nI xn), .int (nI 0)] [] h _
        refine AX.iload_n (pc := 0) dX11_spot_0 rfl ?_
        refine AX.callS (pc := 1) (M2 := M_X11_isSpot) (As := [.int (nI xn)]) (rest := []) (c_isSpot w h (nI xn)) xc_X11_spot__X11_isSpot gX11_spot_X11_isSpot rfl (Nat.le_of_ble_eq_true rfl) dX11_spot_1 ?_
        rintro _ h9 ⟨rfl, e9⟩
        have e9 := e9.symm
        subst e9
        rw [decide_eq_true (spot_iff.mpr h_x)]
        show AX w M_X11_spot 0 0 4 [.ref 0, .int (nI xn), .int (nI 0)] [.int (bI true)] _ _
        refine AX.if_neB (pc := 4) (tgt := 9) dX11_spot_4 (by decide) (fun hc4 => ?_) (fun q => absurd q (by decide))
        refine AX.iload_n (pc := 9) dX11_spot_9 rfl ?_
        refine AX.tableIn (pc := 10) (off := 30) (tgt := 40) dX11_spot_10 (by decide) (by decide) (by decide) (by decide) ?_
        refine AX.iload_n (pc := 40) dX11_spot_40 rfl ?_
        refine AX.callS (pc := 41) (M2 := M_X0_scoreOf) (As := [.int (nI xn)]) (rest := []) (c_scoreOf w h xn (by omega)) xc_X11_spot__X0_scoreOf gX11_spot_X0_scoreOf rfl (Nat.le_of_ble_eq_true rfl) dX11_spot_41 ?_
        rintro _ h9 ⟨rfl, e9⟩
        have e9 := e9.symm
        subst e9
        show AX w M_X11_spot 0 0 44 [.ref 0, .int (nI xn), .int (nI 0)] [.int (nI (scN xn))] _ _
        refine AX.iret (pc := 44) dX11_spot_44 rfl rfl (by decide) (by decide) ?_
        exact ⟨by unfold aSpot; rw [if_pos h_x, if_pos h_k, nI_nat (show xn < 2147483648 by omega)]; try rfl, rfl⟩
      · refine CA.of (by decide) rfl (fun _ => Nat.le_of_ble_eq_true rfl) ?_
        show AX w M_X11_spot 0 0 0 [.ref 0, .int (nI xn), .int (nI 1)] [] h _
        refine AX.iload_n (pc := 0) dX11_spot_0 rfl ?_
        refine AX.callS (pc := 1) (M2 := M_X11_isSpot) (As := [.int (nI xn)]) (rest := []) (c_isSpot w h (nI xn)) xc_X11_spot__X11_isSpot gX11_spot_X11_isSpot rfl (Nat.le_of_ble_eq_true rfl) dX11_spot_1 ?_
        rintro _ h9 ⟨rfl, e9⟩
        have e9 := e9.symm
        subst e9
        rw [decide_eq_true (spot_iff.mpr h_x)]
        show AX w M_X11_spot 0 0 4 [.ref 0, .int (nI xn), .int (nI 1)] [.int (bI true)] _ _
        refine AX.if_neB (pc := 4) (tgt := 9) dX11_spot_4 (by decide) (fun hc4 => ?_) (fun q => absurd q (by decide))
        refine AX.iload_n (pc := 9) dX11_spot_9 rfl ?_
        refine AX.tableIn (pc := 10) (off := 35) (tgt := 45) dX11_spot_10 (by decide) (by decide) (by decide) (by decide) ?_
        refine AX.iload_n (pc := 45) dX11_spot_45 rfl ?_
        refine AX.callS (pc := 46) (M2 := M_X0_kindOf) (As := [.int (nI xn)]) (rest := []) (c_kindOf w h xn (by omega)) xc_X11_spot__X0_kindOf gX11_spot_X0_kindOf rfl (Nat.le_of_ble_eq_true rfl) dX11_spot_46 ?_
        rintro _ h9 ⟨rfl, e9⟩
        have e9 := e9.symm
        subst e9
        show AX w M_X11_spot 0 0 49 [.ref 0, .int (nI xn), .int (nI 1)] [.int (nI (kdN xn))] _ _
        refine AX.iret (pc := 49) dX11_spot_49 rfl rfl (by decide) (by decide) ?_
        exact ⟨by unfold aSpot; rw [if_pos h_x, if_pos h_k, nI_nat (show xn < 2147483648 by omega)]; try rfl, rfl⟩
      · refine CA.of (by decide) rfl (fun _ => Nat.le_of_ble_eq_true rfl) ?_
        show AX w M_X11_spot 0 0 0 [.ref 0, .int (nI xn), .int (nI 2)] [] h _
        refine AX.iload_n (pc := 0) dX11_spot_0 rfl ?_
        refine AX.callS (pc := 1) (M2 := M_X11_isSpot) (As := [.int (nI xn)]) (rest := []) (c_isSpot w h (nI xn)) xc_X11_spot__X11_isSpot gX11_spot_X11_isSpot rfl (Nat.le_of_ble_eq_true rfl) dX11_spot_1 ?_
        rintro _ h9 ⟨rfl, e9⟩
        have e9 := e9.symm
        subst e9
        rw [decide_eq_true (spot_iff.mpr h_x)]
        show AX w M_X11_spot 0 0 4 [.ref 0, .int (nI xn), .int (nI 2)] [.int (bI true)] _ _
        refine AX.if_neB (pc := 4) (tgt := 9) dX11_spot_4 (by decide) (fun hc4 => ?_) (fun q => absurd q (by decide))
        refine AX.iload_n (pc := 9) dX11_spot_9 rfl ?_
        refine AX.tableIn (pc := 10) (off := 40) (tgt := 50) dX11_spot_10 (by decide) (by decide) (by decide) (by decide) ?_
        refine AX.iload_n (pc := 50) dX11_spot_50 rfl ?_
        refine AX.callS (pc := 51) (M2 := M_X0_numberOf) (As := [.int (nI xn)]) (rest := []) (c_numberOf w h xn (by omega)) xc_X11_spot__X0_numberOf gX11_spot_X0_numberOf rfl (Nat.le_of_ble_eq_true rfl) dX11_spot_51 ?_
        rintro _ h9 ⟨rfl, e9⟩
        have e9 := e9.symm
        subst e9
        show AX w M_X11_spot 0 0 54 [.ref 0, .int (nI xn), .int (nI 2)] [.int (nI (nbN xn))] _ _
        refine AX.iconst (pc := 54) (v := nI 1) dX11_spot_54 (by decide) ?_
        refine AX.callS (pc := 55) (M2 := M_X0_numberBeside) (As := [.int (nI (nbN xn)), .int (nI 1)]) (rest := []) (c_numberBeside w h (nbN xn) 1 (nI 1) (nbN_le _) (Or.inl ⟨rfl, rfl⟩)) xc_X11_spot__X0_numberBeside gX11_spot_X0_numberBeside rfl (Nat.le_of_ble_eq_true rfl) dX11_spot_55 ?_
        rintro _ h9 ⟨rfl, e9⟩
        have e9 := e9.symm
        subst e9
        show AX w M_X11_spot 0 0 58 [.ref 0, .int (nI xn), .int (nI 2)] [.int (nI (bsN (nbN xn) 1))] _ _
        refine AX.iret (pc := 58) dX11_spot_58 rfl rfl (by decide) (by decide) ?_
        exact ⟨by unfold aSpot; rw [if_pos h_x, if_pos h_k, nI_nat (show xn < 2147483648 by omega)]; try rfl, rfl⟩
      · refine CA.of (by decide) rfl (fun _ => Nat.le_of_ble_eq_true rfl) ?_
        show AX w M_X11_spot 0 0 0 [.ref 0, .int (nI xn), .int (nI 3)] [] h _
        refine AX.iload_n (pc := 0) dX11_spot_0 rfl ?_
        refine AX.callS (pc := 1) (M2 := M_X11_isSpot) (As := [.int (nI xn)]) (rest := []) (c_isSpot w h (nI xn)) xc_X11_spot__X11_isSpot gX11_spot_X11_isSpot rfl (Nat.le_of_ble_eq_true rfl) dX11_spot_1 ?_
        rintro _ h9 ⟨rfl, e9⟩
        have e9 := e9.symm
        subst e9
        rw [decide_eq_true (spot_iff.mpr h_x)]
        show AX w M_X11_spot 0 0 4 [.ref 0, .int (nI xn), .int (nI 3)] [.int (bI true)] _ _
        refine AX.if_neB (pc := 4) (tgt := 9) dX11_spot_4 (by decide) (fun hc4 => ?_) (fun q => absurd q (by decide))
        refine AX.iload_n (pc := 9) dX11_spot_9 rfl ?_
        refine AX.tableIn (pc := 10) (off := 49) (tgt := 59) dX11_spot_10 (by decide) (by decide) (by decide) (by decide) ?_
        refine AX.iload_n (pc := 59) dX11_spot_59 rfl ?_
        refine AX.callS (pc := 60) (M2 := M_X0_numberOf) (As := [.int (nI xn)]) (rest := []) (c_numberOf w h xn (by omega)) xc_X11_spot__X0_numberOf gX11_spot_X0_numberOf rfl (Nat.le_of_ble_eq_true rfl) dX11_spot_60 ?_
        rintro _ h9 ⟨rfl, e9⟩
        have e9 := e9.symm
        subst e9
        show AX w M_X11_spot 0 0 63 [.ref 0, .int (nI xn), .int (nI 3)] [.int (nI (nbN xn))] _ _
        refine AX.iconst (pc := 63) (v := (-1)) dX11_spot_63 (by decide) ?_
        refine AX.callS (pc := 64) (M2 := M_X0_numberBeside) (As := [.int (nI (nbN xn)), .int (-1)]) (rest := []) (c_numberBeside w h (nbN xn) 19 (-1) (nbN_le _) (Or.inr ⟨rfl, rfl⟩)) xc_X11_spot__X0_numberBeside gX11_spot_X0_numberBeside rfl (Nat.le_of_ble_eq_true rfl) dX11_spot_64 ?_
        rintro _ h9 ⟨rfl, e9⟩
        have e9 := e9.symm
        subst e9
        show AX w M_X11_spot 0 0 67 [.ref 0, .int (nI xn), .int (nI 3)] [.int (nI (bsN (nbN xn) 19))] _ _
        refine AX.iret (pc := 67) dX11_spot_67 rfl rfl (by decide) (by decide) ?_
        exact ⟨by unfold aSpot; rw [if_pos h_x, if_pos h_k, nI_nat (show xn < 2147483648 by omega)]; try rfl, rfl⟩
    · rcases nR h_k with hl | hu
      · refine CA.of (by decide) rfl (fun _ => Nat.le_of_ble_eq_true rfl) ?_
        show AX w M_X11_spot 0 0 0 [.ref 0, .int (nI xn), .int k] [] h _
        refine AX.iload_n (pc := 0) dX11_spot_0 rfl ?_
        refine AX.callS (pc := 1) (M2 := M_X11_isSpot) (As := [.int (nI xn)]) (rest := []) (c_isSpot w h (nI xn)) xc_X11_spot__X11_isSpot gX11_spot_X11_isSpot rfl (Nat.le_of_ble_eq_true rfl) dX11_spot_1 ?_
        rintro _ h9 ⟨rfl, e9⟩
        have e9 := e9.symm
        subst e9
        rw [decide_eq_true (spot_iff.mpr h_x)]
        show AX w M_X11_spot 0 0 4 [.ref 0, .int (nI xn), .int k] [.int (bI true)] _ _
        refine AX.if_neB (pc := 4) (tgt := 9) dX11_spot_4 (by decide) (fun hc4 => ?_) (fun q => absurd q (by decide))
        refine AX.iload_n (pc := 9) dX11_spot_9 rfl ?_
        refine AX.tableOut (pc := 10) (tgt := 68) dX11_spot_10 (Or.inl (by omega)) (by decide) ?_
        refine AX.iconst (pc := 68) (v := (-1)) dX11_spot_68 (by decide) ?_
        refine AX.iret (pc := 69) dX11_spot_69 rfl rfl (by decide) (by decide) ?_
        exact ⟨by unfold aSpot; rw [if_pos h_x, if_neg h_k]; try rfl, rfl⟩
      · refine CA.of (by decide) rfl (fun _ => Nat.le_of_ble_eq_true rfl) ?_
        show AX w M_X11_spot 0 0 0 [.ref 0, .int (nI xn), .int k] [] h _
        refine AX.iload_n (pc := 0) dX11_spot_0 rfl ?_
        refine AX.callS (pc := 1) (M2 := M_X11_isSpot) (As := [.int (nI xn)]) (rest := []) (c_isSpot w h (nI xn)) xc_X11_spot__X11_isSpot gX11_spot_X11_isSpot rfl (Nat.le_of_ble_eq_true rfl) dX11_spot_1 ?_
        rintro _ h9 ⟨rfl, e9⟩
        have e9 := e9.symm
        subst e9
        rw [decide_eq_true (spot_iff.mpr h_x)]
        show AX w M_X11_spot 0 0 4 [.ref 0, .int (nI xn), .int k] [.int (bI true)] _ _
        refine AX.if_neB (pc := 4) (tgt := 9) dX11_spot_4 (by decide) (fun hc4 => ?_) (fun q => absurd q (by decide))
        refine AX.iload_n (pc := 9) dX11_spot_9 rfl ?_
        refine AX.tableOut (pc := 10) (tgt := 68) dX11_spot_10 (Or.inr (by omega)) (by decide) ?_
        refine AX.iconst (pc := 68) (v := (-1)) dX11_spot_68 (by decide) ?_
        refine AX.iret (pc := 69) dX11_spot_69 rfl rfl (by decide) (by decide) ?_
        exact ⟨by unfold aSpot; rw [if_pos h_x, if_neg h_k]; try rfl, rfl⟩
  · refine CA.of (by decide) rfl (fun _ => Nat.le_of_ble_eq_true rfl) ?_
    show AX w M_X11_spot 0 0 0 [.ref 0, .int x, .int k] [] h _
    refine AX.iload_n (pc := 0) dX11_spot_0 rfl ?_
    refine AX.callS (pc := 1) (M2 := M_X11_isSpot) (As := [.int x]) (rest := []) (c_isSpot w h x) xc_X11_spot__X11_isSpot gX11_spot_X11_isSpot rfl (Nat.le_of_ble_eq_true rfl) dX11_spot_1 ?_
    rintro _ h9 ⟨rfl, e9⟩
    have e9 := e9.symm
    subst e9
    rw [decide_eq_false (fun q => h_x (spot_iff.mp q))]
    show AX w M_X11_spot 0 0 4 [.ref 0, .int x, .int k] [.int (bI false)] _ _
    refine AX.if_neB (pc := 4) (tgt := 9) dX11_spot_4 (by decide) (fun q => absurd q (by decide)) (fun hc4 => ?_)
    refine AX.iconst (pc := 7) (v := (-1)) dX11_spot_7 (by decide) ?_
    refine AX.iret (pc := 8) dX11_spot_8 rfl rfl (by decide) (by decide) ?_
    exact ⟨by unfold aSpot; rw [if_neg h_x]; try rfl, rfl⟩
theorem c_under (w : XW) (h : XH) {s : SS} {o : Nat} {a b : Nat × Nat} (c : CSo h s o a b) (x : Int32) (k : Int32) : CA w M_X11_under [.ref 0, .int x, .int k] h (fun v' h'' => v' = some (.int (aUnder x k)) ∧ h'' = h) := by
  by_cases h_x : inR 0 62 x
  · obtain ⟨xn, rfl, l_x, u_x⟩ := inR_nat (by decide) h_x
    by_cases h_k : inR 0 5 k
    · obtain ⟨kn, rfl, l_k, u_k⟩ := inR_nat (by decide) h_k
      refine CA.of (by decide) rfl (fun _ => Nat.le_of_ble_eq_true rfl) ?_
      show AX w M_X11_under 0 0 0 [.ref 0, .int (nI xn), .int (nI kn)] [] h _
      refine AX.iload_n (pc := 0) dX11_under_0 rfl ?_
      refine AX.callS (pc := 1) (M2 := M_X11_isSpot) (As := [.int (nI xn)]) (rest := []) (c_isSpot w h (nI xn)) xc_X11_under__X11_isSpot gX11_under_X11_isSpot rfl (Nat.le_of_ble_eq_true rfl) dX11_under_1 ?_
      rintro _ h9 ⟨rfl, e9⟩
      have e9 := e9.symm
      subst e9
      rw [decide_eq_true (spot_iff.mpr h_x)]
      show AX w M_X11_under 0 0 4 [.ref 0, .int (nI xn), .int (nI kn)] [.int (bI true)] _ _
      refine AX.if_eqB (pc := 4) (tgt := 14) dX11_under_4 (by decide) (fun q => absurd q (by decide)) (fun hc4 => ?_)
      refine AX.iload_n (pc := 7) dX11_under_7 rfl ?_
      refine AX.callS (pc := 8) (M2 := M_X11_isKind) (As := [.int (nI kn)]) (rest := []) (c_isKind w h (nI kn)) xc_X11_under__X11_isKind gX11_under_X11_isKind rfl (Nat.le_of_ble_eq_true rfl) dX11_under_8 ?_
      rintro _ h9 ⟨rfl, e9⟩
      have e9 := e9.symm
      subst e9
      rw [decide_eq_true (kind_iff.mpr h_k)]
      show AX w M_X11_under 0 0 11 [.ref 0, .int (nI xn), .int (nI kn)] [.int (bI true)] _ _
      refine AX.if_neB (pc := 11) (tgt := 16) dX11_under_11 (by decide) (fun hc11 => ?_) (fun q => absurd q (by decide))
      refine AX.iload_n (pc := 16) dX11_under_16 rfl ?_
      refine AX.iload_n (pc := 17) dX11_under_17 rfl ?_
      refine AX.callS (pc := 18) (M2 := M_X0_isOfKind) (As := [.int (nI xn), .int (nI kn)]) (rest := []) (c_isOfKind w h xn kn (by omega) (by omega)) xc_X11_under__X0_isOfKind gX11_under_X0_isOfKind rfl (Nat.le_of_ble_eq_true rfl) dX11_under_18 ?_
      rintro _ h9 ⟨rfl, e9⟩
      have e9 := e9.symm
      subst e9
      show AX w M_X11_under 0 0 21 [.ref 0, .int (nI xn), .int (nI kn)] [.int (bI (unN xn kn))] _ _
      refine AX.if_eqB (pc := 21) (tgt := 28) dX11_under_21 (by decide) (fun hc21 => ?_) (fun hc21 => ?_)
      · refine AX.iconst (pc := 28) (v := nI 0) dX11_under_28 (by decide) ?_
        refine AX.iret (pc := 29) dX11_under_29 rfl rfl (by decide) (by decide) ?_
        exact ⟨by unfold aUnder; rw [if_pos h_x, if_pos h_k, nI_nat (show xn < 2147483648 by omega), nI_nat (show kn < 2147483648 by omega), hc21]; try rfl, rfl⟩
      · refine AX.iconst (pc := 24) (v := nI 1) dX11_under_24 (by decide) ?_
        refine AX.goto (pc := 25) (tgt := 29) dX11_under_25 (by decide) ?_
        refine AX.iret (pc := 29) dX11_under_29 rfl rfl (by decide) (by decide) ?_
        exact ⟨by unfold aUnder; rw [if_pos h_x, if_pos h_k, nI_nat (show xn < 2147483648 by omega), nI_nat (show kn < 2147483648 by omega), hc21]; try rfl, rfl⟩
    · refine CA.of (by decide) rfl (fun _ => Nat.le_of_ble_eq_true rfl) ?_
      show AX w M_X11_under 0 0 0 [.ref 0, .int (nI xn), .int k] [] h _
      refine AX.iload_n (pc := 0) dX11_under_0 rfl ?_
      refine AX.callS (pc := 1) (M2 := M_X11_isSpot) (As := [.int (nI xn)]) (rest := []) (c_isSpot w h (nI xn)) xc_X11_under__X11_isSpot gX11_under_X11_isSpot rfl (Nat.le_of_ble_eq_true rfl) dX11_under_1 ?_
      rintro _ h9 ⟨rfl, e9⟩
      have e9 := e9.symm
      subst e9
      rw [decide_eq_true (spot_iff.mpr h_x)]
      show AX w M_X11_under 0 0 4 [.ref 0, .int (nI xn), .int k] [.int (bI true)] _ _
      refine AX.if_eqB (pc := 4) (tgt := 14) dX11_under_4 (by decide) (fun q => absurd q (by decide)) (fun hc4 => ?_)
      refine AX.iload_n (pc := 7) dX11_under_7 rfl ?_
      refine AX.callS (pc := 8) (M2 := M_X11_isKind) (As := [.int k]) (rest := []) (c_isKind w h k) xc_X11_under__X11_isKind gX11_under_X11_isKind rfl (Nat.le_of_ble_eq_true rfl) dX11_under_8 ?_
      rintro _ h9 ⟨rfl, e9⟩
      have e9 := e9.symm
      subst e9
      rw [decide_eq_false (fun q => h_k (kind_iff.mp q))]
      show AX w M_X11_under 0 0 11 [.ref 0, .int (nI xn), .int k] [.int (bI false)] _ _
      refine AX.if_neB (pc := 11) (tgt := 16) dX11_under_11 (by decide) (fun q => absurd q (by decide)) (fun hc11 => ?_)
      refine AX.iconst (pc := 14) (v := (-1)) dX11_under_14 (by decide) ?_
      refine AX.iret (pc := 15) dX11_under_15 rfl rfl (by decide) (by decide) ?_
      exact ⟨by unfold aUnder; rw [if_pos h_x, if_neg h_k]; try rfl, rfl⟩
  · refine CA.of (by decide) rfl (fun _ => Nat.le_of_ble_eq_true rfl) ?_
    show AX w M_X11_under 0 0 0 [.ref 0, .int x, .int k] [] h _
    refine AX.iload_n (pc := 0) dX11_under_0 rfl ?_
    refine AX.callS (pc := 1) (M2 := M_X11_isSpot) (As := [.int x]) (rest := []) (c_isSpot w h x) xc_X11_under__X11_isSpot gX11_under_X11_isSpot rfl (Nat.le_of_ble_eq_true rfl) dX11_under_1 ?_
    rintro _ h9 ⟨rfl, e9⟩
    have e9 := e9.symm
    subst e9
    rw [decide_eq_false (fun q => h_x (spot_iff.mp q))]
    show AX w M_X11_under 0 0 4 [.ref 0, .int x, .int k] [.int (bI false)] _ _
    refine AX.if_eqB (pc := 4) (tgt := 14) dX11_under_4 (by decide) (fun hc4 => ?_) (fun q => absurd q (by decide))
    refine AX.iconst (pc := 14) (v := (-1)) dX11_under_14 (by decide) ?_
    refine AX.iret (pc := 15) dX11_under_15 rfl rfl (by decide) (by decide) ?_
    exact ⟨by unfold aUnder; rw [if_neg h_x]; try rfl, rfl⟩
theorem c_falls (w : XW) (h : XH) {s : SS} {o : Nat} {a b : Nat × Nat} (c : CSo h s o a b) (x : Int32) (k : Int32) : CA w M_X11_falls [.ref 0, .int x, .int k] h (fun v' h'' => v' = some (.int (aFalls o x k)) ∧ h'' = h) := by
  by_cases h_k : inR 0 62 k
  · obtain ⟨kn, rfl, l_k, u_k⟩ := inR_nat (by decide) h_k
    by_cases h_x : inR 1 501 x
    · obtain ⟨xn, rfl, l_x, u_x⟩ := inR_nat (by decide) h_x
      refine CA.of (by decide) rfl (fun _ => Nat.le_of_ble_eq_true rfl) ?_
      show AX w M_X11_falls 0 0 0 [.ref 0, .int (nI xn), .int (nI kn)] [] h _
      refine AX.iload_n (pc := 0) dX11_falls_0 rfl ?_
      refine AX.callS (pc := 1) (M2 := M_X11_isSpot) (As := [.int (nI kn)]) (rest := []) (c_isSpot w h (nI kn)) xc_X11_falls__X11_isSpot gX11_falls_X11_isSpot rfl (Nat.le_of_ble_eq_true rfl) dX11_falls_1 ?_
      rintro _ h9 ⟨rfl, e9⟩
      have e9 := e9.symm
      subst e9
      rw [decide_eq_true (spot_iff.mpr h_k)]
      show AX w M_X11_falls 0 0 4 [.ref 0, .int (nI xn), .int (nI kn)] [.int (bI true)] _ _
      refine AX.if_neB (pc := 4) (tgt := 9) dX11_falls_4 (by decide) (fun hc4 => ?_) (fun q => absurd q (by decide))
      refine AX.iload_n (pc := 9) dX11_falls_9 rfl ?_
      refine AX.iconst (pc := 10) (v := nI 1) dX11_falls_10 (by decide) ?_
      refine AX.icmp_ltN (pc := 11) (tgt := 21) dX11_falls_11 (by decide) (by omega) (by decide) (fun q => absurd q (by omega)) (fun hc11 => ?_)
      refine AX.iload_n (pc := 14) dX11_falls_14 rfl ?_
      refine AX.sipush (pc := 15) (v := nI 501) dX11_falls_15 (by decide) ?_
      refine AX.icmp_leN (pc := 18) (tgt := 24) dX11_falls_18 (by decide) (by omega) (by decide) (fun hc18 => ?_) (fun q => absurd q (by omega))
      refine AX.aload_n (pc := 24) dX11_falls_24 rfl ?_
      refine AX.getf (pc := 25) fX11_falls_18 (lt_k c.hn (by omega)) c.dm rfl dX11_falls_25 ?_
      refine AX.iload_n (pc := 28) dX11_falls_28 rfl ?_
      refine AX.iload_n (pc := 29) dX11_falls_29 rfl ?_
      refine AX.callV (pc := 30) (M2 := M_X9_restBehind) (As := [.int (nI xn), .int (nI kn)]) (rest := []) (c_restBehind w h (by have := c.hn; omega) c.ru xn kn (by omega) (by omega)) xc_X11_falls__X9_restBehind gX11_falls_X9_restBehind (ci := 8) rfl (lt_k c.hn (by omega)) c.ru.2.1 rfl (Nat.le_of_ble_eq_true rfl) dX11_falls_30 ?_
      rintro _ h9 ⟨rfl, e9⟩
      have e9 := e9.symm
      subst e9
      show AX w M_X11_falls 0 0 33 [.ref 0, .int (nI xn), .int (nI kn)] [.int (oI (nxN o xn kn))] _ _
      refine AX.iret (pc := 33) dX11_falls_33 rfl rfl (by decide) (by decide) ?_
      exact ⟨by unfold aFalls; rw [if_pos h_k, if_pos h_x, nI_nat (show xn < 2147483648 by omega), nI_nat (show kn < 2147483648 by omega)]; try rfl, rfl⟩
    · rcases nR h_x with hl | hu
      · refine CA.of (by decide) rfl (fun _ => Nat.le_of_ble_eq_true rfl) ?_
        show AX w M_X11_falls 0 0 0 [.ref 0, .int x, .int (nI kn)] [] h _
        refine AX.iload_n (pc := 0) dX11_falls_0 rfl ?_
        refine AX.callS (pc := 1) (M2 := M_X11_isSpot) (As := [.int (nI kn)]) (rest := []) (c_isSpot w h (nI kn)) xc_X11_falls__X11_isSpot gX11_falls_X11_isSpot rfl (Nat.le_of_ble_eq_true rfl) dX11_falls_1 ?_
        rintro _ h9 ⟨rfl, e9⟩
        have e9 := e9.symm
        subst e9
        rw [decide_eq_true (spot_iff.mpr h_k)]
        show AX w M_X11_falls 0 0 4 [.ref 0, .int x, .int (nI kn)] [.int (bI true)] _ _
        refine AX.if_neB (pc := 4) (tgt := 9) dX11_falls_4 (by decide) (fun hc4 => ?_) (fun q => absurd q (by decide))
        refine AX.iload_n (pc := 9) dX11_falls_9 rfl ?_
        refine AX.iconst (pc := 10) (v := nI 1) dX11_falls_10 (by decide) ?_
        refine AX.icmp_lt (pc := 11) (tgt := 21) dX11_falls_11 (by decide) (fun hc11 => ?_) (fun q => absurd (ltT rfl (iN 1 (by omega)) (by omega)) q)
        refine AX.bipush (pc := 21) (v := (-2)) dX11_falls_21 (by decide) ?_
        refine AX.iret (pc := 23) dX11_falls_23 rfl rfl (by decide) (by decide) ?_
        exact ⟨by unfold aFalls; rw [if_pos h_k, if_neg h_x]; try rfl, rfl⟩
      · refine CA.of (by decide) rfl (fun _ => Nat.le_of_ble_eq_true rfl) ?_
        show AX w M_X11_falls 0 0 0 [.ref 0, .int x, .int (nI kn)] [] h _
        refine AX.iload_n (pc := 0) dX11_falls_0 rfl ?_
        refine AX.callS (pc := 1) (M2 := M_X11_isSpot) (As := [.int (nI kn)]) (rest := []) (c_isSpot w h (nI kn)) xc_X11_falls__X11_isSpot gX11_falls_X11_isSpot rfl (Nat.le_of_ble_eq_true rfl) dX11_falls_1 ?_
        rintro _ h9 ⟨rfl, e9⟩
        have e9 := e9.symm
        subst e9
        rw [decide_eq_true (spot_iff.mpr h_k)]
        show AX w M_X11_falls 0 0 4 [.ref 0, .int x, .int (nI kn)] [.int (bI true)] _ _
        refine AX.if_neB (pc := 4) (tgt := 9) dX11_falls_4 (by decide) (fun hc4 => ?_) (fun q => absurd q (by decide))
        refine AX.iload_n (pc := 9) dX11_falls_9 rfl ?_
        refine AX.iconst (pc := 10) (v := nI 1) dX11_falls_10 (by decide) ?_
        refine AX.icmp_lt (pc := 11) (tgt := 21) dX11_falls_11 (by decide) (fun q => absurd q (ltF rfl (iN 1 (by omega)) (by omega))) (fun hc11 => ?_)
        refine AX.iload_n (pc := 14) dX11_falls_14 rfl ?_
        refine AX.sipush (pc := 15) (v := nI 501) dX11_falls_15 (by decide) ?_
        refine AX.icmp_le (pc := 18) (tgt := 24) dX11_falls_18 (by decide) (fun q => absurd q (leF rfl (iN 501 (by omega)) (by omega))) (fun hc18 => ?_)
        refine AX.bipush (pc := 21) (v := (-2)) dX11_falls_21 (by decide) ?_
        refine AX.iret (pc := 23) dX11_falls_23 rfl rfl (by decide) (by decide) ?_
        exact ⟨by unfold aFalls; rw [if_pos h_k, if_neg h_x]; try rfl, rfl⟩
  · refine CA.of (by decide) rfl (fun _ => Nat.le_of_ble_eq_true rfl) ?_
    show AX w M_X11_falls 0 0 0 [.ref 0, .int x, .int k] [] h _
    refine AX.iload_n (pc := 0) dX11_falls_0 rfl ?_
    refine AX.callS (pc := 1) (M2 := M_X11_isSpot) (As := [.int k]) (rest := []) (c_isSpot w h k) xc_X11_falls__X11_isSpot gX11_falls_X11_isSpot rfl (Nat.le_of_ble_eq_true rfl) dX11_falls_1 ?_
    rintro _ h9 ⟨rfl, e9⟩
    have e9 := e9.symm
    subst e9
    rw [decide_eq_false (fun q => h_k (spot_iff.mp q))]
    show AX w M_X11_falls 0 0 4 [.ref 0, .int x, .int k] [.int (bI false)] _ _
    refine AX.if_neB (pc := 4) (tgt := 9) dX11_falls_4 (by decide) (fun q => absurd q (by decide)) (fun hc4 => ?_)
    refine AX.iconst (pc := 7) (v := (-1)) dX11_falls_7 (by decide) ?_
    refine AX.iret (pc := 8) dX11_falls_8 rfl rfl (by decide) (by decide) ?_
    exact ⟨by unfold aFalls; rw [if_neg h_k]; try rfl, rfl⟩
