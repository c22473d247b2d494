/-! ===== THE FACE: a DART by a drawn number ===== -/
/-- the number drawn by a seed -/
def drN (z : Int32) : Nat := (z.toUInt32 >>> 16).toNat % 1000
theorem dwN_lo {q : Nat → Int32} {k : Nat} (h : k < 18) : dwN q k = q k := upd_off (by omega)
theorem drN_lt (z : Int32) : drN z < 1000 := Nat.mod_lt _ (by decide)
theorem drN_is (z : Int32) : (z.toUInt32 >>> ((nI 16).toUInt32 &&& Int32.toUInt32 31)).toInt32 - (z.toUInt32 >>> ((nI 16).toUInt32 &&& Int32.toUInt32 31)).toInt32 / nI 1000 * nI 1000 = nI (drN z) := by
  rw [show (nI 16).toUInt32 &&& Int32.toUInt32 31 = 16 from by decide]
  have hu : (z.toUInt32 >>> 16).toNat < 65536 := by
    rw [UInt32.toNat_shiftRight, show (16 : UInt32).toNat % 32 = 16 from by decide, Nat.shiftRight_eq_div_pow]
    have := z.toUInt32.toNat_lt
    omega
  have e : (z.toUInt32 >>> 16).toInt32 = nI (z.toUInt32 >>> 16).toNat := by
    refine Int32.toInt_inj.mp ?_
    rw [nI_toInt (by omega)]
    show (z.toUInt32 >>> 16).toBitVec.toInt = _
    rw [BitVec.toInt_eq_toNat_of_lt (by show 2 * (z.toUInt32 >>> 16).toNat < 2 ^ 32; omega)]
    rfl
  rw [e]
  exact pk_rem (by omega) (by decide) (by decide)
theorem c_throwByDraw (w : XW) (h : XH) {o r t g a b sd rg dk ck : Nat} {pc : Bool} {q : Nat → Int32} (hn : 87 ≤ h.1) (hD : DM h pc) (hR : RU h o) (hF : FA h) (h9 : rA h 9 5 2 (fun u => some (10 + 16 * u))) (hb : b = 10 + 16 * t) (hM : MI h b sd rg dk ck) (hL : LG h 64 q) (ht : t ≤ 1) (hg : g ≤ 1) (h15 : q 15 = nI t) (h14 : q 14 = nI g) (hr : q (4 + t) = nI r) (hr5 : r ≤ 501) (h1a : 1 ≤ a) (h2a : a < 63) : CA w M_X11_throwByDraw [.ref 0, .int (nI a)] h (fun v h' => v = some (.int (nI (fuN sd rg a (drN (dwN q 18)) (fC a) 0))) ∧ Same [64, 66, 67] h h' ∧ LG h' 64 (ldN (dwN q) t g (nxN o r (fuN sd rg a (drN (dwN q 18)) (fC a) 0)))) := by
  refine CA.of (by decide) rfl (fun _ => Nat.le_of_ble_eq_true rfl) ?_
  obtain ⟨f9, e9_, q9⟩ := id h9
  have eb := hL.1
  rw [h15] at eb
  show AX w M_X11_throwByDraw 0 0 0 [.ref 0, .int (nI a), .null] [] h _
  refine AX.aload_n (pc := 0) dX11_throwByDraw_0 rfl ?_
  refine AX.getf (pc := 1) fX11_throwByDraw_28 (lt_k hn (by omega)) hD rfl dX11_throwByDraw_1 ?_
  refine AX.aload_n (pc := 4) dX11_throwByDraw_4 rfl ?_
  refine AX.getf (pc := 5) fX11_throwByDraw_53 (lt_k hn (by omega)) hD rfl dX11_throwByDraw_5 ?_
  refine AX.getf (pc := 8) fX11_throwByDraw_237 (lt_k hn (by omega)) eb rfl dX11_throwByDraw_8 ?_
  refine AX.aaldN (pc := 11) (i := t) (b := b) (by decide) (lt_k hn (by omega)) e9_ (by decide) (by omega) ((q9 t (by omega)).trans (by rw [hb])) dX11_throwByDraw_11 ?_
  refine AX.iload_n (pc := 12) dX11_throwByDraw_12 rfl ?_
  refine AX.aload_n (pc := 13) dX11_throwByDraw_13 rfl ?_
  refine AX.getf (pc := 14) fX11_throwByDraw_53 (lt_k hn (by omega)) hD rfl dX11_throwByDraw_14 ?_
  refine AX.callV (pc := 17) (M2 := M_X3_draw) (As := []) (rest := [.int (nI a), .ref b]) (c_draw w h (by omega) hL) xc_X11_throwByDraw__X3_draw gX11_throwByDraw_X3_draw (ci := 2) rfl (lt_k hn (by omega)) eb rfl (Nat.le_of_ble_eq_true rfl) dX11_throwByDraw_17 ?_
  rintro _ h1 ⟨rfl, s1, l1⟩
  rw [drN_is]
  have D1 := hD.same s1 (by simp)
  have F1 := hF.same s1 (by simp) (by simp) (by simp) (by simp) (by simp)
  have R1 := hR.same s1 (by simp) (by simp) (by simp)
  have M1 := hM.same s1 (by simp; omega) (by simp; omega) (by simp; omega)
  show AX w M_X11_throwByDraw 0 0 20 [.ref 0, .int (nI a), .null] [.int (nI (drN (dwN q 18))), .int (nI a), .ref b] _ _
  refine AX.callV (pc := 20) (M2 := M_X4_fallenUpon) (As := [.int (nI a), .int (nI (drN (dwN q 18)))]) (rest := []) (c_fallenUpon w h1 (show 42 ≤ h1.1 by have := s1.1; omega) F1 M1 h1a h2a (drN_lt _)) xc_X11_throwByDraw__X4_fallenUpon gX11_throwByDraw_X4_fallenUpon (ci := 3) rfl (lt_k (s1.le hn) (by omega)) M1.2.2.2.1 rfl (Nat.le_of_ble_eq_true rfl) dX11_throwByDraw_20 ?_
  rintro _ h9 ⟨rfl, e9⟩
  have e9 := e9.symm
  subst e9
  show AX w M_X11_throwByDraw 0 0 23 [.ref 0, .int (nI a), .null] [.int (nI (fuN sd rg a (drN (dwN q 18)) (fC a) 0))] _ _
  refine AX.istore_n (pc := 23) (L' := [.ref 0, .int (nI a), .int (nI (fuN sd rg a (drN (dwN q 18)) (fC a) 0))]) dX11_throwByDraw_23 (by decide) rfl ?_
  refine AX.aload_n (pc := 24) dX11_throwByDraw_24 rfl ?_
  refine AX.iload_n (pc := 25) dX11_throwByDraw_25 rfl ?_
  refine AX.callV (pc := 26) (M2 := M_X11_throwUpon) (As := [.int (nI (fuN sd rg a (drN (dwN q 18)) (fC a) 0))]) (rest := []) (c_throwUpon w h1 (o := o) (r := r) (t := t) (g := g) (by rw [s1.1]; exact hn) D1 R1 l1 ht hg (by show dwN q 15 = _; exact h15) (by show dwN q 14 = _; exact h14) (by rw [dwN_lo (by omega)]; exact hr) hr5 (fuN_lt h2a (fC a) 0 (Nat.zero_add _))) xc_X11_throwByDraw__X11_throwUpon gX11_throwByDraw_X11_throwUpon (ci := 10) rfl (lt_k (s1.le hn) (by omega)) D1 rfl (Nat.le_of_ble_eq_true rfl) dX11_throwByDraw_26 ?_
  rintro _ h2 ⟨rfl, s2, l2⟩
  show AX w M_X11_throwByDraw 0 0 29 [.ref 0, .int (nI a), .int (nI (fuN sd rg a (drN (dwN q 18)) (fC a) 0))] [.int (oI (nxN o r (fuN sd rg a (drN (dwN q 18)) (fC a) 0)))] _ _
  refine AX.pop (pc := 29) dX11_throwByDraw_29 rfl ?_
  refine AX.iload_n (pc := 30) dX11_throwByDraw_30 rfl ?_
  refine AX.iret (pc := 31) dX11_throwByDraw_31 rfl rfl (by decide) (by decide) ?_
  exact ⟨rfl, (s1.wide (by simp)).trans s2, l2⟩
