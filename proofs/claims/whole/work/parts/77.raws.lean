/-! ===== raw bits by the JDK ===== -/
theorem AX.d2raw {w : XW} {M : MD} {k n pc idx : Nat} {L rest : List Value} {h : XH} {P : Option Value → XH → Prop} {x : UInt64} (hl : Cond.methodLink (mY M).cls idx ⟨"java/lang/Double", "doubleToRawLongBits", "(D)J"⟩ ∈ mW M) (h2 : Cond.native ⟨"java/lang/Double", "doubleToRawLongBits", "(D)J"⟩ ∈ mW M) (h3 : Cond.static ⟨"java/lang/Double", "doubleToRawLongBits", "(D)J"⟩ ∈ mW M) (h4 : Cond.initialized "java/lang/Double" ∈ mW M) (hfr : 1 ≤ mfr M) (hlo : (rest.map fun v => v.category).sum + 15 ≤ mlo M) (d : decode (mC M) pc = .ok (.invokestatic idx, 3))
    (kk : AX w M k n (pc + 3) L (.long x.toInt64 :: rest) h P) : AX w M k n pc L (.double x :: rest) h P := by
  intro R p l e s m args below meth c H locs ls Q hR hX hH hS hL hw hE
  have hts := hX.2.2.2.2.1
  exact vn_d2l hX.1 hX.2.1 (hX.2.2.1.trans hL.1.symm) hX.2.2.2.1 (hts _ hl) (hts _ h2) (hts _ h3) (hts _ h4) (by rw [hR]; exact hfr) (by rw [hR, xcats]; exact hlo) d (kk R p l e s m args below meth c H locs ls Q hR hX hH hS hL hw hE)
theorem AX.f2raw {w : XW} {M : MD} {k n pc idx : Nat} {L rest : List Value} {h : XH} {P : Option Value → XH → Prop} {x : UInt32} (hl : Cond.methodLink (mY M).cls idx ⟨"java/lang/Float", "floatToRawIntBits", "(F)I"⟩ ∈ mW M) (h2 : Cond.native ⟨"java/lang/Float", "floatToRawIntBits", "(F)I"⟩ ∈ mW M) (h3 : Cond.static ⟨"java/lang/Float", "floatToRawIntBits", "(F)I"⟩ ∈ mW M) (h4 : Cond.initialized "java/lang/Float" ∈ mW M) (hfr : 1 ≤ mfr M) (hlo : (rest.map fun v => v.category).sum + 15 ≤ mlo M) (d : decode (mC M) pc = .ok (.invokestatic idx, 3))
    (kk : AX w M k n (pc + 3) L (.int x.toInt32 :: rest) h P) : AX w M k n pc L (.float x :: rest) h P := by
  intro R p l e s m args below meth c H locs ls Q hR hX hH hS hL hw hE
  have hts := hX.2.2.2.2.1
  exact vn_f2i hX.1 hX.2.1 (hX.2.2.1.trans hL.1.symm) hX.2.2.2.1 (hts _ hl) (hts _ h2) (hts _ h3) (hts _ h4) (by rw [hR]; exact hfr) (by rw [hR, xcats]; exact hlo) d (kk R p l e s m args below meth c H locs ls Q hR hX hH hS hL hw hE)
theorem bits_self {x : UInt64} (h : DF x) : Op.cmpValue (FP.dcmp x x) .l = 0 := by
  rw [show FP.dcmp x x = some .eq from FP.Core.dcmp_self h.ne_nan]
  decide
theorem bits_self32 {x : UInt32} (h : FP.Core.val32 x ≠ .nan) : Op.cmpValue (FP.fcmp x x) .l = 0 := by
  rw [show FP.fcmp x x = some .eq from FP.Core.order_self h]
  decide
theorem c_d2bitsNaN (w : XW) (h : XH) {x : UInt64} (hx : DF x) : CE w M_Jxe99ae_isNaN_b9ae7 [.double x] h (some (.int (bI false))) h := by
  refine CA.ofJ (by decide +kernel) rfl (fun _ => Nat.le_of_ble_eq_true rfl) ?_
  show AX w M_Jxe99ae_isNaN_b9ae7 0 0 0 [.double x, .null] [] h _
  refine AX.dload_n (pc := 0) dJxe99ae_isNaN_b9ae7_0 rfl ?_
  refine AX.dload_n (pc := 1) dJxe99ae_isNaN_b9ae7_1 rfl ?_
  refine AX.dcmp (pc := 2) dJxe99ae_isNaN_b9ae7_2 ?_
  refine AX.if_eq (pc := 3) (tgt := 10) dJxe99ae_isNaN_b9ae7_3 (by decide) (fun hc3 => ?_) (fun q => absurd (bits_self hx) q)
  refine AX.iconst (pc := 10) (v := nI 0) dJxe99ae_isNaN_b9ae7_10 (by decide) ?_
  refine AX.iret (pc := 11) dJxe99ae_isNaN_b9ae7_11 rfl rfl (by decide) (by decide) ?_
  exact ⟨rfl, rfl⟩
theorem c_d2bits (w : XW) (h : XH) {x : UInt64} (hx : DF x) : CE w M_Jxe99ae_doubleToLongBits_ccdee [.double x] h (some (.long x.toInt64)) h := by
  refine CA.ofJ (by decide +kernel) rfl (fun _ => Nat.le_of_ble_eq_true rfl) ?_
  show AX w M_Jxe99ae_doubleToLongBits_ccdee 0 0 0 [.double x, .null] [] h _
  refine AX.dload_n (pc := 0) dJxe99ae_doubleToLongBits_ccdee_0 rfl ?_
  refine AX.callS (pc := 1) (M2 := M_Jxe99ae_isNaN_b9ae7) (As := [.double x]) (rest := []) (c_d2bitsNaN w h hx) xc_Jxe99ae_doubleToLongBits_ccdee__Jxe99ae_isNaN_b9ae7 gJxe99ae_doubleToLongBits_ccdee_Jxe99ae_isNaN_b9ae7 rfl (Nat.le_of_ble_eq_true rfl) dJxe99ae_doubleToLongBits_ccdee_1 ?_
  rintro _ h9 ⟨rfl, e9⟩
  have e9 := e9.symm
  subst e9
  show AX w M_Jxe99ae_doubleToLongBits_ccdee 0 0 4 [.double x, .null] [.int (bI false)] _ _
  refine AX.if_neB (pc := 4) (tgt := 12) dJxe99ae_doubleToLongBits_ccdee_4 (by decide) (fun q => absurd q (by decide)) (fun hc4 => ?_)
  refine AX.dload_n (pc := 7) dJxe99ae_doubleToLongBits_ccdee_7 rfl ?_
  refine AX.d2raw (pc := 8) (by decide +kernel) (by decide +kernel) (by decide +kernel) (by decide +kernel) (by decide) (by decide) dJxe99ae_doubleToLongBits_ccdee_8 ?_
  refine AX.lret (pc := 11) dJxe99ae_doubleToLongBits_ccdee_11 rfl (by decide) (by decide) ?_
  exact ⟨rfl, rfl⟩
theorem c_f2bitsNaN (w : XW) (h : XH) {x : UInt32} (hx : FP.Core.val32 x ≠ .nan) : CE w M_Jxf58ca_isNaN_12338 [.float x] h (some (.int (bI false))) h := by
  refine CA.ofJ (by decide +kernel) rfl (fun _ => Nat.le_of_ble_eq_true rfl) ?_
  show AX w M_Jxf58ca_isNaN_12338 0 0 0 [.float x] [] h _
  refine AX.fload_n (pc := 0) dJxf58ca_isNaN_12338_0 rfl ?_
  refine AX.fload_n (pc := 1) dJxf58ca_isNaN_12338_1 rfl ?_
  refine AX.fcmp (pc := 2) dJxf58ca_isNaN_12338_2 ?_
  refine AX.if_eq (pc := 3) (tgt := 10) dJxf58ca_isNaN_12338_3 (by decide) (fun hc3 => ?_) (fun q => absurd (bits_self32 hx) q)
  refine AX.iconst (pc := 10) (v := nI 0) dJxf58ca_isNaN_12338_10 (by decide) ?_
  refine AX.iret (pc := 11) dJxf58ca_isNaN_12338_11 rfl rfl (by decide) (by decide) ?_
  exact ⟨rfl, rfl⟩
theorem c_f2bits (w : XW) (h : XH) {x : UInt32} (hx : FP.Core.val32 x ≠ .nan) : CE w M_Jxf58ca_floatToIntBits_5c35a [.float x] h (some (.int x.toInt32)) h := by
  refine CA.ofJ (by decide +kernel) rfl (fun _ => Nat.le_of_ble_eq_true rfl) ?_
  show AX w M_Jxf58ca_floatToIntBits_5c35a 0 0 0 [.float x] [] h _
  refine AX.fload_n (pc := 0) dJxf58ca_floatToIntBits_5c35a_0 rfl ?_
  refine AX.callS (pc := 1) (M2 := M_Jxf58ca_isNaN_12338) (As := [.float x]) (rest := []) (c_f2bitsNaN w h hx) xc_Jxf58ca_floatToIntBits_5c35a__Jxf58ca_isNaN_12338 gJxf58ca_floatToIntBits_5c35a_Jxf58ca_isNaN_12338 rfl (Nat.le_of_ble_eq_true rfl) dJxf58ca_floatToIntBits_5c35a_1 ?_
  rintro _ h9 ⟨rfl, e9⟩
  have e9 := e9.symm
  subst e9
  show AX w M_Jxf58ca_floatToIntBits_5c35a 0 0 4 [.float x] [.int (bI false)] _ _
  refine AX.if_neB (pc := 4) (tgt := 12) dJxf58ca_floatToIntBits_5c35a_4 (by decide) (fun q => absurd q (by decide)) (fun hc4 => ?_)
  refine AX.fload_n (pc := 7) dJxf58ca_floatToIntBits_5c35a_7 rfl ?_
  refine AX.f2raw (pc := 8) (by decide +kernel) (by decide +kernel) (by decide +kernel) (by decide +kernel) (by decide) (by decide) dJxf58ca_floatToIntBits_5c35a_8 ?_
  refine AX.iret (pc := 11) dJxf58ca_floatToIntBits_5c35a_11 rfl rfl (by decide) (by decide) ?_
  exact ⟨rfl, rfl⟩
