/-! ===== THE FACE: FALL, HAND, OUT ===== -/
def aHand (q : Nat → Int32) (x k v : Int32) : Int32 := if inR 0 1 x then if inR 0 1 k then if inR 0 200 v then q (2 * k.toNatClampNeg + x.toNatClampNeg) else -2 else -1 else -1
def nHand (q : Nat → Int32) (x k v : Int32) : Nat → Int32 := if inR 0 1 x then if inR 0 1 k then if inR 0 200 v then upd q (2 * k.toNatClampNeg + x.toNatClampNeg) v else q else q else q
def aOut (q : Nat → Int32) (x : Int32) : Int32 := if inR 0 2 x then if x ≠ nI 0 ∧ (q 4 = nI 1 ∨ q 5 = nI 1 ∨ q 17 = nI 1) then -3 else q 12 else -1
def nOut (q : Nat → Int32) (x : Int32) : Nat → Int32 := if inR 0 2 x then if x ≠ nI 0 ∧ (q 4 = nI 1 ∨ q 5 = nI 1 ∨ q 17 = nI 1) then q else upd q 12 x else q
theorem nI_inj {k m : Nat} (hk : k < 2147483648) (hm : m < 2147483648) (e : nI k = nI m) : k = m := by
  have := congrArg Int32.toInt e
  rw [nI_toInt hk, nI_toInt hm] at this
  omega
theorem LV.inj {q : Nat → Int32} {n n' o o' : Nat} {a b a' b' : Nat × Nat} (l : LV q n o a b) (l' : LV q n' o' a' b') : o' = o ∧ a' = a ∧ b' = b := by
  have h := l.ho
  have h' := l'.ho
  have h1 := l.ha
  have h1' := l'.ha
  have h2 := l.hb
  have h2' := l'.hb
  refine ⟨nI_inj (by omega) (by omega) (l'.q12.symm.trans l.q12), Prod.ext ?_ ?_, Prod.ext ?_ ?_⟩
  · exact nI_inj (by omega) (by omega) (l'.q0.symm.trans l.q0)
  · exact nI_inj (by omega) (by omega) (l'.q2.symm.trans l.q2)
  · exact nI_inj (by omega) (by omega) (l'.q1.symm.trans l.q1)
  · exact nI_inj (by omega) (by omega) (l'.q3.symm.trans l.q3)
/-- hands and OUT may be others, all else of the world stands -/
theorem clS_in {S : List Nat} {h h' : XH} (hs : Same S h h') (hS : ∀ k, k ∈ S → k < 87) : Same clS h h' := hs.wide (fun k hk => List.mem_range.mpr (hS k hk))
theorem fC_in0 : ∀ k, k < 63 → (k == 0 || (Nat.ble 2 (fC k) && Nat.ble (fC k) 5)) = true := by decide
theorem fC_in {k : Nat} (h1 : 1 ≤ k) (h2 : k ≤ 62) : 2 ≤ fC k ∧ fC k ≤ 5 := by
  have h := fC_in0 k (by omega)
  rw [Bool.or_eq_true, Bool.and_eq_true, beq_iff_eq, Nat.ble_eq, Nat.ble_eq] at h
  rcases h with h | h
  · omega
  · exact h
theorem c_fall (w : XW) (h : XH) {s : SS} {o : Nat} {a b : Nat × Nat} (c : CSo h s o a b) (x : Int32) (m : Int32) (i : Int32) (k : Int32) : CA w M_X11_fall [.ref 0, .int x, .int m, .int i, .int k] h (fun v' h'' => v' = some (.int (aFall a b x m i k)) ∧ h'' = h) := by
  obtain ⟨c5, d5, r5⟩ := c.fa.2.1
  obtain ⟨c6, d6, r6⟩ := c.fa.2.2.1
  obtain ⟨dk0, ck0, fn0, m0a, -⟩ := id c.m0
  obtain ⟨dk1, ck1, fn1, m1a, -⟩ := id c.m1
  obtain ⟨cw0, dw0, rw0⟩ := m0a.2.2.2.2.1
  obtain ⟨cw1, dw1, rw1⟩ := m1a.2.2.2.2.1
  obtain ⟨f9, e9_, q9⟩ := id c.rs.2.1
  by_cases h_x : inR 0 1 x
  · obtain ⟨xn, rfl, l_x, u_x⟩ := inR_nat (by decide) h_x
    by_cases h_m : inR 1 62 m
    · obtain ⟨mn, rfl, l_m, u_m⟩ := inR_nat (by decide) h_m
      have hc : 2 ≤ fC mn ∧ fC mn ≤ 5 := fC_in (by omega) (by omega)
      by_cases hi : i = -1
      · subst hi
        refine CA.of (by decide) rfl (fun _ => Nat.le_of_ble_eq_true rfl) ?_
        show AX w M_X11_fall 0 0 0 [.ref 0, .int (nI xn), .int (nI mn), .int (-1), .int k, .null] [] h _
        refine AX.iload_n (pc := 0) dX11_fall_0 rfl ?_
        refine AX.callS (pc := 1) (M2 := M_X11_isPlayer) (As := [.int (nI xn)]) (rest := []) (c_isPlayer w h (nI xn)) xc_X11_fall__X11_isPlayer gX11_fall_X11_isPlayer rfl (Nat.le_of_ble_eq_true rfl) dX11_fall_1 ?_
        rintro _ h9 ⟨rfl, e9⟩
        have e9 := e9.symm
        subst e9
        rw [decide_eq_true (play_iff.mpr h_x)]
        show AX w M_X11_fall 0 0 4 [.ref 0, .int (nI xn), .int (nI mn), .int (-1), .int k, .null] [.int (bI true)] _ _
        refine AX.if_eqB (pc := 4) (tgt := 32) dX11_fall_4 (by decide) (fun q => absurd q (by decide)) (fun hc4 => ?_)
        refine AX.iload_n (pc := 7) dX11_fall_7 rfl ?_
        refine AX.callS (pc := 8) (M2 := M_X11_isAim) (As := [.int (nI mn)]) (rest := []) (c_isAim w h (nI mn)) xc_X11_fall__X11_isAim gX11_fall_X11_isAim rfl (Nat.le_of_ble_eq_true rfl) dX11_fall_8 ?_
        rintro _ h9 ⟨rfl, e9⟩
        have e9 := e9.symm
        subst e9
        rw [decide_eq_true (aim_iff.mpr h_m)]
        show AX w M_X11_fall 0 0 11 [.ref 0, .int (nI xn), .int (nI mn), .int (-1), .int k, .null] [.int (bI true)] _ _
        refine AX.if_eqB (pc := 11) (tgt := 32) dX11_fall_11 (by decide) (fun q => absurd q (by decide)) (fun hc11 => ?_)
        refine AX.iload_n (pc := 14) dX11_fall_14 rfl ?_
        refine AX.iconst (pc := 15) (v := (-1)) dX11_fall_15 (by decide) ?_
        refine AX.icmp_lt (pc := 16) (tgt := 32) dX11_fall_16 (by decide) (fun q => absurd q (ltF iM1 iM1 (by omega))) (fun hc16 => ?_)
        refine AX.iload_n (pc := 19) dX11_fall_19 rfl ?_
        refine AX.aload_n (pc := 20) dX11_fall_20 rfl ?_
        refine AX.getf (pc := 21) fX11_fall_24 (lt_k c.hn (by omega)) c.dm rfl dX11_fall_21 ?_
        refine AX.getf (pc := 24) fX11_fall_134 (lt_k c.hn (by omega)) c.fa.1 rfl dX11_fall_24 ?_
        refine AX.iload_n (pc := 27) dX11_fall_27 rfl ?_
        refine AX.ialdN (pc := 28) (i := mn) (v := (nI (fC mn))) (lt_k c.hn (by omega)) d5 (by decide) (by omega) (r5 _ (by omega)) dX11_fall_28 ?_
        refine AX.icmp_lt (pc := 29) (tgt := 34) dX11_fall_29 (by decide) (fun hc29 => ?_) (fun q => absurd (ltT iM1 (iN (fC mn) (by omega)) (by omega)) q)
        refine AX.iload_n (pc := 34) dX11_fall_34 rfl ?_
        refine AX.iconst (pc := 35) (v := (-1)) dX11_fall_35 (by decide) ?_
        refine AX.icmp_ne (pc := 36) (tgt := 49) dX11_fall_36 (by decide) (fun q => absurd rfl q) (fun hc36 => ?_)
        refine AX.aload_n (pc := 39) dX11_fall_39 rfl ?_
        refine AX.getf (pc := 40) fX11_fall_24 (lt_k c.hn (by omega)) c.dm rfl dX11_fall_40 ?_
        refine AX.getf (pc := 43) fX11_fall_134 (lt_k c.hn (by omega)) c.fa.1 rfl dX11_fall_43 ?_
        refine AX.iload_n (pc := 46) dX11_fall_46 rfl ?_
        refine AX.ialdN (pc := 47) (i := mn) (v := (nI (fC mn))) (lt_k c.hn (by omega)) d5 (by decide) (by omega) (r5 _ (by omega)) dX11_fall_47 ?_
        refine AX.iret (pc := 48) dX11_fall_48 rfl rfl (by decide) (by decide) ?_
        exact ⟨by unfold aFall; rw [if_pos h_x, if_pos h_m, if_pos rfl, nI_nat (show mn < 2147483648 by omega)]; try rfl, rfl⟩
      have hi2 : ¬ i.toInt = -1 := fun q => hi (Int32.toInt_inj.mp (q.trans iM1.symm))
      by_cases h_i : inR 0 (fC mn - 1) i
      · obtain ⟨in_, rfl, l_i, u_i⟩ := inR_nat (show fC mn - 1 < 2147483648 by omega) h_i
        by_cases h_k : inR 0 1 k
        · obtain ⟨kn, rfl, l_k, u_k⟩ := inR_nat (by decide) h_k
          rcases (show kn = 0 ∨ kn = 1 by omega) with rfl | rfl
          · refine CA.of (by decide) rfl (fun _ => Nat.le_of_ble_eq_true rfl) ?_
            show AX w M_X11_fall 0 0 0 [.ref 0, .int (nI xn), .int (nI mn), .int (nI in_), .int (nI 0), .null] [] h _
            refine AX.iload_n (pc := 0) dX11_fall_0 rfl ?_
            refine AX.callS (pc := 1) (M2 := M_X11_isPlayer) (As := [.int (nI xn)]) (rest := []) (c_isPlayer w h (nI xn)) xc_X11_fall__X11_isPlayer gX11_fall_X11_isPlayer rfl (Nat.le_of_ble_eq_true rfl) dX11_fall_1 ?_
            rintro _ h9 ⟨rfl, e9⟩
            have e9 := e9.symm
            subst e9
            rw [decide_eq_true (play_iff.mpr h_x)]
            show AX w M_X11_fall 0 0 4 [.ref 0, .int (nI xn), .int (nI mn), .int (nI in_), .int (nI 0), .null] [.int (bI true)] _ _
            refine AX.if_eqB (pc := 4) (tgt := 32) dX11_fall_4 (by decide) (fun q => absurd q (by decide)) (fun hc4 => ?_)
            refine AX.iload_n (pc := 7) dX11_fall_7 rfl ?_
            refine AX.callS (pc := 8) (M2 := M_X11_isAim) (As := [.int (nI mn)]) (rest := []) (c_isAim w h (nI mn)) xc_X11_fall__X11_isAim gX11_fall_X11_isAim rfl (Nat.le_of_ble_eq_true rfl) dX11_fall_8 ?_
            rintro _ h9 ⟨rfl, e9⟩
            have e9 := e9.symm
            subst e9
            rw [decide_eq_true (aim_iff.mpr h_m)]
            show AX w M_X11_fall 0 0 11 [.ref 0, .int (nI xn), .int (nI mn), .int (nI in_), .int (nI 0), .null] [.int (bI true)] _ _
            refine AX.if_eqB (pc := 11) (tgt := 32) dX11_fall_11 (by decide) (fun q => absurd q (by decide)) (fun hc11 => ?_)
            refine AX.iload_n (pc := 14) dX11_fall_14 rfl ?_
            refine AX.iconst (pc := 15) (v := (-1)) dX11_fall_15 (by decide) ?_
            refine AX.icmp_lt (pc := 16) (tgt := 32) dX11_fall_16 (by decide) (fun q => absurd q (ltF (iN in_ (by omega)) iM1 (by omega))) (fun hc16 => ?_)
            refine AX.iload_n (pc := 19) dX11_fall_19 rfl ?_
            refine AX.aload_n (pc := 20) dX11_fall_20 rfl ?_
            refine AX.getf (pc := 21) fX11_fall_24 (lt_k c.hn (by omega)) c.dm rfl dX11_fall_21 ?_
            refine AX.getf (pc := 24) fX11_fall_134 (lt_k c.hn (by omega)) c.fa.1 rfl dX11_fall_24 ?_
            refine AX.iload_n (pc := 27) dX11_fall_27 rfl ?_
            refine AX.ialdN (pc := 28) (i := mn) (v := (nI (fC mn))) (lt_k c.hn (by omega)) d5 (by decide) (by omega) (r5 _ (by omega)) dX11_fall_28 ?_
            refine AX.icmp_ltN (pc := 29) (tgt := 34) dX11_fall_29 (by decide) (by omega) (by omega) (fun hc29 => ?_) (fun q => absurd q (by omega))
            refine AX.iload_n (pc := 34) dX11_fall_34 rfl ?_
            refine AX.iconst (pc := 35) (v := (-1)) dX11_fall_35 (by decide) ?_
            refine AX.icmp_ne (pc := 36) (tgt := 49) dX11_fall_36 (by decide) (fun hc36 => ?_) (fun q => absurd q (fun q => hi q))
            refine AX.iload (pc := 49) dX11_fall_49 rfl ?_
            refine AX.if_ltN (pc := 51) (tgt := 60) dX11_fall_51 (by decide) (by decide) (fun q => absurd q (by decide)) (fun hc51 => ?_)
            refine AX.iload (pc := 54) dX11_fall_54 rfl ?_
            refine AX.iconst (pc := 56) (v := nI 1) dX11_fall_56 (by decide) ?_
            refine AX.icmp_leN (pc := 57) (tgt := 62) dX11_fall_57 (by decide) (by decide) (by decide) (fun hc57 => ?_) (fun q => absurd q (by decide))
            refine AX.iload_n (pc := 62) dX11_fall_62 rfl ?_
            refine AX.iconst (pc := 63) (v := nI 5) dX11_fall_63 (by decide) ?_
            refine AX.imulN (pc := 64) (c := mn * 5) dX11_fall_64 rfl ?_
            refine AX.iload_n (pc := 65) dX11_fall_65 rfl ?_
            refine AX.iaddN (pc := 66) (c := mn * 5 + in_) dX11_fall_66 rfl ?_
            refine AX.istore (pc := 67) (L' := [.ref 0, .int (nI xn), .int (nI mn), .int (nI in_), .int (nI 0), .int (nI (mn * 5 + in_))]) dX11_fall_67 (by decide) rfl ?_
            refine AX.iload (pc := 69) dX11_fall_69 rfl ?_
            refine AX.if_neN (pc := 71) (tgt := 87) dX11_fall_71 (by decide) (by decide) (fun q => absurd q (by decide)) (fun hc71 => ?_)
            refine AX.aload_n (pc := 74) dX11_fall_74 rfl ?_
            refine AX.getf (pc := 75) fX11_fall_24 (lt_k c.hn (by omega)) c.dm rfl dX11_fall_75 ?_
            refine AX.getf (pc := 78) fX11_fall_137 (lt_k c.hn (by omega)) c.fa.1 rfl dX11_fall_78 ?_
            refine AX.iload (pc := 81) dX11_fall_81 rfl ?_
            refine AX.ialdN (pc := 83) (i := mn * 5 + in_) (v := (nI (fS (mn * 5 + in_)))) (lt_k c.hn (by omega)) d6 (by decide) (by omega) (r6 _ (by omega)) dX11_fall_83 ?_
            refine AX.goto (pc := 84) (tgt := 99) dX11_fall_84 (by decide) ?_
            refine AX.iret (pc := 99) dX11_fall_99 rfl rfl (by decide) (by decide) ?_
            exact ⟨by unfold aFall; rw [if_pos h_x, if_pos h_m, if_neg hi, nI_nat (show mn < 2147483648 by omega), if_pos h_i, if_pos h_k, nI_nat (show in_ < 2147483648 by omega)]; try rfl, rfl⟩
          · rcases (show xn = 0 ∨ xn = 1 by omega) with rfl | rfl
            · refine CA.of (by decide) rfl (fun _ => Nat.le_of_ble_eq_true rfl) ?_
              show AX w M_X11_fall 0 0 0 [.ref 0, .int (nI 0), .int (nI mn), .int (nI in_), .int (nI 1), .null] [] h _
              refine AX.iload_n (pc := 0) dX11_fall_0 rfl ?_
              refine AX.callS (pc := 1) (M2 := M_X11_isPlayer) (As := [.int (nI 0)]) (rest := []) (c_isPlayer w h (nI 0)) xc_X11_fall__X11_isPlayer gX11_fall_X11_isPlayer rfl (Nat.le_of_ble_eq_true rfl) dX11_fall_1 ?_
              rintro _ h9 ⟨rfl, e9⟩
              have e9 := e9.symm
              subst e9
              rw [decide_eq_true (play_iff.mpr h_x)]
              show AX w M_X11_fall 0 0 4 [.ref 0, .int (nI 0), .int (nI mn), .int (nI in_), .int (nI 1), .null] [.int (bI true)] _ _
              refine AX.if_eqB (pc := 4) (tgt := 32) dX11_fall_4 (by decide) (fun q => absurd q (by decide)) (fun hc4 => ?_)
              refine AX.iload_n (pc := 7) dX11_fall_7 rfl ?_
              refine AX.callS (pc := 8) (M2 := M_X11_isAim) (As := [.int (nI mn)]) (rest := []) (c_isAim w h (nI mn)) xc_X11_fall__X11_isAim gX11_fall_X11_isAim rfl (Nat.le_of_ble_eq_true rfl) dX11_fall_8 ?_
              rintro _ h9 ⟨rfl, e9⟩
              have e9 := e9.symm
              subst e9
              rw [decide_eq_true (aim_iff.mpr h_m)]
              show AX w M_X11_fall 0 0 11 [.ref 0, .int (nI 0), .int (nI mn), .int (nI in_), .int (nI 1), .null] [.int (bI true)] _ _
              refine AX.if_eqB (pc := 11) (tgt := 32) dX11_fall_11 (by decide) (fun q => absurd q (by decide)) (fun hc11 => ?_)
              refine AX.iload_n (pc := 14) dX11_fall_14 rfl ?_
              refine AX.iconst (pc := 15) (v := (-1)) dX11_fall_15 (by decide) ?_
              refine AX.icmp_lt (pc := 16) (tgt := 32) dX11_fall_16 (by decide) (fun q => absurd q (ltF (iN in_ (by omega)) iM1 (by omega))) (fun hc16 => ?_)
              refine AX.iload_n (pc := 19) dX11_fall_19 rfl ?_
              refine AX.aload_n (pc := 20) dX11_fall_20 rfl ?_
              refine AX.getf (pc := 21) fX11_fall_24 (lt_k c.hn (by omega)) c.dm rfl dX11_fall_21 ?_
              refine AX.getf (pc := 24) fX11_fall_134 (lt_k c.hn (by omega)) c.fa.1 rfl dX11_fall_24 ?_
              refine AX.iload_n (pc := 27) dX11_fall_27 rfl ?_
              refine AX.ialdN (pc := 28) (i := mn) (v := (nI (fC mn))) (lt_k c.hn (by omega)) d5 (by decide) (by omega) (r5 _ (by omega)) dX11_fall_28 ?_
              refine AX.icmp_ltN (pc := 29) (tgt := 34) dX11_fall_29 (by decide) (by omega) (by omega) (fun hc29 => ?_) (fun q => absurd q (by omega))
              refine AX.iload_n (pc := 34) dX11_fall_34 rfl ?_
              refine AX.iconst (pc := 35) (v := (-1)) dX11_fall_35 (by decide) ?_
              refine AX.icmp_ne (pc := 36) (tgt := 49) dX11_fall_36 (by decide) (fun hc36 => ?_) (fun q => absurd q (fun q => hi q))
              refine AX.iload (pc := 49) dX11_fall_49 rfl ?_
              refine AX.if_ltN (pc := 51) (tgt := 60) dX11_fall_51 (by decide) (by decide) (fun q => absurd q (by decide)) (fun hc51 => ?_)
              refine AX.iload (pc := 54) dX11_fall_54 rfl ?_
              refine AX.iconst (pc := 56) (v := nI 1) dX11_fall_56 (by decide) ?_
              refine AX.icmp_leN (pc := 57) (tgt := 62) dX11_fall_57 (by decide) (by decide) (by decide) (fun hc57 => ?_) (fun q => absurd q (by decide))
              refine AX.iload_n (pc := 62) dX11_fall_62 rfl ?_
              refine AX.iconst (pc := 63) (v := nI 5) dX11_fall_63 (by decide) ?_
              refine AX.imulN (pc := 64) (c := mn * 5) dX11_fall_64 rfl ?_
              refine AX.iload_n (pc := 65) dX11_fall_65 rfl ?_
              refine AX.iaddN (pc := 66) (c := mn * 5 + in_) dX11_fall_66 rfl ?_
              refine AX.istore (pc := 67) (L' := [.ref 0, .int (nI 0), .int (nI mn), .int (nI in_), .int (nI 1), .int (nI (mn * 5 + in_))]) dX11_fall_67 (by decide) rfl ?_
              refine AX.iload (pc := 69) dX11_fall_69 rfl ?_
              refine AX.if_neN (pc := 71) (tgt := 87) dX11_fall_71 (by decide) (by decide) (fun hc71 => ?_) (fun q => absurd q (by decide))
              refine AX.aload_n (pc := 87) dX11_fall_87 rfl ?_
              refine AX.getf (pc := 88) fX11_fall_28 (lt_k c.hn (by omega)) c.dm rfl dX11_fall_88 ?_
              refine AX.iload_n (pc := 91) dX11_fall_91 rfl ?_
              refine AX.aaldN (pc := 92) (i := 0) (b := 10) (by decide) (lt_k c.hn (by omega)) e9_ (by decide) (by decide) (q9 _ (by decide)) dX11_fall_92 ?_
              refine AX.getf (pc := 93) fX11_fall_140 (lt_k c.hn (by omega)) m0a.2.2.2.1 rfl dX11_fall_93 ?_
              refine AX.iload (pc := 96) dX11_fall_96 rfl ?_
              refine AX.ialdN (pc := 98) (i := mn * 5 + in_) (v := (nI (wtN a.1 a.2 (mn * 5 + in_)))) (lt_k c.hn (by omega)) dw0 (by decide) (by omega) (rw0 _ (by omega)) dX11_fall_98 ?_
              refine AX.iret (pc := 99) dX11_fall_99 rfl rfl (by decide) (by decide) ?_
              exact ⟨by unfold aFall; rw [if_pos h_x, if_pos h_m, if_neg hi, nI_nat (show mn < 2147483648 by omega), if_pos h_i, if_pos h_k, nI_nat (show in_ < 2147483648 by omega)]; try rfl, rfl⟩
            · refine CA.of (by decide) rfl (fun _ => Nat.le_of_ble_eq_true rfl) ?_
              show AX w M_X11_fall 0 0 0 [.ref 0, .int (nI 1), .int (nI mn), .int (nI in_), .int (nI 1), .null] [] h _
              refine AX.iload_n (pc := 0) dX11_fall_0 rfl ?_
              refine AX.callS (pc := 1) (M2 := M_X11_isPlayer) (As := [.int (nI 1)]) (rest := []) (c_isPlayer w h (nI 1)) xc_X11_fall__X11_isPlayer gX11_fall_X11_isPlayer rfl (Nat.le_of_ble_eq_true rfl) dX11_fall_1 ?_
              rintro _ h9 ⟨rfl, e9⟩
              have e9 := e9.symm
              subst e9
              rw [decide_eq_true (play_iff.mpr h_x)]
              show AX w M_X11_fall 0 0 4 [.ref 0, .int (nI 1), .int (nI mn), .int (nI in_), .int (nI 1), .null] [.int (bI true)] _ _
              refine AX.if_eqB (pc := 4) (tgt := 32) dX11_fall_4 (by decide) (fun q => absurd q (by decide)) (fun hc4 => ?_)
              refine AX.iload_n (pc := 7) dX11_fall_7 rfl ?_
              refine AX.callS (pc := 8) (M2 := M_X11_isAim) (As := [.int (nI mn)]) (rest := []) (c_isAim w h (nI mn)) xc_X11_fall__X11_isAim gX11_fall_X11_isAim rfl (Nat.le_of_ble_eq_true rfl) dX11_fall_8 ?_
              rintro _ h9 ⟨rfl, e9⟩
              have e9 := e9.symm
              subst e9
              rw [decide_eq_true (aim_iff.mpr h_m)]
              show AX w M_X11_fall 0 0 11 [.ref 0, .int (nI 1), .int (nI mn), .int (nI in_), .int (nI 1), .null] [.int (bI true)] _ _
              refine AX.if_eqB (pc := 11) (tgt := 32) dX11_fall_11 (by decide) (fun q => absurd q (by decide)) (fun hc11 => ?_)
              refine AX.iload_n (pc := 14) dX11_fall_14 rfl ?_
              refine AX.iconst (pc := 15) (v := (-1)) dX11_fall_15 (by decide) ?_
              refine AX.icmp_lt (pc := 16) (tgt := 32) dX11_fall_16 (by decide) (fun q => absurd q (ltF (iN in_ (by omega)) iM1 (by omega))) (fun hc16 => ?_)
              refine AX.iload_n (pc := 19) dX11_fall_19 rfl ?_
              refine AX.aload_n (pc := 20) dX11_fall_20 rfl ?_
              refine AX.getf (pc := 21) fX11_fall_24 (lt_k c.hn (by omega)) c.dm rfl dX11_fall_21 ?_
              refine AX.getf (pc := 24) fX11_fall_134 (lt_k c.hn (by omega)) c.fa.1 rfl dX11_fall_24 ?_
              refine AX.iload_n (pc := 27) dX11_fall_27 rfl ?_
              refine AX.ialdN (pc := 28) (i := mn) (v := (nI (fC mn))) (lt_k c.hn (by omega)) d5 (by decide) (by omega) (r5 _ (by omega)) dX11_fall_28 ?_
              refine AX.icmp_ltN (pc := 29) (tgt := 34) dX11_fall_29 (by decide) (by omega) (by omega) (fun hc29 => ?_) (fun q => absurd q (by omega))
              refine AX.iload_n (pc := 34) dX11_fall_34 rfl ?_
              refine AX.iconst (pc := 35) (v := (-1)) dX11_fall_35 (by decide) ?_
              refine AX.icmp_ne (pc := 36) (tgt := 49) dX11_fall_36 (by decide) (fun hc36 => ?_) (fun q => absurd q (fun q => hi q))
              refine AX.iload (pc := 49) dX11_fall_49 rfl ?_
              refine AX.if_ltN (pc := 51) (tgt := 60) dX11_fall_51 (by decide) (by decide) (fun q => absurd q (by decide)) (fun hc51 => ?_)
              refine AX.iload (pc := 54) dX11_fall_54 rfl ?_
              refine AX.iconst (pc := 56) (v := nI 1) dX11_fall_56 (by decide) ?_
              refine AX.icmp_leN (pc := 57) (tgt := 62) dX11_fall_57 (by decide) (by decide) (by decide) (fun hc57 => ?_) (fun q => absurd q (by decide))
              refine AX.iload_n (pc := 62) dX11_fall_62 rfl ?_
              refine AX.iconst (pc := 63) (v := nI 5) dX11_fall_63 (by decide) ?_
              refine AX.imulN (pc := 64) (c := mn * 5) dX11_fall_64 rfl ?_
              refine AX.iload_n (pc := 65) dX11_fall_65 rfl ?_
              refine AX.iaddN (pc := 66) (c := mn * 5 + in_) dX11_fall_66 rfl ?_
              refine AX.istore (pc := 67) (L' := [.ref 0, .int (nI 1), .int (nI mn), .int (nI in_), .int (nI 1), .int (nI (mn * 5 + in_))]) dX11_fall_67 (by decide) rfl ?_
              refine AX.iload (pc := 69) dX11_fall_69 rfl ?_
              refine AX.if_neN (pc := 71) (tgt := 87) dX11_fall_71 (by decide) (by decide) (fun hc71 => ?_) (fun q => absurd q (by decide))
              refine AX.aload_n (pc := 87) dX11_fall_87 rfl ?_
              refine AX.getf (pc := 88) fX11_fall_28 (lt_k c.hn (by omega)) c.dm rfl dX11_fall_88 ?_
              refine AX.iload_n (pc := 91) dX11_fall_91 rfl ?_
              refine AX.aaldN (pc := 92) (i := 1) (b := 26) (by decide) (lt_k c.hn (by omega)) e9_ (by decide) (by decide) (q9 _ (by decide)) dX11_fall_92 ?_
              refine AX.getf (pc := 93) fX11_fall_140 (lt_k c.hn (by omega)) m1a.2.2.2.1 rfl dX11_fall_93 ?_
              refine AX.iload (pc := 96) dX11_fall_96 rfl ?_
              refine AX.ialdN (pc := 98) (i := mn * 5 + in_) (v := (nI (wtN b.1 b.2 (mn * 5 + in_)))) (lt_k c.hn (by omega)) dw1 (by decide) (by omega) (rw1 _ (by omega)) dX11_fall_98 ?_
              refine AX.iret (pc := 99) dX11_fall_99 rfl rfl (by decide) (by decide) ?_
              exact ⟨by unfold aFall; rw [if_pos h_x, if_pos h_m, if_neg hi, nI_nat (show mn < 2147483648 by omega), if_pos h_i, if_pos h_k, nI_nat (show in_ < 2147483648 by omega)]; try rfl, rfl⟩
        · rcases nR h_k with hl | hu
          · refine CA.of (by decide) rfl (fun _ => Nat.le_of_ble_eq_true rfl) ?_
            show AX w M_X11_fall 0 0 0 [.ref 0, .int (nI xn), .int (nI mn), .int (nI in_), .int k, .null] [] h _
            refine AX.iload_n (pc := 0) dX11_fall_0 rfl ?_
            refine AX.callS (pc := 1) (M2 := M_X11_isPlayer) (As := [.int (nI xn)]) (rest := []) (c_isPlayer w h (nI xn)) xc_X11_fall__X11_isPlayer gX11_fall_X11_isPlayer rfl (Nat.le_of_ble_eq_true rfl) dX11_fall_1 ?_
            rintro _ h9 ⟨rfl, e9⟩
            have e9 := e9.symm
            subst e9
            rw [decide_eq_true (play_iff.mpr h_x)]
            show AX w M_X11_fall 0 0 4 [.ref 0, .int (nI xn), .int (nI mn), .int (nI in_), .int k, .null] [.int (bI true)] _ _
            refine AX.if_eqB (pc := 4) (tgt := 32) dX11_fall_4 (by decide) (fun q => absurd q (by decide)) (fun hc4 => ?_)
            refine AX.iload_n (pc := 7) dX11_fall_7 rfl ?_
            refine AX.callS (pc := 8) (M2 := M_X11_isAim) (As := [.int (nI mn)]) (rest := []) (c_isAim w h (nI mn)) xc_X11_fall__X11_isAim gX11_fall_X11_isAim rfl (Nat.le_of_ble_eq_true rfl) dX11_fall_8 ?_
            rintro _ h9 ⟨rfl, e9⟩
            have e9 := e9.symm
            subst e9
            rw [decide_eq_true (aim_iff.mpr h_m)]
            show AX w M_X11_fall 0 0 11 [.ref 0, .int (nI xn), .int (nI mn), .int (nI in_), .int k, .null] [.int (bI true)] _ _
            refine AX.if_eqB (pc := 11) (tgt := 32) dX11_fall_11 (by decide) (fun q => absurd q (by decide)) (fun hc11 => ?_)
            refine AX.iload_n (pc := 14) dX11_fall_14 rfl ?_
            refine AX.iconst (pc := 15) (v := (-1)) dX11_fall_15 (by decide) ?_
            refine AX.icmp_lt (pc := 16) (tgt := 32) dX11_fall_16 (by decide) (fun q => absurd q (ltF (iN in_ (by omega)) iM1 (by omega))) (fun hc16 => ?_)
            refine AX.iload_n (pc := 19) dX11_fall_19 rfl ?_
            refine AX.aload_n (pc := 20) dX11_fall_20 rfl ?_
            refine AX.getf (pc := 21) fX11_fall_24 (lt_k c.hn (by omega)) c.dm rfl dX11_fall_21 ?_
            refine AX.getf (pc := 24) fX11_fall_134 (lt_k c.hn (by omega)) c.fa.1 rfl dX11_fall_24 ?_
            refine AX.iload_n (pc := 27) dX11_fall_27 rfl ?_
            refine AX.ialdN (pc := 28) (i := mn) (v := (nI (fC mn))) (lt_k c.hn (by omega)) d5 (by decide) (by omega) (r5 _ (by omega)) dX11_fall_28 ?_
            refine AX.icmp_ltN (pc := 29) (tgt := 34) dX11_fall_29 (by decide) (by omega) (by omega) (fun hc29 => ?_) (fun q => absurd q (by omega))
            refine AX.iload_n (pc := 34) dX11_fall_34 rfl ?_
            refine AX.iconst (pc := 35) (v := (-1)) dX11_fall_35 (by decide) ?_
            refine AX.icmp_ne (pc := 36) (tgt := 49) dX11_fall_36 (by decide) (fun hc36 => ?_) (fun q => absurd q (fun q => hi q))
            refine AX.iload (pc := 49) dX11_fall_49 rfl ?_
            refine AX.if_lt (pc := 51) (tgt := 60) dX11_fall_51 (by decide) (fun hc51 => ?_) (fun q => absurd (ltT rfl i0 (by omega)) q)
            refine AX.iconst (pc := 60) (v := (-1)) dX11_fall_60 (by decide) ?_
            refine AX.iret (pc := 61) dX11_fall_61 rfl rfl (by decide) (by decide) ?_
            exact ⟨by unfold aFall; rw [if_pos h_x, if_pos h_m, if_neg hi, nI_nat (show mn < 2147483648 by omega), if_pos h_i, if_neg h_k]; try rfl, rfl⟩
          · refine CA.of (by decide) rfl (fun _ => Nat.le_of_ble_eq_true rfl) ?_
            show AX w M_X11_fall 0 0 0 [.ref 0, .int (nI xn), .int (nI mn), .int (nI in_), .int k, .null] [] h _
            refine AX.iload_n (pc := 0) dX11_fall_0 rfl ?_
            refine AX.callS (pc := 1) (M2 := M_X11_isPlayer) (As := [.int (nI xn)]) (rest := []) (c_isPlayer w h (nI xn)) xc_X11_fall__X11_isPlayer gX11_fall_X11_isPlayer rfl (Nat.le_of_ble_eq_true rfl) dX11_fall_1 ?_
            rintro _ h9 ⟨rfl, e9⟩
            have e9 := e9.symm
            subst e9
            rw [decide_eq_true (play_iff.mpr h_x)]
            show AX w M_X11_fall 0 0 4 [.ref 0, .int (nI xn), .int (nI mn), .int (nI in_), .int k, .null] [.int (bI true)] _ _
            refine AX.if_eqB (pc := 4) (tgt := 32) dX11_fall_4 (by decide) (fun q => absurd q (by decide)) (fun hc4 => ?_)
            refine AX.iload_n (pc := 7) dX11_fall_7 rfl ?_
            refine AX.callS (pc := 8) (M2 := M_X11_isAim) (As := [.int (nI mn)]) (rest := []) (c_isAim w h (nI mn)) xc_X11_fall__X11_isAim gX11_fall_X11_isAim rfl (Nat.le_of_ble_eq_true rfl) dX11_fall_8 ?_
            rintro _ h9 ⟨rfl, e9⟩
            have e9 := e9.symm
            subst e9
            rw [decide_eq_true (aim_iff.mpr h_m)]
            show AX w M_X11_fall 0 0 11 [.ref 0, .int (nI xn), .int (nI mn), .int (nI in_), .int k, .null] [.int (bI true)] _ _
            refine AX.if_eqB (pc := 11) (tgt := 32) dX11_fall_11 (by decide) (fun q => absurd q (by decide)) (fun hc11 => ?_)
            refine AX.iload_n (pc := 14) dX11_fall_14 rfl ?_
            refine AX.iconst (pc := 15) (v := (-1)) dX11_fall_15 (by decide) ?_
            refine AX.icmp_lt (pc := 16) (tgt := 32) dX11_fall_16 (by decide) (fun q => absurd q (ltF (iN in_ (by omega)) iM1 (by omega))) (fun hc16 => ?_)
            refine AX.iload_n (pc := 19) dX11_fall_19 rfl ?_
            refine AX.aload_n (pc := 20) dX11_fall_20 rfl ?_
            refine AX.getf (pc := 21) fX11_fall_24 (lt_k c.hn (by omega)) c.dm rfl dX11_fall_21 ?_
            refine AX.getf (pc := 24) fX11_fall_134 (lt_k c.hn (by omega)) c.fa.1 rfl dX11_fall_24 ?_
            refine AX.iload_n (pc := 27) dX11_fall_27 rfl ?_
            refine AX.ialdN (pc := 28) (i := mn) (v := (nI (fC mn))) (lt_k c.hn (by omega)) d5 (by decide) (by omega) (r5 _ (by omega)) dX11_fall_28 ?_
            refine AX.icmp_ltN (pc := 29) (tgt := 34) dX11_fall_29 (by decide) (by omega) (by omega) (fun hc29 => ?_) (fun q => absurd q (by omega))
            refine AX.iload_n (pc := 34) dX11_fall_34 rfl ?_
            refine AX.iconst (pc := 35) (v := (-1)) dX11_fall_35 (by decide) ?_
            refine AX.icmp_ne (pc := 36) (tgt := 49) dX11_fall_36 (by decide) (fun hc36 => ?_) (fun q => absurd q (fun q => hi q))
            refine AX.iload (pc := 49) dX11_fall_49 rfl ?_
            refine AX.if_lt (pc := 51) (tgt := 60) dX11_fall_51 (by decide) (fun q => absurd q (ltF rfl i0 (by omega))) (fun hc51 => ?_)
            refine AX.iload (pc := 54) dX11_fall_54 rfl ?_
            refine AX.iconst (pc := 56) (v := nI 1) dX11_fall_56 (by decide) ?_
            refine AX.icmp_le (pc := 57) (tgt := 62) dX11_fall_57 (by decide) (fun q => absurd q (leF rfl (iN 1 (by omega)) (by omega))) (fun hc57 => ?_)
            refine AX.iconst (pc := 60) (v := (-1)) dX11_fall_60 (by decide) ?_
            refine AX.iret (pc := 61) dX11_fall_61 rfl rfl (by decide) (by decide) ?_
            exact ⟨by unfold aFall; rw [if_pos h_x, if_pos h_m, if_neg hi, nI_nat (show mn < 2147483648 by omega), if_pos h_i, if_neg h_k]; try rfl, rfl⟩
      · rcases nR h_i with hl | hu
        · refine CA.of (by decide) rfl (fun _ => Nat.le_of_ble_eq_true rfl) ?_
          show AX w M_X11_fall 0 0 0 [.ref 0, .int (nI xn), .int (nI mn), .int i, .int k, .null] [] h _
          refine AX.iload_n (pc := 0) dX11_fall_0 rfl ?_
          refine AX.callS (pc := 1) (M2 := M_X11_isPlayer) (As := [.int (nI xn)]) (rest := []) (c_isPlayer w h (nI xn)) xc_X11_fall__X11_isPlayer gX11_fall_X11_isPlayer rfl (Nat.le_of_ble_eq_true rfl) dX11_fall_1 ?_
          rintro _ h9 ⟨rfl, e9⟩
          have e9 := e9.symm
          subst e9
          rw [decide_eq_true (play_iff.mpr h_x)]
          show AX w M_X11_fall 0 0 4 [.ref 0, .int (nI xn), .int (nI mn), .int i, .int k, .null] [.int (bI true)] _ _
          refine AX.if_eqB (pc := 4) (tgt := 32) dX11_fall_4 (by decide) (fun q => absurd q (by decide)) (fun hc4 => ?_)
          refine AX.iload_n (pc := 7) dX11_fall_7 rfl ?_
          refine AX.callS (pc := 8) (M2 := M_X11_isAim) (As := [.int (nI mn)]) (rest := []) (c_isAim w h (nI mn)) xc_X11_fall__X11_isAim gX11_fall_X11_isAim rfl (Nat.le_of_ble_eq_true rfl) dX11_fall_8 ?_
          rintro _ h9 ⟨rfl, e9⟩
          have e9 := e9.symm
          subst e9
          rw [decide_eq_true (aim_iff.mpr h_m)]
          show AX w M_X11_fall 0 0 11 [.ref 0, .int (nI xn), .int (nI mn), .int i, .int k, .null] [.int (bI true)] _ _
          refine AX.if_eqB (pc := 11) (tgt := 32) dX11_fall_11 (by decide) (fun q => absurd q (by decide)) (fun hc11 => ?_)
          refine AX.iload_n (pc := 14) dX11_fall_14 rfl ?_
          refine AX.iconst (pc := 15) (v := (-1)) dX11_fall_15 (by decide) ?_
          refine AX.icmp_lt (pc := 16) (tgt := 32) dX11_fall_16 (by decide) (fun hc16 => ?_) (fun q => absurd (ltT rfl iM1 (by omega)) q)
          refine AX.iconst (pc := 32) (v := (-1)) dX11_fall_32 (by decide) ?_
          refine AX.iret (pc := 33) dX11_fall_33 rfl rfl (by decide) (by decide) ?_
          exact ⟨by unfold aFall; rw [if_pos h_x, if_pos h_m, if_neg hi, nI_nat (show mn < 2147483648 by omega), if_neg h_i]; try rfl, rfl⟩
        · refine CA.of (by decide) rfl (fun _ => Nat.le_of_ble_eq_true rfl) ?_
          show AX w M_X11_fall 0 0 0 [.ref 0, .int (nI xn), .int (nI mn), .int i, .int k, .null] [] h _
          refine AX.iload_n (pc := 0) dX11_fall_0 rfl ?_
          refine AX.callS (pc := 1) (M2 := M_X11_isPlayer) (As := [.int (nI xn)]) (rest := []) (c_isPlayer w h (nI xn)) xc_X11_fall__X11_isPlayer gX11_fall_X11_isPlayer rfl (Nat.le_of_ble_eq_true rfl) dX11_fall_1 ?_
          rintro _ h9 ⟨rfl, e9⟩
          have e9 := e9.symm
          subst e9
          rw [decide_eq_true (play_iff.mpr h_x)]
          show AX w M_X11_fall 0 0 4 [.ref 0, .int (nI xn), .int (nI mn), .int i, .int k, .null] [.int (bI true)] _ _
          refine AX.if_eqB (pc := 4) (tgt := 32) dX11_fall_4 (by decide) (fun q => absurd q (by decide)) (fun hc4 => ?_)
          refine AX.iload_n (pc := 7) dX11_fall_7 rfl ?_
          refine AX.callS (pc := 8) (M2 := M_X11_isAim) (As := [.int (nI mn)]) (rest := []) (c_isAim w h (nI mn)) xc_X11_fall__X11_isAim gX11_fall_X11_isAim rfl (Nat.le_of_ble_eq_true rfl) dX11_fall_8 ?_
          rintro _ h9 ⟨rfl, e9⟩
          have e9 := e9.symm
          subst e9
          rw [decide_eq_true (aim_iff.mpr h_m)]
          show AX w M_X11_fall 0 0 11 [.ref 0, .int (nI xn), .int (nI mn), .int i, .int k, .null] [.int (bI true)] _ _
          refine AX.if_eqB (pc := 11) (tgt := 32) dX11_fall_11 (by decide) (fun q => absurd q (by decide)) (fun hc11 => ?_)
          refine AX.iload_n (pc := 14) dX11_fall_14 rfl ?_
          refine AX.iconst (pc := 15) (v := (-1)) dX11_fall_15 (by decide) ?_
          refine AX.icmp_lt (pc := 16) (tgt := 32) dX11_fall_16 (by decide) (fun q => absurd q (ltF rfl iM1 (by omega))) (fun hc16 => ?_)
          refine AX.iload_n (pc := 19) dX11_fall_19 rfl ?_
          refine AX.aload_n (pc := 20) dX11_fall_20 rfl ?_
          refine AX.getf (pc := 21) fX11_fall_24 (lt_k c.hn (by omega)) c.dm rfl dX11_fall_21 ?_
          refine AX.getf (pc := 24) fX11_fall_134 (lt_k c.hn (by omega)) c.fa.1 rfl dX11_fall_24 ?_
          refine AX.iload_n (pc := 27) dX11_fall_27 rfl ?_
          refine AX.ialdN (pc := 28) (i := mn) (v := (nI (fC mn))) (lt_k c.hn (by omega)) d5 (by decide) (by omega) (r5 _ (by omega)) dX11_fall_28 ?_
          refine AX.icmp_lt (pc := 29) (tgt := 34) dX11_fall_29 (by decide) (fun q => absurd q (ltF rfl (iN (fC mn) (by omega)) (by omega))) (fun hc29 => ?_)
          refine AX.iconst (pc := 32) (v := (-1)) dX11_fall_32 (by decide) ?_
          refine AX.iret (pc := 33) dX11_fall_33 rfl rfl (by decide) (by decide) ?_
          exact ⟨by unfold aFall; rw [if_pos h_x, if_pos h_m, if_neg hi, nI_nat (show mn < 2147483648 by omega), if_neg h_i]; try rfl, rfl⟩
    · refine CA.of (by decide) rfl (fun _ => Nat.le_of_ble_eq_true rfl) ?_
      show AX w M_X11_fall 0 0 0 [.ref 0, .int (nI xn), .int m, .int i, .int k, .null] [] h _
      refine AX.iload_n (pc := 0) dX11_fall_0 rfl ?_
      refine AX.callS (pc := 1) (M2 := M_X11_isPlayer) (As := [.int (nI xn)]) (rest := []) (c_isPlayer w h (nI xn)) xc_X11_fall__X11_isPlayer gX11_fall_X11_isPlayer rfl (Nat.le_of_ble_eq_true rfl) dX11_fall_1 ?_
      rintro _ h9 ⟨rfl, e9⟩
      have e9 := e9.symm
      subst e9
      rw [decide_eq_true (play_iff.mpr h_x)]
      show AX w M_X11_fall 0 0 4 [.ref 0, .int (nI xn), .int m, .int i, .int k, .null] [.int (bI true)] _ _
      refine AX.if_eqB (pc := 4) (tgt := 32) dX11_fall_4 (by decide) (fun q => absurd q (by decide)) (fun hc4 => ?_)
      refine AX.iload_n (pc := 7) dX11_fall_7 rfl ?_
      refine AX.callS (pc := 8) (M2 := M_X11_isAim) (As := [.int m]) (rest := []) (c_isAim w h m) xc_X11_fall__X11_isAim gX11_fall_X11_isAim rfl (Nat.le_of_ble_eq_true rfl) dX11_fall_8 ?_
      rintro _ h9 ⟨rfl, e9⟩
      have e9 := e9.symm
      subst e9
      rw [decide_eq_false (fun q => h_m (aim_iff.mp q))]
      show AX w M_X11_fall 0 0 11 [.ref 0, .int (nI xn), .int m, .int i, .int k, .null] [.int (bI false)] _ _
      refine AX.if_eqB (pc := 11) (tgt := 32) dX11_fall_11 (by decide) (fun hc11 => ?_) (fun q => absurd q (by decide))
      refine AX.iconst (pc := 32) (v := (-1)) dX11_fall_32 (by decide) ?_
      refine AX.iret (pc := 33) dX11_fall_33 rfl rfl (by decide) (by decide) ?_
      exact ⟨by unfold aFall; rw [if_pos h_x, if_neg h_m]; try rfl, rfl⟩
  · refine CA.of (by decide) rfl (fun _ => Nat.le_of_ble_eq_true rfl) ?_
    show AX w M_X11_fall 0 0 0 [.ref 0, .int x, .int m, .int i, .int k, .null] [] h _
    refine AX.iload_n (pc := 0) dX11_fall_0 rfl ?_
    refine AX.callS (pc := 1) (M2 := M_X11_isPlayer) (As := [.int x]) (rest := []) (c_isPlayer w h x) xc_X11_fall__X11_isPlayer gX11_fall_X11_isPlayer rfl (Nat.le_of_ble_eq_true rfl) dX11_fall_1 ?_
    rintro _ h9 ⟨rfl, e9⟩
    have e9 := e9.symm
    subst e9
    rw [decide_eq_false (fun q => h_x (play_iff.mp q))]
    show AX w M_X11_fall 0 0 4 [.ref 0, .int x, .int m, .int i, .int k, .null] [.int (bI false)] _ _
    refine AX.if_eqB (pc := 4) (tgt := 32) dX11_fall_4 (by decide) (fun hc4 => ?_) (fun q => absurd q (by decide))
    refine AX.iconst (pc := 32) (v := (-1)) dX11_fall_32 (by decide) ?_
    refine AX.iret (pc := 33) dX11_fall_33 rfl rfl (by decide) (by decide) ?_
    exact ⟨by unfold aFall; rw [if_neg h_x]; try rfl, rfl⟩
theorem c_hand (w : XW) (h : XH) {s : SS} {n n' o o' : Nat} {a b a' b' : Nat × Nat} (c : CSo h s o a b) (l : LV (sq s) n o a b) (x : Int32) (k : Int32) (v : Int32) (l' : LV (nHand (sq s) x k v) n' o' a' b') : CA w M_X11_hand [.ref 0, .int x, .int k, .int v] h (fun v' h'' => v' = some (.int (aHand (sq s) x k v)) ∧ Same clS h h'' ∧ CSo h'' (wq s (nHand (sq s) x k v)) o' a' b') := by
  obtain ⟨f65, e65, q65⟩ := id c.lg.2.1
  by_cases h_x : inR 0 1 x
  · obtain ⟨xn, rfl, l_x, u_x⟩ := inR_nat (by decide) h_x
    by_cases h_k : inR 0 1 k
    · obtain ⟨kn, rfl, l_k, u_k⟩ := inR_nat (by decide) h_k
      by_cases h_v : inR 0 200 v
      · obtain ⟨vn, rfl, l_v, u_v⟩ := inR_nat (by decide) h_v
        rcases (show xn = 0 ∨ xn = 1 by omega) with rfl | rfl
        · rcases (show kn = 0 ∨ kn = 1 by omega) with rfl | rfl
          · have en : nHand (sq s) (nI 0) (nI 0) (nI vn) = upd (sq s) 0 (nI vn) := by unfold nHand; rw [if_pos h_x, if_pos h_k, if_pos h_v]; rfl
            rw [en] at l' ⊢
            refine CA.of (by decide) rfl (fun _ => Nat.le_of_ble_eq_true rfl) ?_
            show AX w M_X11_hand 0 0 0 [.ref 0, .int (nI 0), .int (nI 0), .int (nI vn), .null, .null] [] h _
            refine AX.iload_n (pc := 0) dX11_hand_0 rfl ?_
            refine AX.callS (pc := 1) (M2 := M_X11_isPlayer) (As := [.int (nI 0)]) (rest := []) (c_isPlayer w h (nI 0)) xc_X11_hand__X11_isPlayer gX11_hand_X11_isPlayer rfl (Nat.le_of_ble_eq_true rfl) dX11_hand_1 ?_
            rintro _ h9 ⟨rfl, e9⟩
            have e9 := e9.symm
            subst e9
            rw [decide_eq_true (play_iff.mpr h_x)]
            show AX w M_X11_hand 0 0 4 [.ref 0, .int (nI 0), .int (nI 0), .int (nI vn), .null, .null] [.int (bI true)] _ _
            refine AX.if_eqB (pc := 4) (tgt := 16) dX11_hand_4 (by decide) (fun q => absurd q (by decide)) (fun hc4 => ?_)
            refine AX.iload_n (pc := 7) dX11_hand_7 rfl ?_
            refine AX.if_ltN (pc := 8) (tgt := 16) dX11_hand_8 (by decide) (by decide) (fun q => absurd q (by decide)) (fun hc8 => ?_)
            refine AX.iload_n (pc := 11) dX11_hand_11 rfl ?_
            refine AX.iconst (pc := 12) (v := nI 1) dX11_hand_12 (by decide) ?_
            refine AX.icmp_leN (pc := 13) (tgt := 18) dX11_hand_13 (by decide) (by decide) (by decide) (fun hc13 => ?_) (fun q => absurd q (by decide))
            refine AX.iload_n (pc := 18) dX11_hand_18 rfl ?_
            refine AX.if_ltN (pc := 19) (tgt := 29) dX11_hand_19 (by decide) (by omega) (fun q => absurd q (by omega)) (fun hc19 => ?_)
            refine AX.iload_n (pc := 22) dX11_hand_22 rfl ?_
            refine AX.sipush (pc := 23) (v := nI 200) dX11_hand_23 (by decide) ?_
            refine AX.icmp_leN (pc := 26) (tgt := 32) dX11_hand_26 (by decide) (by omega) (by decide) (fun hc26 => ?_) (fun q => absurd q (by omega))
            refine AX.aload_n (pc := 32) dX11_hand_32 rfl ?_
            refine AX.getf (pc := 33) fX11_hand_53 (lt_k c.hn (by omega)) c.dm rfl dX11_hand_33 ?_
            refine AX.getf (pc := 36) fX11_hand_115 (lt_k c.hn (by omega)) c.lg.1 rfl dX11_hand_36 ?_
            refine AX.iload_n (pc := 39) dX11_hand_39 rfl ?_
            refine AX.aaldN (pc := 40) (i := 0) (b := 66) (by decide) (lt_k c.hn (by omega)) e65 (by decide) (by decide) (q65 _ (by decide)) dX11_hand_40 ?_
            refine AX.astore (pc := 41) (L' := [.ref 0, .int (nI 0), .int (nI 0), .int (nI vn), .ref 66, .null]) dX11_hand_41 (by decide) rfl ?_
            refine AX.iload_n (pc := 43) dX11_hand_43 rfl ?_
            refine AX.if_neN (pc := 44) (tgt := 55) dX11_hand_44 (by decide) (by decide) (fun q => absurd q (by decide)) (fun hc44 => ?_)
            refine AX.aload (pc := 47) dX11_hand_47 rfl ?_
            refine AX.getf (pc := 49) fX11_hand_119 (lt_k c.hn (by omega)) c.lg.2.2.1 rfl dX11_hand_49 ?_
            refine AX.goto (pc := 52) (tgt := 60) dX11_hand_52 (by decide) ?_
            refine AX.istore (pc := 60) (L' := [.ref 0, .int (nI 0), .int (nI 0), .int (nI vn), .ref 66, .int (sq s 0)]) dX11_hand_60 (by decide) rfl ?_
            refine AX.iload_n (pc := 62) dX11_hand_62 rfl ?_
            refine AX.if_neN (pc := 63) (tgt := 75) dX11_hand_63 (by decide) (by decide) (fun q => absurd q (by decide)) (fun hc63 => ?_)
            refine AX.aload (pc := 66) dX11_hand_66 rfl ?_
            refine AX.iload_n (pc := 68) dX11_hand_68 rfl ?_
            refine AX.putf (pc := 69) (fs' := [.int (nI vn), .int (sq s 2), .int (sq s 4), .int (sq s 6), .int (sq s 8), .int (sq s 10)]) fX11_hand_119 rfl (lt_k c.hn (by omega)) c.lg.2.2.1 (Nat.le_of_ble_eq_true rfl) rfl rfl rfl dX11_hand_69 ?_
            refine AX.goto (pc := 72) (tgt := 81) dX11_hand_72 (by decide) ?_
            have sx : Same [64, 66, 67] h (xset h 66 (.inr (5, [.int (nI vn), .int (sq s 2), .int (sq s 4), .int (sq s 6), .int (sq s 8), .int (sq s 10)]))) := Same.set Same.rf (by simp)
            have c1 : CSo (xset h 66 (.inr (5, [.int (nI vn), .int (sq s 2), .int (sq s 4), .int (sq s 6), .int (sq s 8), .int (sq s 10)]))) (wq s (upd (sq s) 0 (nI vn))) o a b := c.leg sx ⟨((xset_ne (by decide)).trans c.lg.1), c.lg.2.1.same sx (by simp), (xset_same _ _ _), ((xset_ne (by decide)).trans c.lg.2.2.2)⟩
            refine AX.aload_n (pc := 81) dX11_hand_81 rfl ?_
            refine AX.callV (pc := 82) (M2 := M_X11_renewMinds) (As := []) (rest := []) (c_renewMinds w (xset h 66 (.inr (5, [.int (nI vn), .int (sq s 2), .int (sq s 4), .int (sq s 6), .int (sq s 8), .int (sq s 10)]))) c1 l') xc_X11_hand__X11_renewMinds gX11_hand_X11_renewMinds (ci := 10) rfl (lt_k c.hn (by omega)) ((xset_ne (by decide)).trans c.dm) rfl (Nat.le_of_ble_eq_true rfl) dX11_hand_82 ?_
            rintro _ h2 ⟨rfl, s2, c2⟩
            show AX w M_X11_hand 0 0 85 [.ref 0, .int (nI 0), .int (nI 0), .int (nI vn), .ref 66, .int (sq s 0)] [] _ _
            refine AX.iload (pc := 85) dX11_hand_85 rfl ?_
            refine AX.iret (pc := 87) dX11_hand_87 rfl rfl (by decide) (by decide) ?_
            exact ⟨by unfold aHand; rw [if_pos h_x, if_pos h_k, if_pos h_v]; rfl, clS_in ((sx.wide (T := [1, 3, 10, 11, 12, 26, 27, 28, 49, 57, 64, 66, 67]) (by decide)).trans (s2.wide (by decide))) (by decide), c2⟩
          · have en : nHand (sq s) (nI 0) (nI 1) (nI vn) = upd (sq s) 2 (nI vn) := by unfold nHand; rw [if_pos h_x, if_pos h_k, if_pos h_v]; rfl
            rw [en] at l' ⊢
            refine CA.of (by decide) rfl (fun _ => Nat.le_of_ble_eq_true rfl) ?_
            show AX w M_X11_hand 0 0 0 [.ref 0, .int (nI 0), .int (nI 1), .int (nI vn), .null, .null] [] h _
            refine AX.iload_n (pc := 0) dX11_hand_0 rfl ?_
            refine AX.callS (pc := 1) (M2 := M_X11_isPlayer) (As := [.int (nI 0)]) (rest := []) (c_isPlayer w h (nI 0)) xc_X11_hand__X11_isPlayer gX11_hand_X11_isPlayer rfl (Nat.le_of_ble_eq_true rfl) dX11_hand_1 ?_
            rintro _ h9 ⟨rfl, e9⟩
            have e9 := e9.symm
            subst e9
            rw [decide_eq_true (play_iff.mpr h_x)]
            show AX w M_X11_hand 0 0 4 [.ref 0, .int (nI 0), .int (nI 1), .int (nI vn), .null, .null] [.int (bI true)] _ _
            refine AX.if_eqB (pc := 4) (tgt := 16) dX11_hand_4 (by decide) (fun q => absurd q (by decide)) (fun hc4 => ?_)
            refine AX.iload_n (pc := 7) dX11_hand_7 rfl ?_
            refine AX.if_ltN (pc := 8) (tgt := 16) dX11_hand_8 (by decide) (by decide) (fun q => absurd q (by decide)) (fun hc8 => ?_)
            refine AX.iload_n (pc := 11) dX11_hand_11 rfl ?_
            refine AX.iconst (pc := 12) (v := nI 1) dX11_hand_12 (by decide) ?_
            refine AX.icmp_leN (pc := 13) (tgt := 18) dX11_hand_13 (by decide) (by decide) (by decide) (fun hc13 => ?_) (fun q => absurd q (by decide))
            refine AX.iload_n (pc := 18) dX11_hand_18 rfl ?_
            refine AX.if_ltN (pc := 19) (tgt := 29) dX11_hand_19 (by decide) (by omega) (fun q => absurd q (by omega)) (fun hc19 => ?_)
            refine AX.iload_n (pc := 22) dX11_hand_22 rfl ?_
            refine AX.sipush (pc := 23) (v := nI 200) dX11_hand_23 (by decide) ?_
            refine AX.icmp_leN (pc := 26) (tgt := 32) dX11_hand_26 (by decide) (by omega) (by decide) (fun hc26 => ?_) (fun q => absurd q (by omega))
            refine AX.aload_n (pc := 32) dX11_hand_32 rfl ?_
            refine AX.getf (pc := 33) fX11_hand_53 (lt_k c.hn (by omega)) c.dm rfl dX11_hand_33 ?_
            refine AX.getf (pc := 36) fX11_hand_115 (lt_k c.hn (by omega)) c.lg.1 rfl dX11_hand_36 ?_
            refine AX.iload_n (pc := 39) dX11_hand_39 rfl ?_
            refine AX.aaldN (pc := 40) (i := 0) (b := 66) (by decide) (lt_k c.hn (by omega)) e65 (by decide) (by decide) (q65 _ (by decide)) dX11_hand_40 ?_
            refine AX.astore (pc := 41) (L' := [.ref 0, .int (nI 0), .int (nI 1), .int (nI vn), .ref 66, .null]) dX11_hand_41 (by decide) rfl ?_
            refine AX.iload_n (pc := 43) dX11_hand_43 rfl ?_
            refine AX.if_neN (pc := 44) (tgt := 55) dX11_hand_44 (by decide) (by decide) (fun hc44 => ?_) (fun q => absurd q (by decide))
            refine AX.aload (pc := 55) dX11_hand_55 rfl ?_
            refine AX.getf (pc := 57) fX11_hand_125 (lt_k c.hn (by omega)) c.lg.2.2.1 rfl dX11_hand_57 ?_
            refine AX.istore (pc := 60) (L' := [.ref 0, .int (nI 0), .int (nI 1), .int (nI vn), .ref 66, .int (sq s 2)]) dX11_hand_60 (by decide) rfl ?_
            refine AX.iload_n (pc := 62) dX11_hand_62 rfl ?_
            refine AX.if_neN (pc := 63) (tgt := 75) dX11_hand_63 (by decide) (by decide) (fun hc63 => ?_) (fun q => absurd q (by decide))
            refine AX.aload (pc := 75) dX11_hand_75 rfl ?_
            refine AX.iload_n (pc := 77) dX11_hand_77 rfl ?_
            refine AX.putf (pc := 78) (fs' := [.int (sq s 0), .int (nI vn), .int (sq s 4), .int (sq s 6), .int (sq s 8), .int (sq s 10)]) fX11_hand_125 rfl (lt_k c.hn (by omega)) c.lg.2.2.1 (Nat.le_of_ble_eq_true rfl) rfl rfl rfl dX11_hand_78 ?_
            have sx : Same [64, 66, 67] h (xset h 66 (.inr (5, [.int (sq s 0), .int (nI vn), .int (sq s 4), .int (sq s 6), .int (sq s 8), .int (sq s 10)]))) := Same.set Same.rf (by simp)
            have c1 : CSo (xset h 66 (.inr (5, [.int (sq s 0), .int (nI vn), .int (sq s 4), .int (sq s 6), .int (sq s 8), .int (sq s 10)]))) (wq s (upd (sq s) 2 (nI vn))) o a b := c.leg sx ⟨((xset_ne (by decide)).trans c.lg.1), c.lg.2.1.same sx (by simp), (xset_same _ _ _), ((xset_ne (by decide)).trans c.lg.2.2.2)⟩
            refine AX.aload_n (pc := 81) dX11_hand_81 rfl ?_
            refine AX.callV (pc := 82) (M2 := M_X11_renewMinds) (As := []) (rest := []) (c_renewMinds w (xset h 66 (.inr (5, [.int (sq s 0), .int (nI vn), .int (sq s 4), .int (sq s 6), .int (sq s 8), .int (sq s 10)]))) c1 l') xc_X11_hand__X11_renewMinds gX11_hand_X11_renewMinds (ci := 10) rfl (lt_k c.hn (by omega)) ((xset_ne (by decide)).trans c.dm) rfl (Nat.le_of_ble_eq_true rfl) dX11_hand_82 ?_
            rintro _ h2 ⟨rfl, s2, c2⟩
            show AX w M_X11_hand 0 0 85 [.ref 0, .int (nI 0), .int (nI 1), .int (nI vn), .ref 66, .int (sq s 2)] [] _ _
            refine AX.iload (pc := 85) dX11_hand_85 rfl ?_
            refine AX.iret (pc := 87) dX11_hand_87 rfl rfl (by decide) (by decide) ?_
            exact ⟨by unfold aHand; rw [if_pos h_x, if_pos h_k, if_pos h_v]; rfl, clS_in ((sx.wide (T := [1, 3, 10, 11, 12, 26, 27, 28, 49, 57, 64, 66, 67]) (by decide)).trans (s2.wide (by decide))) (by decide), c2⟩
        · rcases (show kn = 0 ∨ kn = 1 by omega) with rfl | rfl
          · have en : nHand (sq s) (nI 1) (nI 0) (nI vn) = upd (sq s) 1 (nI vn) := by unfold nHand; rw [if_pos h_x, if_pos h_k, if_pos h_v]; rfl
            rw [en] at l' ⊢
            refine CA.of (by decide) rfl (fun _ => Nat.le_of_ble_eq_true rfl) ?_
            show AX w M_X11_hand 0 0 0 [.ref 0, .int (nI 1), .int (nI 0), .int (nI vn), .null, .null] [] h _
            refine AX.iload_n (pc := 0) dX11_hand_0 rfl ?_
            refine AX.callS (pc := 1) (M2 := M_X11_isPlayer) (As := [.int (nI 1)]) (rest := []) (c_isPlayer w h (nI 1)) xc_X11_hand__X11_isPlayer gX11_hand_X11_isPlayer rfl (Nat.le_of_ble_eq_true rfl) dX11_hand_1 ?_
            rintro _ h9 ⟨rfl, e9⟩
            have e9 := e9.symm
            subst e9
            rw [decide_eq_true (play_iff.mpr h_x)]
            show AX w M_X11_hand 0 0 4 [.ref 0, .int (nI 1), .int (nI 0), .int (nI vn), .null, .null] [.int (bI true)] _ _
            refine AX.if_eqB (pc := 4) (tgt := 16) dX11_hand_4 (by decide) (fun q => absurd q (by decide)) (fun hc4 => ?_)
            refine AX.iload_n (pc := 7) dX11_hand_7 rfl ?_
            refine AX.if_ltN (pc := 8) (tgt := 16) dX11_hand_8 (by decide) (by decide) (fun q => absurd q (by decide)) (fun hc8 => ?_)
            refine AX.iload_n (pc := 11) dX11_hand_11 rfl ?_
            refine AX.iconst (pc := 12) (v := nI 1) dX11_hand_12 (by decide) ?_
            refine AX.icmp_leN (pc := 13) (tgt := 18) dX11_hand_13 (by decide) (by decide) (by decide) (fun hc13 => ?_) (fun q => absurd q (by decide))
            refine AX.iload_n (pc := 18) dX11_hand_18 rfl ?_
            refine AX.if_ltN (pc := 19) (tgt := 29) dX11_hand_19 (by decide) (by omega) (fun q => absurd q (by omega)) (fun hc19 => ?_)
            refine AX.iload_n (pc := 22) dX11_hand_22 rfl ?_
            refine AX.sipush (pc := 23) (v := nI 200) dX11_hand_23 (by decide) ?_
            refine AX.icmp_leN (pc := 26) (tgt := 32) dX11_hand_26 (by decide) (by omega) (by decide) (fun hc26 => ?_) (fun q => absurd q (by omega))
            refine AX.aload_n (pc := 32) dX11_hand_32 rfl ?_
            refine AX.getf (pc := 33) fX11_hand_53 (lt_k c.hn (by omega)) c.dm rfl dX11_hand_33 ?_
            refine AX.getf (pc := 36) fX11_hand_115 (lt_k c.hn (by omega)) c.lg.1 rfl dX11_hand_36 ?_
            refine AX.iload_n (pc := 39) dX11_hand_39 rfl ?_
            refine AX.aaldN (pc := 40) (i := 1) (b := 67) (by decide) (lt_k c.hn (by omega)) e65 (by decide) (by decide) (q65 _ (by decide)) dX11_hand_40 ?_
            refine AX.astore (pc := 41) (L' := [.ref 0, .int (nI 1), .int (nI 0), .int (nI vn), .ref 67, .null]) dX11_hand_41 (by decide) rfl ?_
            refine AX.iload_n (pc := 43) dX11_hand_43 rfl ?_
            refine AX.if_neN (pc := 44) (tgt := 55) dX11_hand_44 (by decide) (by decide) (fun q => absurd q (by decide)) (fun hc44 => ?_)
            refine AX.aload (pc := 47) dX11_hand_47 rfl ?_
            refine AX.getf (pc := 49) fX11_hand_119 (lt_k c.hn (by omega)) c.lg.2.2.2 rfl dX11_hand_49 ?_
            refine AX.goto (pc := 52) (tgt := 60) dX11_hand_52 (by decide) ?_
            refine AX.istore (pc := 60) (L' := [.ref 0, .int (nI 1), .int (nI 0), .int (nI vn), .ref 67, .int (sq s 1)]) dX11_hand_60 (by decide) rfl ?_
            refine AX.iload_n (pc := 62) dX11_hand_62 rfl ?_
            refine AX.if_neN (pc := 63) (tgt := 75) dX11_hand_63 (by decide) (by decide) (fun q => absurd q (by decide)) (fun hc63 => ?_)
            refine AX.aload (pc := 66) dX11_hand_66 rfl ?_
            refine AX.iload_n (pc := 68) dX11_hand_68 rfl ?_
            refine AX.putf (pc := 69) (fs' := [.int (nI vn), .int (sq s 3), .int (sq s 5), .int (sq s 7), .int (sq s 9), .int (sq s 11)]) fX11_hand_119 rfl (lt_k c.hn (by omega)) c.lg.2.2.2 (Nat.le_of_ble_eq_true rfl) rfl rfl rfl dX11_hand_69 ?_
            refine AX.goto (pc := 72) (tgt := 81) dX11_hand_72 (by decide) ?_
            have sx : Same [64, 66, 67] h (xset h 67 (.inr (5, [.int (nI vn), .int (sq s 3), .int (sq s 5), .int (sq s 7), .int (sq s 9), .int (sq s 11)]))) := Same.set Same.rf (by simp)
            have c1 : CSo (xset h 67 (.inr (5, [.int (nI vn), .int (sq s 3), .int (sq s 5), .int (sq s 7), .int (sq s 9), .int (sq s 11)]))) (wq s (upd (sq s) 1 (nI vn))) o a b := c.leg sx ⟨((xset_ne (by decide)).trans c.lg.1), c.lg.2.1.same sx (by simp), ((xset_ne (by decide)).trans c.lg.2.2.1), (xset_same _ _ _)⟩
            refine AX.aload_n (pc := 81) dX11_hand_81 rfl ?_
            refine AX.callV (pc := 82) (M2 := M_X11_renewMinds) (As := []) (rest := []) (c_renewMinds w (xset h 67 (.inr (5, [.int (nI vn), .int (sq s 3), .int (sq s 5), .int (sq s 7), .int (sq s 9), .int (sq s 11)]))) c1 l') xc_X11_hand__X11_renewMinds gX11_hand_X11_renewMinds (ci := 10) rfl (lt_k c.hn (by omega)) ((xset_ne (by decide)).trans c.dm) rfl (Nat.le_of_ble_eq_true rfl) dX11_hand_82 ?_
            rintro _ h2 ⟨rfl, s2, c2⟩
            show AX w M_X11_hand 0 0 85 [.ref 0, .int (nI 1), .int (nI 0), .int (nI vn), .ref 67, .int (sq s 1)] [] _ _
            refine AX.iload (pc := 85) dX11_hand_85 rfl ?_
            refine AX.iret (pc := 87) dX11_hand_87 rfl rfl (by decide) (by decide) ?_
            exact ⟨by unfold aHand; rw [if_pos h_x, if_pos h_k, if_pos h_v]; rfl, clS_in ((sx.wide (T := [1, 3, 10, 11, 12, 26, 27, 28, 49, 57, 64, 66, 67]) (by decide)).trans (s2.wide (by decide))) (by decide), c2⟩
          · have en : nHand (sq s) (nI 1) (nI 1) (nI vn) = upd (sq s) 3 (nI vn) := by unfold nHand; rw [if_pos h_x, if_pos h_k, if_pos h_v]; rfl
            rw [en] at l' ⊢
            refine CA.of (by decide) rfl (fun _ => Nat.le_of_ble_eq_true rfl) ?_
            show AX w M_X11_hand 0 0 0 [.ref 0, .int (nI 1), .int (nI 1), .int (nI vn), .null, .null] [] h _
            refine AX.iload_n (pc := 0) dX11_hand_0 rfl ?_
            refine AX.callS (pc := 1) (M2 := M_X11_isPlayer) (As := [.int (nI 1)]) (rest := []) (c_isPlayer w h (nI 1)) xc_X11_hand__X11_isPlayer gX11_hand_X11_isPlayer rfl (Nat.le_of_ble_eq_true rfl) dX11_hand_1 ?_
            rintro _ h9 ⟨rfl, e9⟩
            have e9 := e9.symm
            subst e9
            rw [decide_eq_true (play_iff.mpr h_x)]
            show AX w M_X11_hand 0 0 4 [.ref 0, .int (nI 1), .int (nI 1), .int (nI vn), .null, .null] [.int (bI true)] _ _
            refine AX.if_eqB (pc := 4) (tgt := 16) dX11_hand_4 (by decide) (fun q => absurd q (by decide)) (fun hc4 => ?_)
            refine AX.iload_n (pc := 7) dX11_hand_7 rfl ?_
            refine AX.if_ltN (pc := 8) (tgt := 16) dX11_hand_8 (by decide) (by decide) (fun q => absurd q (by decide)) (fun hc8 => ?_)
            refine AX.iload_n (pc := 11) dX11_hand_11 rfl ?_
            refine AX.iconst (pc := 12) (v := nI 1) dX11_hand_12 (by decide) ?_
            refine AX.icmp_leN (pc := 13) (tgt := 18) dX11_hand_13 (by decide) (by decide) (by decide) (fun hc13 => ?_) (fun q => absurd q (by decide))
            refine AX.iload_n (pc := 18) dX11_hand_18 rfl ?_
            refine AX.if_ltN (pc := 19) (tgt := 29) dX11_hand_19 (by decide) (by omega) (fun q => absurd q (by omega)) (fun hc19 => ?_)
            refine AX.iload_n (pc := 22) dX11_hand_22 rfl ?_
            refine AX.sipush (pc := 23) (v := nI 200) dX11_hand_23 (by decide) ?_
            refine AX.icmp_leN (pc := 26) (tgt := 32) dX11_hand_26 (by decide) (by omega) (by decide) (fun hc26 => ?_) (fun q => absurd q (by omega))
            refine AX.aload_n (pc := 32) dX11_hand_32 rfl ?_
            refine AX.getf (pc := 33) fX11_hand_53 (lt_k c.hn (by omega)) c.dm rfl dX11_hand_33 ?_
            refine AX.getf (pc := 36) fX11_hand_115 (lt_k c.hn (by omega)) c.lg.1 rfl dX11_hand_36 ?_
            refine AX.iload_n (pc := 39) dX11_hand_39 rfl ?_
            refine AX.aaldN (pc := 40) (i := 1) (b := 67) (by decide) (lt_k c.hn (by omega)) e65 (by decide) (by decide) (q65 _ (by decide)) dX11_hand_40 ?_
            refine AX.astore (pc := 41) (L' := [.ref 0, .int (nI 1), .int (nI 1), .int (nI vn), .ref 67, .null]) dX11_hand_41 (by decide) rfl ?_
            refine AX.iload_n (pc := 43) dX11_hand_43 rfl ?_
            refine AX.if_neN (pc := 44) (tgt := 55) dX11_hand_44 (by decide) (by decide) (fun hc44 => ?_) (fun q => absurd q (by decide))
            refine AX.aload (pc := 55) dX11_hand_55 rfl ?_
            refine AX.getf (pc := 57) fX11_hand_125 (lt_k c.hn (by omega)) c.lg.2.2.2 rfl dX11_hand_57 ?_
            refine AX.istore (pc := 60) (L' := [.ref 0, .int (nI 1), .int (nI 1), .int (nI vn), .ref 67, .int (sq s 3)]) dX11_hand_60 (by decide) rfl ?_
            refine AX.iload_n (pc := 62) dX11_hand_62 rfl ?_
            refine AX.if_neN (pc := 63) (tgt := 75) dX11_hand_63 (by decide) (by decide) (fun hc63 => ?_) (fun q => absurd q (by decide))
            refine AX.aload (pc := 75) dX11_hand_75 rfl ?_
            refine AX.iload_n (pc := 77) dX11_hand_77 rfl ?_
            refine AX.putf (pc := 78) (fs' := [.int (sq s 1), .int (nI vn), .int (sq s 5), .int (sq s 7), .int (sq s 9), .int (sq s 11)]) fX11_hand_125 rfl (lt_k c.hn (by omega)) c.lg.2.2.2 (Nat.le_of_ble_eq_true rfl) rfl rfl rfl dX11_hand_78 ?_
            have sx : Same [64, 66, 67] h (xset h 67 (.inr (5, [.int (sq s 1), .int (nI vn), .int (sq s 5), .int (sq s 7), .int (sq s 9), .int (sq s 11)]))) := Same.set Same.rf (by simp)
            have c1 : CSo (xset h 67 (.inr (5, [.int (sq s 1), .int (nI vn), .int (sq s 5), .int (sq s 7), .int (sq s 9), .int (sq s 11)]))) (wq s (upd (sq s) 3 (nI vn))) o a b := c.leg sx ⟨((xset_ne (by decide)).trans c.lg.1), c.lg.2.1.same sx (by simp), ((xset_ne (by decide)).trans c.lg.2.2.1), (xset_same _ _ _)⟩
            refine AX.aload_n (pc := 81) dX11_hand_81 rfl ?_
            refine AX.callV (pc := 82) (M2 := M_X11_renewMinds) (As := []) (rest := []) (c_renewMinds w (xset h 67 (.inr (5, [.int (sq s 1), .int (nI vn), .int (sq s 5), .int (sq s 7), .int (sq s 9), .int (sq s 11)]))) c1 l') xc_X11_hand__X11_renewMinds gX11_hand_X11_renewMinds (ci := 10) rfl (lt_k c.hn (by omega)) ((xset_ne (by decide)).trans c.dm) rfl (Nat.le_of_ble_eq_true rfl) dX11_hand_82 ?_
            rintro _ h2 ⟨rfl, s2, c2⟩
            show AX w M_X11_hand 0 0 85 [.ref 0, .int (nI 1), .int (nI 1), .int (nI vn), .ref 67, .int (sq s 3)] [] _ _
            refine AX.iload (pc := 85) dX11_hand_85 rfl ?_
            refine AX.iret (pc := 87) dX11_hand_87 rfl rfl (by decide) (by decide) ?_
            exact ⟨by unfold aHand; rw [if_pos h_x, if_pos h_k, if_pos h_v]; rfl, clS_in ((sx.wide (T := [1, 3, 10, 11, 12, 26, 27, 28, 49, 57, 64, 66, 67]) (by decide)).trans (s2.wide (by decide))) (by decide), c2⟩
      · rcases nR h_v with hl | hu
        · refine CA.of (by decide) rfl (fun _ => Nat.le_of_ble_eq_true rfl) ?_
          show AX w M_X11_hand 0 0 0 [.ref 0, .int (nI xn), .int (nI kn), .int v, .null, .null] [] h _
          refine AX.iload_n (pc := 0) dX11_hand_0 rfl ?_
          refine AX.callS (pc := 1) (M2 := M_X11_isPlayer) (As := [.int (nI xn)]) (rest := []) (c_isPlayer w h (nI xn)) xc_X11_hand__X11_isPlayer gX11_hand_X11_isPlayer rfl (Nat.le_of_ble_eq_true rfl) dX11_hand_1 ?_
          rintro _ h9 ⟨rfl, e9⟩
          have e9 := e9.symm
          subst e9
          rw [decide_eq_true (play_iff.mpr h_x)]
          show AX w M_X11_hand 0 0 4 [.ref 0, .int (nI xn), .int (nI kn), .int v, .null, .null] [.int (bI true)] _ _
          refine AX.if_eqB (pc := 4) (tgt := 16) dX11_hand_4 (by decide) (fun q => absurd q (by decide)) (fun hc4 => ?_)
          refine AX.iload_n (pc := 7) dX11_hand_7 rfl ?_
          refine AX.if_ltN (pc := 8) (tgt := 16) dX11_hand_8 (by decide) (by omega) (fun q => absurd q (by omega)) (fun hc8 => ?_)
          refine AX.iload_n (pc := 11) dX11_hand_11 rfl ?_
          refine AX.iconst (pc := 12) (v := nI 1) dX11_hand_12 (by decide) ?_
          refine AX.icmp_leN (pc := 13) (tgt := 18) dX11_hand_13 (by decide) (by omega) (by decide) (fun hc13 => ?_) (fun q => absurd q (by omega))
          refine AX.iload_n (pc := 18) dX11_hand_18 rfl ?_
          refine AX.if_lt (pc := 19) (tgt := 29) dX11_hand_19 (by decide) (fun hc19 => ?_) (fun q => absurd (ltT rfl i0 (by omega)) q)
          refine AX.bipush (pc := 29) (v := (-2)) dX11_hand_29 (by decide) ?_
          refine AX.iret (pc := 31) dX11_hand_31 rfl rfl (by decide) (by decide) ?_
          have en : nHand (sq s) (nI xn) (nI kn) v = sq s := by unfold nHand; rw [if_pos h_x, if_pos h_k, if_neg h_v]
          rw [en] at l' ⊢
          obtain ⟨rfl, rfl, rfl⟩ := l.inj l'
          exact ⟨by unfold aHand; rw [if_pos h_x, if_pos h_k, if_neg h_v]; try rfl, Same.rf, c⟩
        · refine CA.of (by decide) rfl (fun _ => Nat.le_of_ble_eq_true rfl) ?_
          show AX w M_X11_hand 0 0 0 [.ref 0, .int (nI xn), .int (nI kn), .int v, .null, .null] [] h _
          refine AX.iload_n (pc := 0) dX11_hand_0 rfl ?_
          refine AX.callS (pc := 1) (M2 := M_X11_isPlayer) (As := [.int (nI xn)]) (rest := []) (c_isPlayer w h (nI xn)) xc_X11_hand__X11_isPlayer gX11_hand_X11_isPlayer rfl (Nat.le_of_ble_eq_true rfl) dX11_hand_1 ?_
          rintro _ h9 ⟨rfl, e9⟩
          have e9 := e9.symm
          subst e9
          rw [decide_eq_true (play_iff.mpr h_x)]
          show AX w M_X11_hand 0 0 4 [.ref 0, .int (nI xn), .int (nI kn), .int v, .null, .null] [.int (bI true)] _ _
          refine AX.if_eqB (pc := 4) (tgt := 16) dX11_hand_4 (by decide) (fun q => absurd q (by decide)) (fun hc4 => ?_)
          refine AX.iload_n (pc := 7) dX11_hand_7 rfl ?_
          refine AX.if_ltN (pc := 8) (tgt := 16) dX11_hand_8 (by decide) (by omega) (fun q => absurd q (by omega)) (fun hc8 => ?_)
          refine AX.iload_n (pc := 11) dX11_hand_11 rfl ?_
          refine AX.iconst (pc := 12) (v := nI 1) dX11_hand_12 (by decide) ?_
          refine AX.icmp_leN (pc := 13) (tgt := 18) dX11_hand_13 (by decide) (by omega) (by decide) (fun hc13 => ?_) (fun q => absurd q (by omega))
          refine AX.iload_n (pc := 18) dX11_hand_18 rfl ?_
          refine AX.if_lt (pc := 19) (tgt := 29) dX11_hand_19 (by decide) (fun q => absurd q (ltF rfl i0 (by omega))) (fun hc19 => ?_)
          refine AX.iload_n (pc := 22) dX11_hand_22 rfl ?_
          refine AX.sipush (pc := 23) (v := nI 200) dX11_hand_23 (by decide) ?_
          refine AX.icmp_le (pc := 26) (tgt := 32) dX11_hand_26 (by decide) (fun q => absurd q (leF rfl (iN 200 (by omega)) (by omega))) (fun hc26 => ?_)
          refine AX.bipush (pc := 29) (v := (-2)) dX11_hand_29 (by decide) ?_
          refine AX.iret (pc := 31) dX11_hand_31 rfl rfl (by decide) (by decide) ?_
          have en : nHand (sq s) (nI xn) (nI kn) v = sq s := by unfold nHand; rw [if_pos h_x, if_pos h_k, if_neg h_v]
          rw [en] at l' ⊢
          obtain ⟨rfl, rfl, rfl⟩ := l.inj l'
          exact ⟨by unfold aHand; rw [if_pos h_x, if_pos h_k, if_neg h_v]; try rfl, Same.rf, c⟩
    · rcases nR h_k with hl | hu
      · refine CA.of (by decide) rfl (fun _ => Nat.le_of_ble_eq_true rfl) ?_
        show AX w M_X11_hand 0 0 0 [.ref 0, .int (nI xn), .int k, .int v, .null, .null] [] h _
        refine AX.iload_n (pc := 0) dX11_hand_0 rfl ?_
        refine AX.callS (pc := 1) (M2 := M_X11_isPlayer) (As := [.int (nI xn)]) (rest := []) (c_isPlayer w h (nI xn)) xc_X11_hand__X11_isPlayer gX11_hand_X11_isPlayer rfl (Nat.le_of_ble_eq_true rfl) dX11_hand_1 ?_
        rintro _ h9 ⟨rfl, e9⟩
        have e9 := e9.symm
        subst e9
        rw [decide_eq_true (play_iff.mpr h_x)]
        show AX w M_X11_hand 0 0 4 [.ref 0, .int (nI xn), .int k, .int v, .null, .null] [.int (bI true)] _ _
        refine AX.if_eqB (pc := 4) (tgt := 16) dX11_hand_4 (by decide) (fun q => absurd q (by decide)) (fun hc4 => ?_)
        refine AX.iload_n (pc := 7) dX11_hand_7 rfl ?_
        refine AX.if_lt (pc := 8) (tgt := 16) dX11_hand_8 (by decide) (fun hc8 => ?_) (fun q => absurd (ltT rfl i0 (by omega)) q)
        refine AX.iconst (pc := 16) (v := (-1)) dX11_hand_16 (by decide) ?_
        refine AX.iret (pc := 17) dX11_hand_17 rfl rfl (by decide) (by decide) ?_
        have en : nHand (sq s) (nI xn) k v = sq s := by unfold nHand; rw [if_pos h_x, if_neg h_k]
        rw [en] at l' ⊢
        obtain ⟨rfl, rfl, rfl⟩ := l.inj l'
        exact ⟨by unfold aHand; rw [if_pos h_x, if_neg h_k]; try rfl, Same.rf, c⟩
      · refine CA.of (by decide) rfl (fun _ => Nat.le_of_ble_eq_true rfl) ?_
        show AX w M_X11_hand 0 0 0 [.ref 0, .int (nI xn), .int k, .int v, .null, .null] [] h _
        refine AX.iload_n (pc := 0) dX11_hand_0 rfl ?_
        refine AX.callS (pc := 1) (M2 := M_X11_isPlayer) (As := [.int (nI xn)]) (rest := []) (c_isPlayer w h (nI xn)) xc_X11_hand__X11_isPlayer gX11_hand_X11_isPlayer rfl (Nat.le_of_ble_eq_true rfl) dX11_hand_1 ?_
        rintro _ h9 ⟨rfl, e9⟩
        have e9 := e9.symm
        subst e9
        rw [decide_eq_true (play_iff.mpr h_x)]
        show AX w M_X11_hand 0 0 4 [.ref 0, .int (nI xn), .int k, .int v, .null, .null] [.int (bI true)] _ _
        refine AX.if_eqB (pc := 4) (tgt := 16) dX11_hand_4 (by decide) (fun q => absurd q (by decide)) (fun hc4 => ?_)
        refine AX.iload_n (pc := 7) dX11_hand_7 rfl ?_
        refine AX.if_lt (pc := 8) (tgt := 16) dX11_hand_8 (by decide) (fun q => absurd q (ltF rfl i0 (by omega))) (fun hc8 => ?_)
        refine AX.iload_n (pc := 11) dX11_hand_11 rfl ?_
        refine AX.iconst (pc := 12) (v := nI 1) dX11_hand_12 (by decide) ?_
        refine AX.icmp_le (pc := 13) (tgt := 18) dX11_hand_13 (by decide) (fun q => absurd q (leF rfl (iN 1 (by omega)) (by omega))) (fun hc13 => ?_)
        refine AX.iconst (pc := 16) (v := (-1)) dX11_hand_16 (by decide) ?_
        refine AX.iret (pc := 17) dX11_hand_17 rfl rfl (by decide) (by decide) ?_
        have en : nHand (sq s) (nI xn) k v = sq s := by unfold nHand; rw [if_pos h_x, if_neg h_k]
        rw [en] at l' ⊢
        obtain ⟨rfl, rfl, rfl⟩ := l.inj l'
        exact ⟨by unfold aHand; rw [if_pos h_x, if_neg h_k]; try rfl, Same.rf, c⟩
  · refine CA.of (by decide) rfl (fun _ => Nat.le_of_ble_eq_true rfl) ?_
    show AX w M_X11_hand 0 0 0 [.ref 0, .int x, .int k, .int v, .null, .null] [] h _
    refine AX.iload_n (pc := 0) dX11_hand_0 rfl ?_
    refine AX.callS (pc := 1) (M2 := M_X11_isPlayer) (As := [.int x]) (rest := []) (c_isPlayer w h x) xc_X11_hand__X11_isPlayer gX11_hand_X11_isPlayer rfl (Nat.le_of_ble_eq_true rfl) dX11_hand_1 ?_
    rintro _ h9 ⟨rfl, e9⟩
    have e9 := e9.symm
    subst e9
    rw [decide_eq_false (fun q => h_x (play_iff.mp q))]
    show AX w M_X11_hand 0 0 4 [.ref 0, .int x, .int k, .int v, .null, .null] [.int (bI false)] _ _
    refine AX.if_eqB (pc := 4) (tgt := 16) dX11_hand_4 (by decide) (fun hc4 => ?_) (fun q => absurd q (by decide))
    refine AX.iconst (pc := 16) (v := (-1)) dX11_hand_16 (by decide) ?_
    refine AX.iret (pc := 17) dX11_hand_17 rfl rfl (by decide) (by decide) ?_
    have en : nHand (sq s) x k v = sq s := by unfold nHand; rw [if_neg h_x]
    rw [en] at l' ⊢
    obtain ⟨rfl, rfl, rfl⟩ := l.inj l'
    exact ⟨by unfold aHand; rw [if_neg h_x]; try rfl, Same.rf, c⟩
theorem c_out (w : XW) (h : XH) {s : SS} {n n' o o' : Nat} {a b a' b' : Nat × Nat} (c : CSo h s o a b) (l : LV (sq s) n o a b) (x : Int32) (l' : LV (nOut (sq s) x) n' o' a' b') : CA w M_X11_out [.ref 0, .int x] h (fun v' h'' => v' = some (.int (aOut (sq s) x)) ∧ Same clS h h'' ∧ CSo h'' (wq s (nOut (sq s) x)) o' a' b') := by
  by_cases h_x : inR 0 2 x
  · obtain ⟨xn, rfl, l_x, u_x⟩ := inR_nat (by decide) h_x
    by_cases hz : xn = 0
    · subst hz
      have en : nOut (sq s) (nI 0) = upd (sq s) 12 (nI 0) := by unfold nOut; rw [if_pos h_x, if_neg (fun q => q.1 rfl)]
      rw [en] at l' ⊢
      refine CA.of (by decide) rfl (fun _ => Nat.le_of_ble_eq_true rfl) ?_
      show AX w M_X11_out 0 0 0 [.ref 0, .int (nI 0), .null] [] h _
      refine AX.iload_n (pc := 0) dX11_out_0 rfl ?_
      refine AX.if_ltN (pc := 1) (tgt := 9) dX11_out_1 (by decide) (by decide) (fun q => absurd q (by decide)) (fun hc1 => ?_)
      refine AX.iload_n (pc := 4) dX11_out_4 rfl ?_
      refine AX.iconst (pc := 5) (v := nI 2) dX11_out_5 (by decide) ?_
      refine AX.icmp_leN (pc := 6) (tgt := 11) dX11_out_6 (by decide) (by decide) (by decide) (fun hc6 => ?_) (fun q => absurd q (by decide))
      refine AX.iload_n (pc := 11) dX11_out_11 rfl ?_
      refine AX.if_eqN (pc := 12) (tgt := 28) dX11_out_12 (by decide) (by decide) (fun hc12 => ?_) (fun q => absurd q (by decide))
      refine AX.aload_n (pc := 28) dX11_out_28 rfl ?_
      refine AX.getf (pc := 29) fX11_out_53 (lt_k c.hn (by omega)) c.dm rfl dX11_out_29 ?_
      refine AX.getf (pc := 32) fX11_out_147 (lt_k c.hn (by omega)) c.lg.1 rfl dX11_out_32 ?_
      refine AX.istore_n (pc := 35) (L' := [.ref 0, .int (nI 0), .int (sq s 12)]) dX11_out_35 (by decide) rfl ?_
      refine AX.aload_n (pc := 36) dX11_out_36 rfl ?_
      refine AX.getf (pc := 37) fX11_out_53 (lt_k c.hn (by omega)) c.dm rfl dX11_out_37 ?_
      refine AX.iload_n (pc := 40) dX11_out_40 rfl ?_
      refine AX.putf (pc := 41) (fs' := [.ref 65, .int (nI 0), .int (sq s 13), .int (sq s 14), .int (sq s 15), .int (sq s 16), .int (sq s 17), .int (sq s 18)]) fX11_out_147 rfl (lt_k c.hn (by omega)) c.lg.1 (Nat.le_of_ble_eq_true rfl) rfl rfl rfl dX11_out_41 ?_
      have sx : Same [64, 66, 67] h (xset h 64 (.inr (2, [.ref 65, .int (nI 0), .int (sq s 13), .int (sq s 14), .int (sq s 15), .int (sq s 16), .int (sq s 17), .int (sq s 18)]))) := Same.set Same.rf (by simp)
      have c1 : CSo (xset h 64 (.inr (2, [.ref 65, .int (nI 0), .int (sq s 13), .int (sq s 14), .int (sq s 15), .int (sq s 16), .int (sq s 17), .int (sq s 18)]))) (wq s (upd (sq s) 12 (nI 0))) o a b := c.leg sx ⟨(xset_same _ _ _), c.lg.2.1.same sx (by simp), ((xset_ne (by decide)).trans c.lg.2.2.1), ((xset_ne (by decide)).trans c.lg.2.2.2)⟩
      refine AX.aload_n (pc := 44) dX11_out_44 rfl ?_
      refine AX.callV (pc := 45) (M2 := M_X11_renewMinds) (As := []) (rest := []) (c_renewMinds w (xset h 64 (.inr (2, [.ref 65, .int (nI 0), .int (sq s 13), .int (sq s 14), .int (sq s 15), .int (sq s 16), .int (sq s 17), .int (sq s 18)]))) c1 l') xc_X11_out__X11_renewMinds gX11_out_X11_renewMinds (ci := 10) rfl (lt_k c.hn (by omega)) ((xset_ne (by decide)).trans c.dm) rfl (Nat.le_of_ble_eq_true rfl) dX11_out_45 ?_
      rintro _ h2 ⟨rfl, s2, c2⟩
      show AX w M_X11_out 0 0 48 [.ref 0, .int (nI 0), .int (sq s 12)] [] _ _
      refine AX.iload_n (pc := 48) dX11_out_48 rfl ?_
      refine AX.iret (pc := 49) dX11_out_49 rfl rfl (by decide) (by decide) ?_
      exact ⟨by unfold aOut; rw [if_pos h_x, if_neg (fun q => q.1 rfl)], clS_in ((sx.wide (T := [1, 3, 10, 11, 12, 26, 27, 28, 49, 57, 64, 66, 67]) (by decide)).trans (s2.wide (by decide))) (by decide), c2⟩
    have hz2 : nI xn ≠ nI 0 := fun q => hz (nI_inj (by omega) (by omega) q)
    by_cases hd : sq s 4 = nI 1 ∨ sq s 5 = nI 1 ∨ sq s 17 = nI 1
    · have en : nOut (sq s) (nI xn) = sq s := by unfold nOut; rw [if_pos h_x, if_pos ⟨hz2, hd⟩]
      rw [en] at l' ⊢
      obtain ⟨rfl, rfl, rfl⟩ := l.inj l'
      refine CA.of (by decide) rfl (fun _ => Nat.le_of_ble_eq_true rfl) ?_
      show AX w M_X11_out 0 0 0 [.ref 0, .int (nI xn), .null] [] h _
      refine AX.iload_n (pc := 0) dX11_out_0 rfl ?_
      refine AX.if_ltN (pc := 1) (tgt := 9) dX11_out_1 (by decide) (by omega) (fun q => absurd q (by omega)) (fun hc1 => ?_)
      refine AX.iload_n (pc := 4) dX11_out_4 rfl ?_
      refine AX.iconst (pc := 5) (v := nI 2) dX11_out_5 (by decide) ?_
      refine AX.icmp_leN (pc := 6) (tgt := 11) dX11_out_6 (by decide) (by omega) (by decide) (fun hc6 => ?_) (fun q => absurd q (by omega))
      refine AX.iload_n (pc := 11) dX11_out_11 rfl ?_
      refine AX.if_eqN (pc := 12) (tgt := 28) dX11_out_12 (by decide) (by omega) (fun q => absurd q (by omega)) (fun hc12 => ?_)
      refine AX.aload_n (pc := 15) dX11_out_15 rfl ?_
      refine AX.getf (pc := 16) fX11_out_53 (lt_k c.hn (by omega)) c.dm rfl dX11_out_16 ?_
      refine AX.callV (pc := 19) (M2 := M_X3_hasRestOfOne) (As := []) (rest := []) (c_hasRestOfOne w h (by have := c.hn; omega) c.lg) xc_X11_out__X3_hasRestOfOne gX11_out_X3_hasRestOfOne (ci := 2) rfl (lt_k c.hn (by omega)) c.lg.1 rfl (Nat.le_of_ble_eq_true rfl) dX11_out_19 ?_
      rintro _ h9 ⟨rfl, e9⟩
      have e9 := e9.symm
      subst e9
      rw [decide_eq_true hd]
      show AX w M_X11_out 0 0 22 [.ref 0, .int (nI xn), .null] [.int (bI true)] _ _
      refine AX.if_eqB (pc := 22) (tgt := 28) dX11_out_22 (by decide) (fun q => absurd q (by decide)) (fun hc22 => ?_)
      refine AX.bipush (pc := 25) (v := (-3)) dX11_out_25 (by decide) ?_
      refine AX.iret (pc := 27) dX11_out_27 rfl rfl (by decide) (by decide) ?_
      exact ⟨by unfold aOut; rw [if_pos h_x, if_pos ⟨hz2, hd⟩], Same.rf, c⟩
    · have en : nOut (sq s) (nI xn) = upd (sq s) 12 (nI xn) := by unfold nOut; rw [if_pos h_x, if_neg (fun q => hd q.2)]
      rw [en] at l' ⊢
      refine CA.of (by decide) rfl (fun _ => Nat.le_of_ble_eq_true rfl) ?_
      show AX w M_X11_out 0 0 0 [.ref 0, .int (nI xn), .null] [] h _
      refine AX.iload_n (pc := 0) dX11_out_0 rfl ?_
      refine AX.if_ltN (pc := 1) (tgt := 9) dX11_out_1 (by decide) (by omega) (fun q => absurd q (by omega)) (fun hc1 => ?_)
      refine AX.iload_n (pc := 4) dX11_out_4 rfl ?_
      refine AX.iconst (pc := 5) (v := nI 2) dX11_out_5 (by decide) ?_
      refine AX.icmp_leN (pc := 6) (tgt := 11) dX11_out_6 (by decide) (by omega) (by decide) (fun hc6 => ?_) (fun q => absurd q (by omega))
      refine AX.iload_n (pc := 11) dX11_out_11 rfl ?_
      refine AX.if_eqN (pc := 12) (tgt := 28) dX11_out_12 (by decide) (by omega) (fun q => absurd q (by omega)) (fun hc12 => ?_)
      refine AX.aload_n (pc := 15) dX11_out_15 rfl ?_
      refine AX.getf (pc := 16) fX11_out_53 (lt_k c.hn (by omega)) c.dm rfl dX11_out_16 ?_
      refine AX.callV (pc := 19) (M2 := M_X3_hasRestOfOne) (As := []) (rest := []) (c_hasRestOfOne w h (by have := c.hn; omega) c.lg) xc_X11_out__X3_hasRestOfOne gX11_out_X3_hasRestOfOne (ci := 2) rfl (lt_k c.hn (by omega)) c.lg.1 rfl (Nat.le_of_ble_eq_true rfl) dX11_out_19 ?_
      rintro _ h9 ⟨rfl, e9⟩
      have e9 := e9.symm
      subst e9
      rw [decide_eq_false hd]
      show AX w M_X11_out 0 0 22 [.ref 0, .int (nI xn), .null] [.int (bI false)] _ _
      refine AX.if_eqB (pc := 22) (tgt := 28) dX11_out_22 (by decide) (fun hc22 => ?_) (fun q => absurd q (by decide))
      refine AX.aload_n (pc := 28) dX11_out_28 rfl ?_
      refine AX.getf (pc := 29) fX11_out_53 (lt_k c.hn (by omega)) c.dm rfl dX11_out_29 ?_
      refine AX.getf (pc := 32) fX11_out_147 (lt_k c.hn (by omega)) c.lg.1 rfl dX11_out_32 ?_
      refine AX.istore_n (pc := 35) (L' := [.ref 0, .int (nI xn), .int (sq s 12)]) dX11_out_35 (by decide) rfl ?_
      refine AX.aload_n (pc := 36) dX11_out_36 rfl ?_
      refine AX.getf (pc := 37) fX11_out_53 (lt_k c.hn (by omega)) c.dm rfl dX11_out_37 ?_
      refine AX.iload_n (pc := 40) dX11_out_40 rfl ?_
      refine AX.putf (pc := 41) (fs' := [.ref 65, .int (nI xn), .int (sq s 13), .int (sq s 14), .int (sq s 15), .int (sq s 16), .int (sq s 17), .int (sq s 18)]) fX11_out_147 rfl (lt_k c.hn (by omega)) c.lg.1 (Nat.le_of_ble_eq_true rfl) rfl rfl rfl dX11_out_41 ?_
      have sx : Same [64, 66, 67] h (xset h 64 (.inr (2, [.ref 65, .int (nI xn), .int (sq s 13), .int (sq s 14), .int (sq s 15), .int (sq s 16), .int (sq s 17), .int (sq s 18)]))) := Same.set Same.rf (by simp)
      have c1 : CSo (xset h 64 (.inr (2, [.ref 65, .int (nI xn), .int (sq s 13), .int (sq s 14), .int (sq s 15), .int (sq s 16), .int (sq s 17), .int (sq s 18)]))) (wq s (upd (sq s) 12 (nI xn))) o a b := c.leg sx ⟨(xset_same _ _ _), c.lg.2.1.same sx (by simp), ((xset_ne (by decide)).trans c.lg.2.2.1), ((xset_ne (by decide)).trans c.lg.2.2.2)⟩
      refine AX.aload_n (pc := 44) dX11_out_44 rfl ?_
      refine AX.callV (pc := 45) (M2 := M_X11_renewMinds) (As := []) (rest := []) (c_renewMinds w (xset h 64 (.inr (2, [.ref 65, .int (nI xn), .int (sq s 13), .int (sq s 14), .int (sq s 15), .int (sq s 16), .int (sq s 17), .int (sq s 18)]))) c1 l') xc_X11_out__X11_renewMinds gX11_out_X11_renewMinds (ci := 10) rfl (lt_k c.hn (by omega)) ((xset_ne (by decide)).trans c.dm) rfl (Nat.le_of_ble_eq_true rfl) dX11_out_45 ?_
      rintro _ h2 ⟨rfl, s2, c2⟩
      show AX w M_X11_out 0 0 48 [.ref 0, .int (nI xn), .int (sq s 12)] [] _ _
      refine AX.iload_n (pc := 48) dX11_out_48 rfl ?_
      refine AX.iret (pc := 49) dX11_out_49 rfl rfl (by decide) (by decide) ?_
      exact ⟨by unfold aOut; rw [if_pos h_x, if_neg (fun q => hd q.2)], clS_in ((sx.wide (T := [1, 3, 10, 11, 12, 26, 27, 28, 49, 57, 64, 66, 67]) (by decide)).trans (s2.wide (by decide))) (by decide), c2⟩
  · rcases nR h_x with hl | hu
    · refine CA.of (by decide) rfl (fun _ => Nat.le_of_ble_eq_true rfl) ?_
      show AX w M_X11_out 0 0 0 [.ref 0, .int x, .null] [] h _
      refine AX.iload_n (pc := 0) dX11_out_0 rfl ?_
      refine AX.if_lt (pc := 1) (tgt := 9) dX11_out_1 (by decide) (fun hc1 => ?_) (fun q => absurd (ltT rfl i0 (by omega)) q)
      refine AX.iconst (pc := 9) (v := (-1)) dX11_out_9 (by decide) ?_
      refine AX.iret (pc := 10) dX11_out_10 rfl rfl (by decide) (by decide) ?_
      have en : nOut (sq s) x = sq s := by unfold nOut; rw [if_neg h_x]
      rw [en] at l' ⊢
      obtain ⟨rfl, rfl, rfl⟩ := l.inj l'
      exact ⟨by unfold aOut; rw [if_neg h_x]; try rfl, Same.rf, c⟩
    · refine CA.of (by decide) rfl (fun _ => Nat.le_of_ble_eq_true rfl) ?_
      show AX w M_X11_out 0 0 0 [.ref 0, .int x, .null] [] h _
      refine AX.iload_n (pc := 0) dX11_out_0 rfl ?_
      refine AX.if_lt (pc := 1) (tgt := 9) dX11_out_1 (by decide) (fun q => absurd q (ltF rfl i0 (by omega))) (fun hc1 => ?_)
      refine AX.iload_n (pc := 4) dX11_out_4 rfl ?_
      refine AX.iconst (pc := 5) (v := nI 2) dX11_out_5 (by decide) ?_
      refine AX.icmp_le (pc := 6) (tgt := 11) dX11_out_6 (by decide) (fun q => absurd q (leF rfl (iN 2 (by omega)) (by omega))) (fun hc6 => ?_)
      refine AX.iconst (pc := 9) (v := (-1)) dX11_out_9 (by decide) ?_
      refine AX.iret (pc := 10) dX11_out_10 rfl rfl (by decide) (by decide) ?_
      have en : nOut (sq s) x = sq s := by unfold nOut; rw [if_neg h_x]
      rw [en] at l' ⊢
      obtain ⟨rfl, rfl, rfl⟩ := l.inj l'
      exact ⟨by unfold aOut; rw [if_neg h_x]; try rfl, Same.rf, c⟩
