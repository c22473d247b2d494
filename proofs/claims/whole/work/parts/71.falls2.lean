/-! ===== THE REFERENCE: the next rest; FALLS ===== -/
theorem iA.get {h : XH} {a N : Nat} {g : Nat → Int32} (H : iA h a N g) : ∃ f : Nat → Int32, h.2 a = .inl (0, N, .inl f) ∧ ∀ j, j < N → f j = g j := H
theorem upd_self (f : Nat → Int32) (k : Nat) : upd f k (f k) = f := by
  funext j
  simp only [upd]
  split
  · rename_i e; rw [e]
  · rfl
theorem c_mLeast (w : XW) (h : XH) {v q : Nat → Int32} {o : Nat} (hn : 118 ≤ h.1) (hO : MO h v) (hN : iA h 89 19 q) (ho12 : q 12 = nI o) (ho : o ≤ 2) : CA w M_X12_leastRest [.ref 87] h (fun v' h'' => v' = some (.int (nI (leN o))) ∧ h'' = h) := by
  refine CA.of (by decide) rfl (fun _ => Nat.le_of_ble_eq_true rfl) ?_
  obtain ⟨f89, e89, q89⟩ := id hN
  show AX w M_X12_leastRest 0 0 0 [.ref 87] [] h _
  refine AX.aload_n (pc := 0) dX12_leastRest_0 rfl ?_
  refine AX.getf (pc := 1) fX12_leastRest_13 (lt_k hn (by omega)) hO rfl dX12_leastRest_1 ?_
  refine AX.bipush (pc := 4) (v := nI 12) dX12_leastRest_4 (by decide) ?_
  refine AX.ialdN (pc := 6) (i := 12) (v := (nI o)) (lt_k hn (by omega)) e89 (by decide) (by decide) ((q89 12 (by decide)).trans ho12) dX12_leastRest_6 ?_
  refine AX.if_neN (pc := 7) (tgt := 14) dX12_leastRest_7 (by decide) (by omega) (fun hc7 => ?_) (fun hc7 => ?_)
  · refine AX.iconst (pc := 14) (v := nI 2) dX12_leastRest_14 (by decide) ?_
    refine AX.iret (pc := 15) dX12_leastRest_15 rfl rfl (by decide) (by decide) ?_
    exact ⟨sI (by unfold leN; split <;> omega), rfl⟩
  · refine AX.iconst (pc := 10) (v := nI 1) dX12_leastRest_10 (by decide) ?_
    refine AX.goto (pc := 11) (tgt := 15) dX12_leastRest_11 (by decide) ?_
    refine AX.iret (pc := 15) dX12_leastRest_15 rfl rfl (by decide) (by decide) ?_
    exact ⟨sI (by unfold leN; split <;> omega), rfl⟩
theorem c_nextRest (w : XW) (h : XH) {v q : Nat → Int32} {o : Nat} (hn : 118 ≤ h.1) (hO : MO h v) (hN : iA h 89 19 q) (ho12 : q 12 = nI o) (ho : o ≤ 2) (r s : Nat) (hr : r < 1000000) (hs : s < 63) : CE w M_X12_nextRest [.ref 87, .int (nI r), .int (nI s)] h (some (.int (oI (nxN o r s)))) h := by
  refine CA.of (by decide) rfl (fun _ => Nat.le_of_ble_eq_true rfl) ?_
  obtain ⟨f89, e89, q89⟩ := id hN
  have hsc := scN_le s hs
  rcases Nat.lt_or_ge r (scN s) with hlt | hge
  · show AX w M_X12_nextRest 0 0 0 [.ref 87, .int (nI r), .int (nI s), .null, .null, .null] [] h _
    refine AX.iload_n (pc := 0) dX12_nextRest_0 rfl ?_
    refine AX.iload_n (pc := 1) dX12_nextRest_1 rfl ?_
    refine AX.callS (pc := 2) (M2 := M_X12_scoreOf) (As := [.int (nI s)]) (rest := [.int (nI r)]) (c_mScore w h s hs) xc_X12_nextRest__X12_scoreOf gX12_nextRest_X12_scoreOf rfl (Nat.le_of_ble_eq_true rfl) dX12_nextRest_2 ?_
    rintro _ h9 ⟨rfl, e9⟩
    have e9 := e9.symm
    subst e9
    show AX w M_X12_nextRest 0 0 5 [.ref 87, .int (nI r), .int (nI s), .null, .null, .null] [.int (nI (scN s)), .int (nI r)] _ _
    refine AX.isub (pc := 5) dX12_nextRest_5 ?_
    refine AX.istore_n (pc := 6) (L' := [.ref 87, .int (nI r), .int (nI s), .int (nI r - nI (scN s)), .null, .null]) dX12_nextRest_6 (by decide) rfl ?_
    refine AX.aload_n (pc := 7) dX12_nextRest_7 rfl ?_
    refine AX.getf (pc := 8) fX12_nextRest_13 (lt_k hn (by omega)) hO rfl dX12_nextRest_8 ?_
    refine AX.bipush (pc := 11) (v := nI 12) dX12_nextRest_11 (by decide) ?_
    refine AX.ialdN (pc := 13) (i := 12) (v := (nI o)) (lt_k hn (by omega)) e89 (by decide) (by decide) ((q89 12 (by decide)).trans ho12) dX12_nextRest_13 ?_
    refine AX.if_eqN (pc := 14) (tgt := 44) dX12_nextRest_14 (by decide) (by omega) (fun hc14 => ?_) (fun hc14 => ?_)
    · refine AX.iconst (pc := 44) (v := nI 1) dX12_nextRest_44 (by decide) ?_
      refine AX.goto (pc := 45) (tgt := 49) dX12_nextRest_45 (by decide) ?_
      refine AX.istore (pc := 49) (L' := [.ref 87, .int (nI r), .int (nI s), .int (nI r - nI (scN s)), .int (nI 1), .null]) dX12_nextRest_49 (by decide) rfl ?_
      refine AX.iload_n (pc := 51) dX12_nextRest_51 rfl ?_
      refine AX.if_lt (pc := 52) (tgt := 79) dX12_nextRest_52 (by decide) (fun hc52 => ?_) (fun q => absurd (pk_sneg (by omega) hlt) q)
      refine AX.iconst (pc := 79) (v := nI 1) dX12_nextRest_79 (by decide) ?_
      refine AX.goto (pc := 80) (tgt := 84) dX12_nextRest_80 (by decide) ?_
      refine AX.istore (pc := 84) (L' := [.ref 87, .int (nI r), .int (nI s), .int (nI r - nI (scN s)), .int (nI 1), .int (nI 1)]) dX12_nextRest_84 (by decide) rfl ?_
      refine AX.iload (pc := 86) dX12_nextRest_86 rfl ?_
      refine AX.if_eqN (pc := 88) (tgt := 96) dX12_nextRest_88 (by decide) (by decide) (fun q => absurd q (by decide)) (fun hc88 => ?_)
      refine AX.bipush (pc := 91) (v := (-5)) dX12_nextRest_91 (by decide) ?_
      refine AX.goto (pc := 93) (tgt := 97) dX12_nextRest_93 (by decide) ?_
      refine AX.iret (pc := 97) dX12_nextRest_97 rfl rfl (by decide) (by decide) ?_
      exact ⟨by rw [nx_none hlt]; rfl, rfl⟩
    · refine AX.iload_n (pc := 17) dX12_nextRest_17 rfl ?_
      refine AX.iconst (pc := 18) (v := nI 2) dX12_nextRest_18 (by decide) ?_
      refine AX.callS (pc := 19) (M2 := M_X12_isUnder) (As := [.int (nI s), .int (nI 2)]) (rest := []) (c_mUnder w h s 2 hs (by decide)) xc_X12_nextRest__X12_isUnder gX12_nextRest_X12_isUnder rfl (Nat.le_of_ble_eq_true rfl) dX12_nextRest_19 ?_
      rintro _ h9 ⟨rfl, e9⟩
      have e9 := e9.symm
      subst e9
      show AX w M_X12_nextRest 0 0 22 [.ref 87, .int (nI r), .int (nI s), .int (nI r - nI (scN s)), .null, .null] [.int (bI (unN s 2))] _ _
      refine AX.if_neB (pc := 22) (tgt := 44) dX12_nextRest_22 (by decide) (fun hc22 => ?_) (fun hc22 => ?_)
      · refine AX.iconst (pc := 44) (v := nI 1) dX12_nextRest_44 (by decide) ?_
        refine AX.goto (pc := 45) (tgt := 49) dX12_nextRest_45 (by decide) ?_
        refine AX.istore (pc := 49) (L' := [.ref 87, .int (nI r), .int (nI s), .int (nI r - nI (scN s)), .int (nI 1), .null]) dX12_nextRest_49 (by decide) rfl ?_
        refine AX.iload_n (pc := 51) dX12_nextRest_51 rfl ?_
        refine AX.if_lt (pc := 52) (tgt := 79) dX12_nextRest_52 (by decide) (fun hc52 => ?_) (fun q => absurd (pk_sneg (by omega) hlt) q)
        refine AX.iconst (pc := 79) (v := nI 1) dX12_nextRest_79 (by decide) ?_
        refine AX.goto (pc := 80) (tgt := 84) dX12_nextRest_80 (by decide) ?_
        refine AX.istore (pc := 84) (L' := [.ref 87, .int (nI r), .int (nI s), .int (nI r - nI (scN s)), .int (nI 1), .int (nI 1)]) dX12_nextRest_84 (by decide) rfl ?_
        refine AX.iload (pc := 86) dX12_nextRest_86 rfl ?_
        refine AX.if_eqN (pc := 88) (tgt := 96) dX12_nextRest_88 (by decide) (by decide) (fun q => absurd q (by decide)) (fun hc88 => ?_)
        refine AX.bipush (pc := 91) (v := (-5)) dX12_nextRest_91 (by decide) ?_
        refine AX.goto (pc := 93) (tgt := 97) dX12_nextRest_93 (by decide) ?_
        refine AX.iret (pc := 97) dX12_nextRest_97 rfl rfl (by decide) (by decide) ?_
        exact ⟨by rw [nx_none hlt]; rfl, rfl⟩
      · refine AX.aload_n (pc := 25) dX12_nextRest_25 rfl ?_
        refine AX.getf (pc := 26) fX12_nextRest_13 (lt_k hn (by omega)) hO rfl dX12_nextRest_26 ?_
        refine AX.bipush (pc := 29) (v := nI 12) dX12_nextRest_29 (by decide) ?_
        refine AX.ialdN (pc := 31) (i := 12) (v := (nI o)) (lt_k hn (by omega)) e89 (by decide) (by decide) ((q89 12 (by decide)).trans ho12) dX12_nextRest_31 ?_
        refine AX.iconst (pc := 32) (v := nI 2) dX12_nextRest_32 (by decide) ?_
        refine AX.icmp_neN (pc := 33) (tgt := 48) dX12_nextRest_33 (by decide) (by omega) (by decide) (fun hc33 => ?_) (fun hc33 => ?_)
        · refine AX.iconst (pc := 48) (v := nI 0) dX12_nextRest_48 (by decide) ?_
          refine AX.istore (pc := 49) (L' := [.ref 87, .int (nI r), .int (nI s), .int (nI r - nI (scN s)), .int (nI 0), .null]) dX12_nextRest_49 (by decide) rfl ?_
          refine AX.iload_n (pc := 51) dX12_nextRest_51 rfl ?_
          refine AX.if_lt (pc := 52) (tgt := 79) dX12_nextRest_52 (by decide) (fun hc52 => ?_) (fun q => absurd (pk_sneg (by omega) hlt) q)
          refine AX.iconst (pc := 79) (v := nI 1) dX12_nextRest_79 (by decide) ?_
          refine AX.goto (pc := 80) (tgt := 84) dX12_nextRest_80 (by decide) ?_
          refine AX.istore (pc := 84) (L' := [.ref 87, .int (nI r), .int (nI s), .int (nI r - nI (scN s)), .int (nI 0), .int (nI 1)]) dX12_nextRest_84 (by decide) rfl ?_
          refine AX.iload (pc := 86) dX12_nextRest_86 rfl ?_
          refine AX.if_eqN (pc := 88) (tgt := 96) dX12_nextRest_88 (by decide) (by decide) (fun q => absurd q (by decide)) (fun hc88 => ?_)
          refine AX.bipush (pc := 91) (v := (-5)) dX12_nextRest_91 (by decide) ?_
          refine AX.goto (pc := 93) (tgt := 97) dX12_nextRest_93 (by decide) ?_
          refine AX.iret (pc := 97) dX12_nextRest_97 rfl rfl (by decide) (by decide) ?_
          exact ⟨by rw [nx_none hlt]; rfl, rfl⟩
        · refine AX.iload_n (pc := 36) dX12_nextRest_36 rfl ?_
          refine AX.iconst (pc := 37) (v := nI 3) dX12_nextRest_37 (by decide) ?_
          refine AX.callS (pc := 38) (M2 := M_X12_isUnder) (As := [.int (nI s), .int (nI 3)]) (rest := []) (c_mUnder w h s 3 hs (by decide)) xc_X12_nextRest__X12_isUnder gX12_nextRest_X12_isUnder rfl (Nat.le_of_ble_eq_true rfl) dX12_nextRest_38 ?_
          rintro _ h9 ⟨rfl, e9⟩
          have e9 := e9.symm
          subst e9
          show AX w M_X12_nextRest 0 0 41 [.ref 87, .int (nI r), .int (nI s), .int (nI r - nI (scN s)), .null, .null] [.int (bI (unN s 3))] _ _
          refine AX.if_eqB (pc := 41) (tgt := 48) dX12_nextRest_41 (by decide) (fun hc41 => ?_) (fun hc41 => ?_)
          · refine AX.iconst (pc := 48) (v := nI 0) dX12_nextRest_48 (by decide) ?_
            refine AX.istore (pc := 49) (L' := [.ref 87, .int (nI r), .int (nI s), .int (nI r - nI (scN s)), .int (nI 0), .null]) dX12_nextRest_49 (by decide) rfl ?_
            refine AX.iload_n (pc := 51) dX12_nextRest_51 rfl ?_
            refine AX.if_lt (pc := 52) (tgt := 79) dX12_nextRest_52 (by decide) (fun hc52 => ?_) (fun q => absurd (pk_sneg (by omega) hlt) q)
            refine AX.iconst (pc := 79) (v := nI 1) dX12_nextRest_79 (by decide) ?_
            refine AX.goto (pc := 80) (tgt := 84) dX12_nextRest_80 (by decide) ?_
            refine AX.istore (pc := 84) (L' := [.ref 87, .int (nI r), .int (nI s), .int (nI r - nI (scN s)), .int (nI 0), .int (nI 1)]) dX12_nextRest_84 (by decide) rfl ?_
            refine AX.iload (pc := 86) dX12_nextRest_86 rfl ?_
            refine AX.if_eqN (pc := 88) (tgt := 96) dX12_nextRest_88 (by decide) (by decide) (fun q => absurd q (by decide)) (fun hc88 => ?_)
            refine AX.bipush (pc := 91) (v := (-5)) dX12_nextRest_91 (by decide) ?_
            refine AX.goto (pc := 93) (tgt := 97) dX12_nextRest_93 (by decide) ?_
            refine AX.iret (pc := 97) dX12_nextRest_97 rfl rfl (by decide) (by decide) ?_
            exact ⟨by rw [nx_none hlt]; rfl, rfl⟩
          · refine AX.iconst (pc := 44) (v := nI 1) dX12_nextRest_44 (by decide) ?_
            refine AX.goto (pc := 45) (tgt := 49) dX12_nextRest_45 (by decide) ?_
            refine AX.istore (pc := 49) (L' := [.ref 87, .int (nI r), .int (nI s), .int (nI r - nI (scN s)), .int (nI 1), .null]) dX12_nextRest_49 (by decide) rfl ?_
            refine AX.iload_n (pc := 51) dX12_nextRest_51 rfl ?_
            refine AX.if_lt (pc := 52) (tgt := 79) dX12_nextRest_52 (by decide) (fun hc52 => ?_) (fun q => absurd (pk_sneg (by omega) hlt) q)
            refine AX.iconst (pc := 79) (v := nI 1) dX12_nextRest_79 (by decide) ?_
            refine AX.goto (pc := 80) (tgt := 84) dX12_nextRest_80 (by decide) ?_
            refine AX.istore (pc := 84) (L' := [.ref 87, .int (nI r), .int (nI s), .int (nI r - nI (scN s)), .int (nI 1), .int (nI 1)]) dX12_nextRest_84 (by decide) rfl ?_
            refine AX.iload (pc := 86) dX12_nextRest_86 rfl ?_
            refine AX.if_eqN (pc := 88) (tgt := 96) dX12_nextRest_88 (by decide) (by decide) (fun q => absurd q (by decide)) (fun hc88 => ?_)
            refine AX.bipush (pc := 91) (v := (-5)) dX12_nextRest_91 (by decide) ?_
            refine AX.goto (pc := 93) (tgt := 97) dX12_nextRest_93 (by decide) ?_
            refine AX.iret (pc := 97) dX12_nextRest_97 rfl rfl (by decide) (by decide) ?_
            exact ⟨by rw [nx_none hlt]; rfl, rfl⟩
  · show AX w M_X12_nextRest 0 0 0 [.ref 87, .int (nI r), .int (nI s), .null, .null, .null] [] h _
    refine AX.iload_n (pc := 0) dX12_nextRest_0 rfl ?_
    refine AX.iload_n (pc := 1) dX12_nextRest_1 rfl ?_
    refine AX.callS (pc := 2) (M2 := M_X12_scoreOf) (As := [.int (nI s)]) (rest := [.int (nI r)]) (c_mScore w h s hs) xc_X12_nextRest__X12_scoreOf gX12_nextRest_X12_scoreOf rfl (Nat.le_of_ble_eq_true rfl) dX12_nextRest_2 ?_
    rintro _ h9 ⟨rfl, e9⟩
    have e9 := e9.symm
    subst e9
    show AX w M_X12_nextRest 0 0 5 [.ref 87, .int (nI r), .int (nI s), .null, .null, .null] [.int (nI (scN s)), .int (nI r)] _ _
    refine AX.isubN (pc := 5) (c := r - scN s) dX12_nextRest_5 (by omega) ?_
    refine AX.istore_n (pc := 6) (L' := [.ref 87, .int (nI r), .int (nI s), .int (nI (r - scN s)), .null, .null]) dX12_nextRest_6 (by decide) rfl ?_
    refine AX.aload_n (pc := 7) dX12_nextRest_7 rfl ?_
    refine AX.getf (pc := 8) fX12_nextRest_13 (lt_k hn (by omega)) hO rfl dX12_nextRest_8 ?_
    refine AX.bipush (pc := 11) (v := nI 12) dX12_nextRest_11 (by decide) ?_
    refine AX.ialdN (pc := 13) (i := 12) (v := (nI o)) (lt_k hn (by omega)) e89 (by decide) (by decide) ((q89 12 (by decide)).trans ho12) dX12_nextRest_13 ?_
    refine AX.if_eqN (pc := 14) (tgt := 44) dX12_nextRest_14 (by decide) (by omega) (fun hc14 => ?_) (fun hc14 => ?_)
    · refine AX.iconst (pc := 44) (v := nI 1) dX12_nextRest_44 (by decide) ?_
      refine AX.goto (pc := 45) (tgt := 49) dX12_nextRest_45 (by decide) ?_
      refine AX.istore (pc := 49) (L' := [.ref 87, .int (nI r), .int (nI s), .int (nI (r - scN s)), .int (nI 1), .null]) dX12_nextRest_49 (by decide) rfl ?_
      refine AX.iload_n (pc := 51) dX12_nextRest_51 rfl ?_
      refine AX.if_ltN (pc := 52) (tgt := 79) dX12_nextRest_52 (by decide) (by omega) (fun q => absurd q (by omega)) (fun hc52 => ?_)
      refine AX.iload_n (pc := 55) dX12_nextRest_55 rfl ?_
      refine AX.if_neN (pc := 56) (tgt := 64) dX12_nextRest_56 (by decide) (by omega) (fun hc56 => ?_) (fun hc56 => ?_)
      · refine AX.iload_n (pc := 64) dX12_nextRest_64 rfl ?_
        refine AX.iconst (pc := 65) (v := nI 1) dX12_nextRest_65 (by decide) ?_
        refine AX.icmp_neN (pc := 66) (tgt := 83) dX12_nextRest_66 (by decide) (by omega) (by decide) (fun hc66 => ?_) (fun hc66 => ?_)
        · refine AX.iconst (pc := 83) (v := nI 0) dX12_nextRest_83 (by decide) ?_
          refine AX.istore (pc := 84) (L' := [.ref 87, .int (nI r), .int (nI s), .int (nI (r - scN s)), .int (nI 1), .int (nI 0)]) dX12_nextRest_84 (by decide) rfl ?_
          refine AX.iload (pc := 86) dX12_nextRest_86 rfl ?_
          refine AX.if_eqN (pc := 88) (tgt := 96) dX12_nextRest_88 (by decide) (by decide) (fun hc88 => ?_) (fun q => absurd q (by decide))
          refine AX.iload_n (pc := 96) dX12_nextRest_96 rfl ?_
          refine AX.iret (pc := 97) dX12_nextRest_97 rfl rfl (by decide) (by decide) ?_
          exact ⟨by rw [nx_some hge (by rintro ⟨q1, q4⟩; first | omega | (unfold enN at q4; simp_all)) (by omega)]; rfl, rfl⟩
        · refine AX.aload_n (pc := 69) dX12_nextRest_69 rfl ?_
          refine AX.getf (pc := 70) fX12_nextRest_13 (lt_k hn (by omega)) hO rfl dX12_nextRest_70 ?_
          refine AX.bipush (pc := 73) (v := nI 12) dX12_nextRest_73 (by decide) ?_
          refine AX.ialdN (pc := 75) (i := 12) (v := (nI o)) (lt_k hn (by omega)) e89 (by decide) (by decide) ((q89 12 (by decide)).trans ho12) dX12_nextRest_75 ?_
          refine AX.if_eqN (pc := 76) (tgt := 83) dX12_nextRest_76 (by decide) (by omega) (fun hc76 => ?_) (fun hc76 => ?_)
          · refine AX.iconst (pc := 83) (v := nI 0) dX12_nextRest_83 (by decide) ?_
            refine AX.istore (pc := 84) (L' := [.ref 87, .int (nI r), .int (nI s), .int (nI (r - scN s)), .int (nI 1), .int (nI 0)]) dX12_nextRest_84 (by decide) rfl ?_
            refine AX.iload (pc := 86) dX12_nextRest_86 rfl ?_
            refine AX.if_eqN (pc := 88) (tgt := 96) dX12_nextRest_88 (by decide) (by decide) (fun hc88 => ?_) (fun q => absurd q (by decide))
            refine AX.iload_n (pc := 96) dX12_nextRest_96 rfl ?_
            refine AX.iret (pc := 97) dX12_nextRest_97 rfl rfl (by decide) (by decide) ?_
            exact ⟨by rw [nx_some hge (by rintro ⟨q1, q4⟩; first | omega | (unfold enN at q4; simp_all)) (by omega)]; rfl, rfl⟩
          · refine AX.iconst (pc := 79) (v := nI 1) dX12_nextRest_79 (by decide) ?_
            refine AX.goto (pc := 80) (tgt := 84) dX12_nextRest_80 (by decide) ?_
            refine AX.istore (pc := 84) (L' := [.ref 87, .int (nI r), .int (nI s), .int (nI (r - scN s)), .int (nI 1), .int (nI 1)]) dX12_nextRest_84 (by decide) rfl ?_
            refine AX.iload (pc := 86) dX12_nextRest_86 rfl ?_
            refine AX.if_eqN (pc := 88) (tgt := 96) dX12_nextRest_88 (by decide) (by decide) (fun q => absurd q (by decide)) (fun hc88 => ?_)
            refine AX.bipush (pc := 91) (v := (-5)) dX12_nextRest_91 (by decide) ?_
            refine AX.goto (pc := 93) (tgt := 97) dX12_nextRest_93 (by decide) ?_
            refine AX.iret (pc := 97) dX12_nextRest_97 rfl rfl (by decide) (by decide) ?_
            exact ⟨by rw [show nxN o r s = none from by first | exact nx_b1 ⟨by omega, by unfold enN; simp_all⟩ | exact nx_b2 ⟨by omega, by omega⟩]; rfl, rfl⟩
      · refine AX.iload (pc := 59) dX12_nextRest_59 rfl ?_
        refine AX.if_eqN (pc := 61) (tgt := 79) dX12_nextRest_61 (by decide) (by decide) (fun q => absurd q (by decide)) (fun hc61 => ?_)
        refine AX.iload_n (pc := 64) dX12_nextRest_64 rfl ?_
        refine AX.iconst (pc := 65) (v := nI 1) dX12_nextRest_65 (by decide) ?_
        refine AX.icmp_neN (pc := 66) (tgt := 83) dX12_nextRest_66 (by decide) (by omega) (by decide) (fun hc66 => ?_) (fun hc66 => ?_)
        · refine AX.iconst (pc := 83) (v := nI 0) dX12_nextRest_83 (by decide) ?_
          refine AX.istore (pc := 84) (L' := [.ref 87, .int (nI r), .int (nI s), .int (nI (r - scN s)), .int (nI 1), .int (nI 0)]) dX12_nextRest_84 (by decide) rfl ?_
          refine AX.iload (pc := 86) dX12_nextRest_86 rfl ?_
          refine AX.if_eqN (pc := 88) (tgt := 96) dX12_nextRest_88 (by decide) (by decide) (fun hc88 => ?_) (fun q => absurd q (by decide))
          refine AX.iload_n (pc := 96) dX12_nextRest_96 rfl ?_
          refine AX.iret (pc := 97) dX12_nextRest_97 rfl rfl (by decide) (by decide) ?_
          exact ⟨by rw [nx_some hge (by rintro ⟨q1, q4⟩; first | omega | (unfold enN at q4; simp_all)) (by omega)]; rfl, rfl⟩
        · refine AX.aload_n (pc := 69) dX12_nextRest_69 rfl ?_
          refine AX.getf (pc := 70) fX12_nextRest_13 (lt_k hn (by omega)) hO rfl dX12_nextRest_70 ?_
          refine AX.bipush (pc := 73) (v := nI 12) dX12_nextRest_73 (by decide) ?_
          refine AX.ialdN (pc := 75) (i := 12) (v := (nI o)) (lt_k hn (by omega)) e89 (by decide) (by decide) ((q89 12 (by decide)).trans ho12) dX12_nextRest_75 ?_
          refine AX.if_eqN (pc := 76) (tgt := 83) dX12_nextRest_76 (by decide) (by omega) (fun hc76 => ?_) (fun hc76 => ?_)
          · refine AX.iconst (pc := 83) (v := nI 0) dX12_nextRest_83 (by decide) ?_
            refine AX.istore (pc := 84) (L' := [.ref 87, .int (nI r), .int (nI s), .int (nI (r - scN s)), .int (nI 1), .int (nI 0)]) dX12_nextRest_84 (by decide) rfl ?_
            refine AX.iload (pc := 86) dX12_nextRest_86 rfl ?_
            refine AX.if_eqN (pc := 88) (tgt := 96) dX12_nextRest_88 (by decide) (by decide) (fun hc88 => ?_) (fun q => absurd q (by decide))
            refine AX.iload_n (pc := 96) dX12_nextRest_96 rfl ?_
            refine AX.iret (pc := 97) dX12_nextRest_97 rfl rfl (by decide) (by decide) ?_
            exact ⟨by rw [nx_some hge (by rintro ⟨q1, q4⟩; first | omega | (unfold enN at q4; simp_all)) (by omega)]; rfl, rfl⟩
          · refine AX.iconst (pc := 79) (v := nI 1) dX12_nextRest_79 (by decide) ?_
            refine AX.goto (pc := 80) (tgt := 84) dX12_nextRest_80 (by decide) ?_
            refine AX.istore (pc := 84) (L' := [.ref 87, .int (nI r), .int (nI s), .int (nI (r - scN s)), .int (nI 1), .int (nI 1)]) dX12_nextRest_84 (by decide) rfl ?_
            refine AX.iload (pc := 86) dX12_nextRest_86 rfl ?_
            refine AX.if_eqN (pc := 88) (tgt := 96) dX12_nextRest_88 (by decide) (by decide) (fun q => absurd q (by decide)) (fun hc88 => ?_)
            refine AX.bipush (pc := 91) (v := (-5)) dX12_nextRest_91 (by decide) ?_
            refine AX.goto (pc := 93) (tgt := 97) dX12_nextRest_93 (by decide) ?_
            refine AX.iret (pc := 97) dX12_nextRest_97 rfl rfl (by decide) (by decide) ?_
            exact ⟨by rw [show nxN o r s = none from by first | exact nx_b1 ⟨by omega, by unfold enN; simp_all⟩ | exact nx_b2 ⟨by omega, by omega⟩]; rfl, rfl⟩
    · refine AX.iload_n (pc := 17) dX12_nextRest_17 rfl ?_
      refine AX.iconst (pc := 18) (v := nI 2) dX12_nextRest_18 (by decide) ?_
      refine AX.callS (pc := 19) (M2 := M_X12_isUnder) (As := [.int (nI s), .int (nI 2)]) (rest := []) (c_mUnder w h s 2 hs (by decide)) xc_X12_nextRest__X12_isUnder gX12_nextRest_X12_isUnder rfl (Nat.le_of_ble_eq_true rfl) dX12_nextRest_19 ?_
      rintro _ h9 ⟨rfl, e9⟩
      have e9 := e9.symm
      subst e9
      show AX w M_X12_nextRest 0 0 22 [.ref 87, .int (nI r), .int (nI s), .int (nI (r - scN s)), .null, .null] [.int (bI (unN s 2))] _ _
      refine AX.if_neB (pc := 22) (tgt := 44) dX12_nextRest_22 (by decide) (fun hc22 => ?_) (fun hc22 => ?_)
      · refine AX.iconst (pc := 44) (v := nI 1) dX12_nextRest_44 (by decide) ?_
        refine AX.goto (pc := 45) (tgt := 49) dX12_nextRest_45 (by decide) ?_
        refine AX.istore (pc := 49) (L' := [.ref 87, .int (nI r), .int (nI s), .int (nI (r - scN s)), .int (nI 1), .null]) dX12_nextRest_49 (by decide) rfl ?_
        refine AX.iload_n (pc := 51) dX12_nextRest_51 rfl ?_
        refine AX.if_ltN (pc := 52) (tgt := 79) dX12_nextRest_52 (by decide) (by omega) (fun q => absurd q (by omega)) (fun hc52 => ?_)
        refine AX.iload_n (pc := 55) dX12_nextRest_55 rfl ?_
        refine AX.if_neN (pc := 56) (tgt := 64) dX12_nextRest_56 (by decide) (by omega) (fun hc56 => ?_) (fun hc56 => ?_)
        · refine AX.iload_n (pc := 64) dX12_nextRest_64 rfl ?_
          refine AX.iconst (pc := 65) (v := nI 1) dX12_nextRest_65 (by decide) ?_
          refine AX.icmp_neN (pc := 66) (tgt := 83) dX12_nextRest_66 (by decide) (by omega) (by decide) (fun hc66 => ?_) (fun hc66 => ?_)
          · refine AX.iconst (pc := 83) (v := nI 0) dX12_nextRest_83 (by decide) ?_
            refine AX.istore (pc := 84) (L' := [.ref 87, .int (nI r), .int (nI s), .int (nI (r - scN s)), .int (nI 1), .int (nI 0)]) dX12_nextRest_84 (by decide) rfl ?_
            refine AX.iload (pc := 86) dX12_nextRest_86 rfl ?_
            refine AX.if_eqN (pc := 88) (tgt := 96) dX12_nextRest_88 (by decide) (by decide) (fun hc88 => ?_) (fun q => absurd q (by decide))
            refine AX.iload_n (pc := 96) dX12_nextRest_96 rfl ?_
            refine AX.iret (pc := 97) dX12_nextRest_97 rfl rfl (by decide) (by decide) ?_
            exact ⟨by rw [nx_some hge (by rintro ⟨q1, q4⟩; first | omega | (unfold enN at q4; simp_all)) (by omega)]; rfl, rfl⟩
          · refine AX.aload_n (pc := 69) dX12_nextRest_69 rfl ?_
            refine AX.getf (pc := 70) fX12_nextRest_13 (lt_k hn (by omega)) hO rfl dX12_nextRest_70 ?_
            refine AX.bipush (pc := 73) (v := nI 12) dX12_nextRest_73 (by decide) ?_
            refine AX.ialdN (pc := 75) (i := 12) (v := (nI o)) (lt_k hn (by omega)) e89 (by decide) (by decide) ((q89 12 (by decide)).trans ho12) dX12_nextRest_75 ?_
            refine AX.if_eqN (pc := 76) (tgt := 83) dX12_nextRest_76 (by decide) (by omega) (fun hc76 => ?_) (fun hc76 => ?_)
            · refine AX.iconst (pc := 83) (v := nI 0) dX12_nextRest_83 (by decide) ?_
              refine AX.istore (pc := 84) (L' := [.ref 87, .int (nI r), .int (nI s), .int (nI (r - scN s)), .int (nI 1), .int (nI 0)]) dX12_nextRest_84 (by decide) rfl ?_
              refine AX.iload (pc := 86) dX12_nextRest_86 rfl ?_
              refine AX.if_eqN (pc := 88) (tgt := 96) dX12_nextRest_88 (by decide) (by decide) (fun hc88 => ?_) (fun q => absurd q (by decide))
              refine AX.iload_n (pc := 96) dX12_nextRest_96 rfl ?_
              refine AX.iret (pc := 97) dX12_nextRest_97 rfl rfl (by decide) (by decide) ?_
              exact ⟨by rw [nx_some hge (by rintro ⟨q1, q4⟩; first | omega | (unfold enN at q4; simp_all)) (by omega)]; rfl, rfl⟩
            · refine AX.iconst (pc := 79) (v := nI 1) dX12_nextRest_79 (by decide) ?_
              refine AX.goto (pc := 80) (tgt := 84) dX12_nextRest_80 (by decide) ?_
              refine AX.istore (pc := 84) (L' := [.ref 87, .int (nI r), .int (nI s), .int (nI (r - scN s)), .int (nI 1), .int (nI 1)]) dX12_nextRest_84 (by decide) rfl ?_
              refine AX.iload (pc := 86) dX12_nextRest_86 rfl ?_
              refine AX.if_eqN (pc := 88) (tgt := 96) dX12_nextRest_88 (by decide) (by decide) (fun q => absurd q (by decide)) (fun hc88 => ?_)
              refine AX.bipush (pc := 91) (v := (-5)) dX12_nextRest_91 (by decide) ?_
              refine AX.goto (pc := 93) (tgt := 97) dX12_nextRest_93 (by decide) ?_
              refine AX.iret (pc := 97) dX12_nextRest_97 rfl rfl (by decide) (by decide) ?_
              exact ⟨by rw [show nxN o r s = none from by first | exact nx_b1 ⟨by omega, by unfold enN; simp_all⟩ | exact nx_b2 ⟨by omega, by omega⟩]; rfl, rfl⟩
        · refine AX.iload (pc := 59) dX12_nextRest_59 rfl ?_
          refine AX.if_eqN (pc := 61) (tgt := 79) dX12_nextRest_61 (by decide) (by decide) (fun q => absurd q (by decide)) (fun hc61 => ?_)
          refine AX.iload_n (pc := 64) dX12_nextRest_64 rfl ?_
          refine AX.iconst (pc := 65) (v := nI 1) dX12_nextRest_65 (by decide) ?_
          refine AX.icmp_neN (pc := 66) (tgt := 83) dX12_nextRest_66 (by decide) (by omega) (by decide) (fun hc66 => ?_) (fun hc66 => ?_)
          · refine AX.iconst (pc := 83) (v := nI 0) dX12_nextRest_83 (by decide) ?_
            refine AX.istore (pc := 84) (L' := [.ref 87, .int (nI r), .int (nI s), .int (nI (r - scN s)), .int (nI 1), .int (nI 0)]) dX12_nextRest_84 (by decide) rfl ?_
            refine AX.iload (pc := 86) dX12_nextRest_86 rfl ?_
            refine AX.if_eqN (pc := 88) (tgt := 96) dX12_nextRest_88 (by decide) (by decide) (fun hc88 => ?_) (fun q => absurd q (by decide))
            refine AX.iload_n (pc := 96) dX12_nextRest_96 rfl ?_
            refine AX.iret (pc := 97) dX12_nextRest_97 rfl rfl (by decide) (by decide) ?_
            exact ⟨by rw [nx_some hge (by rintro ⟨q1, q4⟩; first | omega | (unfold enN at q4; simp_all)) (by omega)]; rfl, rfl⟩
          · refine AX.aload_n (pc := 69) dX12_nextRest_69 rfl ?_
            refine AX.getf (pc := 70) fX12_nextRest_13 (lt_k hn (by omega)) hO rfl dX12_nextRest_70 ?_
            refine AX.bipush (pc := 73) (v := nI 12) dX12_nextRest_73 (by decide) ?_
            refine AX.ialdN (pc := 75) (i := 12) (v := (nI o)) (lt_k hn (by omega)) e89 (by decide) (by decide) ((q89 12 (by decide)).trans ho12) dX12_nextRest_75 ?_
            refine AX.if_eqN (pc := 76) (tgt := 83) dX12_nextRest_76 (by decide) (by omega) (fun hc76 => ?_) (fun hc76 => ?_)
            · refine AX.iconst (pc := 83) (v := nI 0) dX12_nextRest_83 (by decide) ?_
              refine AX.istore (pc := 84) (L' := [.ref 87, .int (nI r), .int (nI s), .int (nI (r - scN s)), .int (nI 1), .int (nI 0)]) dX12_nextRest_84 (by decide) rfl ?_
              refine AX.iload (pc := 86) dX12_nextRest_86 rfl ?_
              refine AX.if_eqN (pc := 88) (tgt := 96) dX12_nextRest_88 (by decide) (by decide) (fun hc88 => ?_) (fun q => absurd q (by decide))
              refine AX.iload_n (pc := 96) dX12_nextRest_96 rfl ?_
              refine AX.iret (pc := 97) dX12_nextRest_97 rfl rfl (by decide) (by decide) ?_
              exact ⟨by rw [nx_some hge (by rintro ⟨q1, q4⟩; first | omega | (unfold enN at q4; simp_all)) (by omega)]; rfl, rfl⟩
            · refine AX.iconst (pc := 79) (v := nI 1) dX12_nextRest_79 (by decide) ?_
              refine AX.goto (pc := 80) (tgt := 84) dX12_nextRest_80 (by decide) ?_
              refine AX.istore (pc := 84) (L' := [.ref 87, .int (nI r), .int (nI s), .int (nI (r - scN s)), .int (nI 1), .int (nI 1)]) dX12_nextRest_84 (by decide) rfl ?_
              refine AX.iload (pc := 86) dX12_nextRest_86 rfl ?_
              refine AX.if_eqN (pc := 88) (tgt := 96) dX12_nextRest_88 (by decide) (by decide) (fun q => absurd q (by decide)) (fun hc88 => ?_)
              refine AX.bipush (pc := 91) (v := (-5)) dX12_nextRest_91 (by decide) ?_
              refine AX.goto (pc := 93) (tgt := 97) dX12_nextRest_93 (by decide) ?_
              refine AX.iret (pc := 97) dX12_nextRest_97 rfl rfl (by decide) (by decide) ?_
              exact ⟨by rw [show nxN o r s = none from by first | exact nx_b1 ⟨by omega, by unfold enN; simp_all⟩ | exact nx_b2 ⟨by omega, by omega⟩]; rfl, rfl⟩
      · refine AX.aload_n (pc := 25) dX12_nextRest_25 rfl ?_
        refine AX.getf (pc := 26) fX12_nextRest_13 (lt_k hn (by omega)) hO rfl dX12_nextRest_26 ?_
        refine AX.bipush (pc := 29) (v := nI 12) dX12_nextRest_29 (by decide) ?_
        refine AX.ialdN (pc := 31) (i := 12) (v := (nI o)) (lt_k hn (by omega)) e89 (by decide) (by decide) ((q89 12 (by decide)).trans ho12) dX12_nextRest_31 ?_
        refine AX.iconst (pc := 32) (v := nI 2) dX12_nextRest_32 (by decide) ?_
        refine AX.icmp_neN (pc := 33) (tgt := 48) dX12_nextRest_33 (by decide) (by omega) (by decide) (fun hc33 => ?_) (fun hc33 => ?_)
        · refine AX.iconst (pc := 48) (v := nI 0) dX12_nextRest_48 (by decide) ?_
          refine AX.istore (pc := 49) (L' := [.ref 87, .int (nI r), .int (nI s), .int (nI (r - scN s)), .int (nI 0), .null]) dX12_nextRest_49 (by decide) rfl ?_
          refine AX.iload_n (pc := 51) dX12_nextRest_51 rfl ?_
          refine AX.if_ltN (pc := 52) (tgt := 79) dX12_nextRest_52 (by decide) (by omega) (fun q => absurd q (by omega)) (fun hc52 => ?_)
          refine AX.iload_n (pc := 55) dX12_nextRest_55 rfl ?_
          refine AX.if_neN (pc := 56) (tgt := 64) dX12_nextRest_56 (by decide) (by omega) (fun hc56 => ?_) (fun hc56 => ?_)
          · refine AX.iload_n (pc := 64) dX12_nextRest_64 rfl ?_
            refine AX.iconst (pc := 65) (v := nI 1) dX12_nextRest_65 (by decide) ?_
            refine AX.icmp_neN (pc := 66) (tgt := 83) dX12_nextRest_66 (by decide) (by omega) (by decide) (fun hc66 => ?_) (fun hc66 => ?_)
            · refine AX.iconst (pc := 83) (v := nI 0) dX12_nextRest_83 (by decide) ?_
              refine AX.istore (pc := 84) (L' := [.ref 87, .int (nI r), .int (nI s), .int (nI (r - scN s)), .int (nI 0), .int (nI 0)]) dX12_nextRest_84 (by decide) rfl ?_
              refine AX.iload (pc := 86) dX12_nextRest_86 rfl ?_
              refine AX.if_eqN (pc := 88) (tgt := 96) dX12_nextRest_88 (by decide) (by decide) (fun hc88 => ?_) (fun q => absurd q (by decide))
              refine AX.iload_n (pc := 96) dX12_nextRest_96 rfl ?_
              refine AX.iret (pc := 97) dX12_nextRest_97 rfl rfl (by decide) (by decide) ?_
              exact ⟨by rw [nx_some hge (by rintro ⟨q1, q4⟩; first | omega | (unfold enN at q4; simp_all)) (by omega)]; rfl, rfl⟩
            · refine AX.aload_n (pc := 69) dX12_nextRest_69 rfl ?_
              refine AX.getf (pc := 70) fX12_nextRest_13 (lt_k hn (by omega)) hO rfl dX12_nextRest_70 ?_
              refine AX.bipush (pc := 73) (v := nI 12) dX12_nextRest_73 (by decide) ?_
              refine AX.ialdN (pc := 75) (i := 12) (v := (nI o)) (lt_k hn (by omega)) e89 (by decide) (by decide) ((q89 12 (by decide)).trans ho12) dX12_nextRest_75 ?_
              refine AX.if_eqN (pc := 76) (tgt := 83) dX12_nextRest_76 (by decide) (by omega) (fun hc76 => ?_) (fun hc76 => ?_)
              · refine AX.iconst (pc := 83) (v := nI 0) dX12_nextRest_83 (by decide) ?_
                refine AX.istore (pc := 84) (L' := [.ref 87, .int (nI r), .int (nI s), .int (nI (r - scN s)), .int (nI 0), .int (nI 0)]) dX12_nextRest_84 (by decide) rfl ?_
                refine AX.iload (pc := 86) dX12_nextRest_86 rfl ?_
                refine AX.if_eqN (pc := 88) (tgt := 96) dX12_nextRest_88 (by decide) (by decide) (fun hc88 => ?_) (fun q => absurd q (by decide))
                refine AX.iload_n (pc := 96) dX12_nextRest_96 rfl ?_
                refine AX.iret (pc := 97) dX12_nextRest_97 rfl rfl (by decide) (by decide) ?_
                exact ⟨by rw [nx_some hge (by rintro ⟨q1, q4⟩; first | omega | (unfold enN at q4; simp_all)) (by omega)]; rfl, rfl⟩
              · refine AX.iconst (pc := 79) (v := nI 1) dX12_nextRest_79 (by decide) ?_
                refine AX.goto (pc := 80) (tgt := 84) dX12_nextRest_80 (by decide) ?_
                refine AX.istore (pc := 84) (L' := [.ref 87, .int (nI r), .int (nI s), .int (nI (r - scN s)), .int (nI 0), .int (nI 1)]) dX12_nextRest_84 (by decide) rfl ?_
                refine AX.iload (pc := 86) dX12_nextRest_86 rfl ?_
                refine AX.if_eqN (pc := 88) (tgt := 96) dX12_nextRest_88 (by decide) (by decide) (fun q => absurd q (by decide)) (fun hc88 => ?_)
                refine AX.bipush (pc := 91) (v := (-5)) dX12_nextRest_91 (by decide) ?_
                refine AX.goto (pc := 93) (tgt := 97) dX12_nextRest_93 (by decide) ?_
                refine AX.iret (pc := 97) dX12_nextRest_97 rfl rfl (by decide) (by decide) ?_
                exact ⟨by rw [show nxN o r s = none from by first | exact nx_b1 ⟨by omega, by unfold enN; simp_all⟩ | exact nx_b2 ⟨by omega, by omega⟩]; rfl, rfl⟩
          · refine AX.iload (pc := 59) dX12_nextRest_59 rfl ?_
            refine AX.if_eqN (pc := 61) (tgt := 79) dX12_nextRest_61 (by decide) (by decide) (fun hc61 => ?_) (fun q => absurd q (by decide))
            refine AX.iconst (pc := 79) (v := nI 1) dX12_nextRest_79 (by decide) ?_
            refine AX.goto (pc := 80) (tgt := 84) dX12_nextRest_80 (by decide) ?_
            refine AX.istore (pc := 84) (L' := [.ref 87, .int (nI r), .int (nI s), .int (nI (r - scN s)), .int (nI 0), .int (nI 1)]) dX12_nextRest_84 (by decide) rfl ?_
            refine AX.iload (pc := 86) dX12_nextRest_86 rfl ?_
            refine AX.if_eqN (pc := 88) (tgt := 96) dX12_nextRest_88 (by decide) (by decide) (fun q => absurd q (by decide)) (fun hc88 => ?_)
            refine AX.bipush (pc := 91) (v := (-5)) dX12_nextRest_91 (by decide) ?_
            refine AX.goto (pc := 93) (tgt := 97) dX12_nextRest_93 (by decide) ?_
            refine AX.iret (pc := 97) dX12_nextRest_97 rfl rfl (by decide) (by decide) ?_
            exact ⟨by rw [show nxN o r s = none from by first | exact nx_b1 ⟨by omega, by unfold enN; simp_all⟩ | exact nx_b2 ⟨by omega, by omega⟩]; rfl, rfl⟩
        · refine AX.iload_n (pc := 36) dX12_nextRest_36 rfl ?_
          refine AX.iconst (pc := 37) (v := nI 3) dX12_nextRest_37 (by decide) ?_
          refine AX.callS (pc := 38) (M2 := M_X12_isUnder) (As := [.int (nI s), .int (nI 3)]) (rest := []) (c_mUnder w h s 3 hs (by decide)) xc_X12_nextRest__X12_isUnder gX12_nextRest_X12_isUnder rfl (Nat.le_of_ble_eq_true rfl) dX12_nextRest_38 ?_
          rintro _ h9 ⟨rfl, e9⟩
          have e9 := e9.symm
          subst e9
          show AX w M_X12_nextRest 0 0 41 [.ref 87, .int (nI r), .int (nI s), .int (nI (r - scN s)), .null, .null] [.int (bI (unN s 3))] _ _
          refine AX.if_eqB (pc := 41) (tgt := 48) dX12_nextRest_41 (by decide) (fun hc41 => ?_) (fun hc41 => ?_)
          · refine AX.iconst (pc := 48) (v := nI 0) dX12_nextRest_48 (by decide) ?_
            refine AX.istore (pc := 49) (L' := [.ref 87, .int (nI r), .int (nI s), .int (nI (r - scN s)), .int (nI 0), .null]) dX12_nextRest_49 (by decide) rfl ?_
            refine AX.iload_n (pc := 51) dX12_nextRest_51 rfl ?_
            refine AX.if_ltN (pc := 52) (tgt := 79) dX12_nextRest_52 (by decide) (by omega) (fun q => absurd q (by omega)) (fun hc52 => ?_)
            refine AX.iload_n (pc := 55) dX12_nextRest_55 rfl ?_
            refine AX.if_neN (pc := 56) (tgt := 64) dX12_nextRest_56 (by decide) (by omega) (fun hc56 => ?_) (fun hc56 => ?_)
            · refine AX.iload_n (pc := 64) dX12_nextRest_64 rfl ?_
              refine AX.iconst (pc := 65) (v := nI 1) dX12_nextRest_65 (by decide) ?_
              refine AX.icmp_neN (pc := 66) (tgt := 83) dX12_nextRest_66 (by decide) (by omega) (by decide) (fun hc66 => ?_) (fun hc66 => ?_)
              · refine AX.iconst (pc := 83) (v := nI 0) dX12_nextRest_83 (by decide) ?_
                refine AX.istore (pc := 84) (L' := [.ref 87, .int (nI r), .int (nI s), .int (nI (r - scN s)), .int (nI 0), .int (nI 0)]) dX12_nextRest_84 (by decide) rfl ?_
                refine AX.iload (pc := 86) dX12_nextRest_86 rfl ?_
                refine AX.if_eqN (pc := 88) (tgt := 96) dX12_nextRest_88 (by decide) (by decide) (fun hc88 => ?_) (fun q => absurd q (by decide))
                refine AX.iload_n (pc := 96) dX12_nextRest_96 rfl ?_
                refine AX.iret (pc := 97) dX12_nextRest_97 rfl rfl (by decide) (by decide) ?_
                exact ⟨by rw [nx_some hge (by rintro ⟨q1, q4⟩; first | omega | (unfold enN at q4; simp_all)) (by omega)]; rfl, rfl⟩
              · refine AX.aload_n (pc := 69) dX12_nextRest_69 rfl ?_
                refine AX.getf (pc := 70) fX12_nextRest_13 (lt_k hn (by omega)) hO rfl dX12_nextRest_70 ?_
                refine AX.bipush (pc := 73) (v := nI 12) dX12_nextRest_73 (by decide) ?_
                refine AX.ialdN (pc := 75) (i := 12) (v := (nI o)) (lt_k hn (by omega)) e89 (by decide) (by decide) ((q89 12 (by decide)).trans ho12) dX12_nextRest_75 ?_
                refine AX.if_eqN (pc := 76) (tgt := 83) dX12_nextRest_76 (by decide) (by omega) (fun hc76 => ?_) (fun hc76 => ?_)
                · refine AX.iconst (pc := 83) (v := nI 0) dX12_nextRest_83 (by decide) ?_
                  refine AX.istore (pc := 84) (L' := [.ref 87, .int (nI r), .int (nI s), .int (nI (r - scN s)), .int (nI 0), .int (nI 0)]) dX12_nextRest_84 (by decide) rfl ?_
                  refine AX.iload (pc := 86) dX12_nextRest_86 rfl ?_
                  refine AX.if_eqN (pc := 88) (tgt := 96) dX12_nextRest_88 (by decide) (by decide) (fun hc88 => ?_) (fun q => absurd q (by decide))
                  refine AX.iload_n (pc := 96) dX12_nextRest_96 rfl ?_
                  refine AX.iret (pc := 97) dX12_nextRest_97 rfl rfl (by decide) (by decide) ?_
                  exact ⟨by rw [nx_some hge (by rintro ⟨q1, q4⟩; first | omega | (unfold enN at q4; simp_all)) (by omega)]; rfl, rfl⟩
                · refine AX.iconst (pc := 79) (v := nI 1) dX12_nextRest_79 (by decide) ?_
                  refine AX.goto (pc := 80) (tgt := 84) dX12_nextRest_80 (by decide) ?_
                  refine AX.istore (pc := 84) (L' := [.ref 87, .int (nI r), .int (nI s), .int (nI (r - scN s)), .int (nI 0), .int (nI 1)]) dX12_nextRest_84 (by decide) rfl ?_
                  refine AX.iload (pc := 86) dX12_nextRest_86 rfl ?_
                  refine AX.if_eqN (pc := 88) (tgt := 96) dX12_nextRest_88 (by decide) (by decide) (fun q => absurd q (by decide)) (fun hc88 => ?_)
                  refine AX.bipush (pc := 91) (v := (-5)) dX12_nextRest_91 (by decide) ?_
                  refine AX.goto (pc := 93) (tgt := 97) dX12_nextRest_93 (by decide) ?_
                  refine AX.iret (pc := 97) dX12_nextRest_97 rfl rfl (by decide) (by decide) ?_
                  exact ⟨by rw [show nxN o r s = none from by first | exact nx_b1 ⟨by omega, by unfold enN; simp_all⟩ | exact nx_b2 ⟨by omega, by omega⟩]; rfl, rfl⟩
            · refine AX.iload (pc := 59) dX12_nextRest_59 rfl ?_
              refine AX.if_eqN (pc := 61) (tgt := 79) dX12_nextRest_61 (by decide) (by decide) (fun hc61 => ?_) (fun q => absurd q (by decide))
              refine AX.iconst (pc := 79) (v := nI 1) dX12_nextRest_79 (by decide) ?_
              refine AX.goto (pc := 80) (tgt := 84) dX12_nextRest_80 (by decide) ?_
              refine AX.istore (pc := 84) (L' := [.ref 87, .int (nI r), .int (nI s), .int (nI (r - scN s)), .int (nI 0), .int (nI 1)]) dX12_nextRest_84 (by decide) rfl ?_
              refine AX.iload (pc := 86) dX12_nextRest_86 rfl ?_
              refine AX.if_eqN (pc := 88) (tgt := 96) dX12_nextRest_88 (by decide) (by decide) (fun q => absurd q (by decide)) (fun hc88 => ?_)
              refine AX.bipush (pc := 91) (v := (-5)) dX12_nextRest_91 (by decide) ?_
              refine AX.goto (pc := 93) (tgt := 97) dX12_nextRest_93 (by decide) ?_
              refine AX.iret (pc := 97) dX12_nextRest_97 rfl rfl (by decide) (by decide) ?_
              exact ⟨by rw [show nxN o r s = none from by first | exact nx_b1 ⟨by omega, by unfold enN; simp_all⟩ | exact nx_b2 ⟨by omega, by omega⟩]; rfl, rfl⟩
          · refine AX.iconst (pc := 44) (v := nI 1) dX12_nextRest_44 (by decide) ?_
            refine AX.goto (pc := 45) (tgt := 49) dX12_nextRest_45 (by decide) ?_
            refine AX.istore (pc := 49) (L' := [.ref 87, .int (nI r), .int (nI s), .int (nI (r - scN s)), .int (nI 1), .null]) dX12_nextRest_49 (by decide) rfl ?_
            refine AX.iload_n (pc := 51) dX12_nextRest_51 rfl ?_
            refine AX.if_ltN (pc := 52) (tgt := 79) dX12_nextRest_52 (by decide) (by omega) (fun q => absurd q (by omega)) (fun hc52 => ?_)
            refine AX.iload_n (pc := 55) dX12_nextRest_55 rfl ?_
            refine AX.if_neN (pc := 56) (tgt := 64) dX12_nextRest_56 (by decide) (by omega) (fun hc56 => ?_) (fun hc56 => ?_)
            · refine AX.iload_n (pc := 64) dX12_nextRest_64 rfl ?_
              refine AX.iconst (pc := 65) (v := nI 1) dX12_nextRest_65 (by decide) ?_
              refine AX.icmp_neN (pc := 66) (tgt := 83) dX12_nextRest_66 (by decide) (by omega) (by decide) (fun hc66 => ?_) (fun hc66 => ?_)
              · refine AX.iconst (pc := 83) (v := nI 0) dX12_nextRest_83 (by decide) ?_
                refine AX.istore (pc := 84) (L' := [.ref 87, .int (nI r), .int (nI s), .int (nI (r - scN s)), .int (nI 1), .int (nI 0)]) dX12_nextRest_84 (by decide) rfl ?_
                refine AX.iload (pc := 86) dX12_nextRest_86 rfl ?_
                refine AX.if_eqN (pc := 88) (tgt := 96) dX12_nextRest_88 (by decide) (by decide) (fun hc88 => ?_) (fun q => absurd q (by decide))
                refine AX.iload_n (pc := 96) dX12_nextRest_96 rfl ?_
                refine AX.iret (pc := 97) dX12_nextRest_97 rfl rfl (by decide) (by decide) ?_
                exact ⟨by rw [nx_some hge (by rintro ⟨q1, q4⟩; first | omega | (unfold enN at q4; simp_all)) (by omega)]; rfl, rfl⟩
              · refine AX.aload_n (pc := 69) dX12_nextRest_69 rfl ?_
                refine AX.getf (pc := 70) fX12_nextRest_13 (lt_k hn (by omega)) hO rfl dX12_nextRest_70 ?_
                refine AX.bipush (pc := 73) (v := nI 12) dX12_nextRest_73 (by decide) ?_
                refine AX.ialdN (pc := 75) (i := 12) (v := (nI o)) (lt_k hn (by omega)) e89 (by decide) (by decide) ((q89 12 (by decide)).trans ho12) dX12_nextRest_75 ?_
                refine AX.if_eqN (pc := 76) (tgt := 83) dX12_nextRest_76 (by decide) (by omega) (fun hc76 => ?_) (fun hc76 => ?_)
                · refine AX.iconst (pc := 83) (v := nI 0) dX12_nextRest_83 (by decide) ?_
                  refine AX.istore (pc := 84) (L' := [.ref 87, .int (nI r), .int (nI s), .int (nI (r - scN s)), .int (nI 1), .int (nI 0)]) dX12_nextRest_84 (by decide) rfl ?_
                  refine AX.iload (pc := 86) dX12_nextRest_86 rfl ?_
                  refine AX.if_eqN (pc := 88) (tgt := 96) dX12_nextRest_88 (by decide) (by decide) (fun hc88 => ?_) (fun q => absurd q (by decide))
                  refine AX.iload_n (pc := 96) dX12_nextRest_96 rfl ?_
                  refine AX.iret (pc := 97) dX12_nextRest_97 rfl rfl (by decide) (by decide) ?_
                  exact ⟨by rw [nx_some hge (by rintro ⟨q1, q4⟩; first | omega | (unfold enN at q4; simp_all)) (by omega)]; rfl, rfl⟩
                · refine AX.iconst (pc := 79) (v := nI 1) dX12_nextRest_79 (by decide) ?_
                  refine AX.goto (pc := 80) (tgt := 84) dX12_nextRest_80 (by decide) ?_
                  refine AX.istore (pc := 84) (L' := [.ref 87, .int (nI r), .int (nI s), .int (nI (r - scN s)), .int (nI 1), .int (nI 1)]) dX12_nextRest_84 (by decide) rfl ?_
                  refine AX.iload (pc := 86) dX12_nextRest_86 rfl ?_
                  refine AX.if_eqN (pc := 88) (tgt := 96) dX12_nextRest_88 (by decide) (by decide) (fun q => absurd q (by decide)) (fun hc88 => ?_)
                  refine AX.bipush (pc := 91) (v := (-5)) dX12_nextRest_91 (by decide) ?_
                  refine AX.goto (pc := 93) (tgt := 97) dX12_nextRest_93 (by decide) ?_
                  refine AX.iret (pc := 97) dX12_nextRest_97 rfl rfl (by decide) (by decide) ?_
                  exact ⟨by rw [show nxN o r s = none from by first | exact nx_b1 ⟨by omega, by unfold enN; simp_all⟩ | exact nx_b2 ⟨by omega, by omega⟩]; rfl, rfl⟩
            · refine AX.iload (pc := 59) dX12_nextRest_59 rfl ?_
              refine AX.if_eqN (pc := 61) (tgt := 79) dX12_nextRest_61 (by decide) (by decide) (fun q => absurd q (by decide)) (fun hc61 => ?_)
              refine AX.iload_n (pc := 64) dX12_nextRest_64 rfl ?_
              refine AX.iconst (pc := 65) (v := nI 1) dX12_nextRest_65 (by decide) ?_
              refine AX.icmp_neN (pc := 66) (tgt := 83) dX12_nextRest_66 (by decide) (by omega) (by decide) (fun hc66 => ?_) (fun hc66 => ?_)
              · refine AX.iconst (pc := 83) (v := nI 0) dX12_nextRest_83 (by decide) ?_
                refine AX.istore (pc := 84) (L' := [.ref 87, .int (nI r), .int (nI s), .int (nI (r - scN s)), .int (nI 1), .int (nI 0)]) dX12_nextRest_84 (by decide) rfl ?_
                refine AX.iload (pc := 86) dX12_nextRest_86 rfl ?_
                refine AX.if_eqN (pc := 88) (tgt := 96) dX12_nextRest_88 (by decide) (by decide) (fun hc88 => ?_) (fun q => absurd q (by decide))
                refine AX.iload_n (pc := 96) dX12_nextRest_96 rfl ?_
                refine AX.iret (pc := 97) dX12_nextRest_97 rfl rfl (by decide) (by decide) ?_
                exact ⟨by rw [nx_some hge (by rintro ⟨q1, q4⟩; first | omega | (unfold enN at q4; simp_all)) (by omega)]; rfl, rfl⟩
              · refine AX.aload_n (pc := 69) dX12_nextRest_69 rfl ?_
                refine AX.getf (pc := 70) fX12_nextRest_13 (lt_k hn (by omega)) hO rfl dX12_nextRest_70 ?_
                refine AX.bipush (pc := 73) (v := nI 12) dX12_nextRest_73 (by decide) ?_
                refine AX.ialdN (pc := 75) (i := 12) (v := (nI o)) (lt_k hn (by omega)) e89 (by decide) (by decide) ((q89 12 (by decide)).trans ho12) dX12_nextRest_75 ?_
                refine AX.if_eqN (pc := 76) (tgt := 83) dX12_nextRest_76 (by decide) (by omega) (fun hc76 => ?_) (fun hc76 => ?_)
                · refine AX.iconst (pc := 83) (v := nI 0) dX12_nextRest_83 (by decide) ?_
                  refine AX.istore (pc := 84) (L' := [.ref 87, .int (nI r), .int (nI s), .int (nI (r - scN s)), .int (nI 1), .int (nI 0)]) dX12_nextRest_84 (by decide) rfl ?_
                  refine AX.iload (pc := 86) dX12_nextRest_86 rfl ?_
                  refine AX.if_eqN (pc := 88) (tgt := 96) dX12_nextRest_88 (by decide) (by decide) (fun hc88 => ?_) (fun q => absurd q (by decide))
                  refine AX.iload_n (pc := 96) dX12_nextRest_96 rfl ?_
                  refine AX.iret (pc := 97) dX12_nextRest_97 rfl rfl (by decide) (by decide) ?_
                  exact ⟨by rw [nx_some hge (by rintro ⟨q1, q4⟩; first | omega | (unfold enN at q4; simp_all)) (by omega)]; rfl, rfl⟩
                · refine AX.iconst (pc := 79) (v := nI 1) dX12_nextRest_79 (by decide) ?_
                  refine AX.goto (pc := 80) (tgt := 84) dX12_nextRest_80 (by decide) ?_
                  refine AX.istore (pc := 84) (L' := [.ref 87, .int (nI r), .int (nI s), .int (nI (r - scN s)), .int (nI 1), .int (nI 1)]) dX12_nextRest_84 (by decide) rfl ?_
                  refine AX.iload (pc := 86) dX12_nextRest_86 rfl ?_
                  refine AX.if_eqN (pc := 88) (tgt := 96) dX12_nextRest_88 (by decide) (by decide) (fun q => absurd q (by decide)) (fun hc88 => ?_)
                  refine AX.bipush (pc := 91) (v := (-5)) dX12_nextRest_91 (by decide) ?_
                  refine AX.goto (pc := 93) (tgt := 97) dX12_nextRest_93 (by decide) ?_
                  refine AX.iret (pc := 97) dX12_nextRest_97 rfl rfl (by decide) (by decide) ?_
                  exact ⟨by rw [show nxN o r s = none from by first | exact nx_b1 ⟨by omega, by unfold enN; simp_all⟩ | exact nx_b2 ⟨by omega, by omega⟩]; rfl, rfl⟩
/-- what was put so far: SPOTS and WEIGHTS, the first WEIGHT made less by each other -/
def ptL (L : List (Nat × Nat)) (s w : Nat) : List (Nat × Nat) := match L with
  | [] => [(s, w)]
  | (s0, w0) :: r => (s0, w0 - w) :: r ++ [(s, w)]
def PQ (h : XH) (v : Nat → Int32) (L : List (Nat × Nat)) : Prop := MO h (upd v 1 (nI L.length)) ∧ ∃ f g : Nat → Int32, h.2 91 = .inl (0, 5, .inl f) ∧ h.2 92 = .inl (0, 5, .inl g) ∧ ∀ i, i < L.length → f i = nI (L.getD i (0, 0)).1 ∧ g i = nI (L.getD i (0, 0)).2
theorem PQ.zero {h h' : XH} {v : Nat → Int32} {f g : Nat → Int32} (e91 : h.2 91 = .inl (0, 5, .inl f)) (e92 : h.2 92 = .inl (0, 5, .inl g)) (hs : Same [87] h h') (e : MO h' (upd v 1 (nI 0))) : PQ h' v [] :=
  ⟨e, f, g, hs.at (by simp) e91, hs.at (by simp) e92, fun i hi => absurd hi (Nat.not_lt_zero _)⟩
theorem ptL_len (L : List (Nat × Nat)) (s w : Nat) : (ptL L s w).length = L.length + 1 := by
  unfold ptL
  cases L with
  | nil => rfl
  | cons p r => simp
theorem ptL_at (p : Nat × Nat) (r : List (Nat × Nat)) (s w i : Nat) (hi : i < r.length + 2) : (ptL (p :: r) s w).getD i (0, 0) = if i = 0 then (p.1, p.2 - w) else if i = r.length + 1 then (s, w) else (p :: r).getD i (0, 0) := by
  show ((p.1, p.2 - w) :: r ++ [(s, w)]).getD i (0, 0) = _
  cases i with
  | zero => rfl
  | succ i =>
    rw [if_neg (by omega)]
    show (r ++ [(s, w)]).getD i (0, 0) = if i + 1 = r.length + 1 then (s, w) else r.getD i (0, 0)
    by_cases e : i = r.length
    · subst e
      rw [if_pos rfl]
      simp
    · rw [if_neg (by omega), List.getD_eq_getElem?_getD, List.getD_eq_getElem?_getD, List.getElem?_append_left (by omega)]
theorem c_putFall (w : XW) (h : XH) {v : Nat → Int32} {L : List (Nat × Nat)} (s x : Nat) (hn : 118 ≤ h.1) (hP : PQ h v L) (hL : L.length < 5) (hx : ∀ p r, L = p :: r → x ≤ p.2) : CA w M_X12_putFall [.ref 87, .int (nI s), .int (nI x)] h (fun v' h' => v' = none ∧ Same [87, 91, 92] h h' ∧ PQ h' v (ptL L s x)) := by
  refine CA.of (by decide) rfl (fun _ => Nat.le_of_ble_eq_true rfl) ?_
  obtain ⟨hO, f, g, e91, e92, hfg⟩ := hP
  have eO : h.2 87 = .inr (11, [.ref 88, .ref 89, .ref 90, .int (v 0), .int (nI L.length), .ref 91, .ref 92, .ref 93, .ref 94, .ref 95, .ref 96, .ref 97, .ref 98, .ref 99, .ref 100, .ref 101, .int (v 2), .ref 102, .ref 103, .ref 104, .ref 105, .ref 106, .ref 107, .ref 108, .int (v 3), .ref 109, .int (v 4), .ref 110, .ref 111, .int (v 5), .ref 112, .int (v 6), .int (v 7), .int (v 8), .ref 113, .int (v 9), .ref 114, .ref 115, .ref 116, .ref 117]) := hO
  show AX w M_X12_putFall 0 0 0 [.ref 87, .int (nI s), .int (nI x)] [] h _
  cases L with
  | nil =>
    have eO : h.2 87 = .inr (11, [.ref 88, .ref 89, .ref 90, .int (v 0), .int (nI 0), .ref 91, .ref 92, .ref 93, .ref 94, .ref 95, .ref 96, .ref 97, .ref 98, .ref 99, .ref 100, .ref 101, .int (v 2), .ref 102, .ref 103, .ref 104, .ref 105, .ref 106, .ref 107, .ref 108, .int (v 3), .ref 109, .int (v 4), .ref 110, .ref 111, .int (v 5), .ref 112, .int (v 6), .int (v 7), .int (v 8), .ref 113, .int (v 9), .ref 114, .ref 115, .ref 116, .ref 117]) := eO
    refine AX.aload_n (pc := 0) dX12_putFall_0 rfl ?_
    refine AX.getf (pc := 1) fX12_putFall_19 (lt_k hn (by omega)) eO rfl dX12_putFall_1 ?_
    refine AX.aload_n (pc := 4) dX12_putFall_4 rfl ?_
    refine AX.getf (pc := 5) fX12_putFall_132 (lt_k hn (by omega)) eO rfl dX12_putFall_5 ?_
    refine AX.iload_n (pc := 8) dX12_putFall_8 rfl ?_
    refine AX.iastN (pc := 9) (i := 0) (g := upd f 0 (nI s)) (lt_k hn (by omega)) e91 (by decide) (by decide) rfl dX12_putFall_9 ?_
    refine AX.aload_n (pc := 10) dX12_putFall_10 rfl ?_
    refine AX.getf (pc := 11) fX12_putFall_22 (lt_k hn (by omega)) ((xset_ne (by decide)).trans eO) rfl dX12_putFall_11 ?_
    refine AX.aload_n (pc := 14) dX12_putFall_14 rfl ?_
    refine AX.getf (pc := 15) fX12_putFall_132 (lt_k hn (by omega)) ((xset_ne (by decide)).trans eO) rfl dX12_putFall_15 ?_
    refine AX.iload_n (pc := 18) dX12_putFall_18 rfl ?_
    refine AX.iastN (pc := 19) (i := 0) (g := upd g 0 (nI x)) (lt_k hn (by omega)) ((xset_ne (by decide)).trans e92) (by decide) (by decide) rfl dX12_putFall_19 ?_
    refine AX.aload_n (pc := 20) dX12_putFall_20 rfl ?_
    refine AX.getf (pc := 21) fX12_putFall_22 (lt_k hn (by omega)) ((xset_ne (by decide)).trans ((xset_ne (by decide)).trans eO)) rfl dX12_putFall_21 ?_
    refine AX.iconst (pc := 24) (v := nI 0) dX12_putFall_24 (by decide) ?_
    refine AX.dup2 (pc := 25) dX12_putFall_25 rfl rfl ?_
    refine AX.ialdN (pc := 26) (i := 0) (v := (nI x)) (lt_k hn (by omega)) (xset_same _ _ _) (by decide) (by decide) (upd_at _ _ _) dX12_putFall_26 ?_
    refine AX.aload_n (pc := 27) dX12_putFall_27 rfl ?_
    refine AX.getf (pc := 28) fX12_putFall_132 (lt_k hn (by omega)) ((xset_ne (by decide)).trans ((xset_ne (by decide)).trans eO)) rfl dX12_putFall_28 ?_
    refine AX.if_neN (pc := 31) (tgt := 38) dX12_putFall_31 (by decide) (by decide) (fun q => absurd q (by decide)) (fun hc31 => ?_)
    refine AX.iconst (pc := 34) (v := nI 0) dX12_putFall_34 (by decide) ?_
    refine AX.goto (pc := 35) (tgt := 39) dX12_putFall_35 (by decide) ?_
    refine AX.isubN (pc := 39) (c := x) dX12_putFall_39 rfl ?_
    refine AX.iastN (pc := 40) (i := 0) (g := upd (upd g 0 (nI x)) 0 (nI x)) (lt_k hn (by omega)) (xset_same _ _ _) (by decide) (by decide) rfl dX12_putFall_40 ?_
    refine AX.aload_n (pc := 41) dX12_putFall_41 rfl ?_
    refine AX.dup (pc := 42) dX12_putFall_42 rfl ?_
    refine AX.getf (pc := 43) fX12_putFall_132 (lt_k hn (by omega)) ((xset_ne (by decide)).trans ((xset_ne (by decide)).trans ((xset_ne (by decide)).trans eO))) rfl dX12_putFall_43 ?_
    refine AX.iconst (pc := 46) (v := nI 1) dX12_putFall_46 (by decide) ?_
    refine AX.iaddN (pc := 47) (c := 1) dX12_putFall_47 (Nat.zero_add _) ?_
    refine AX.putf (pc := 48) (h := xset (xset (xset h 91 (.inl (0, 5, .inl (upd f 0 (nI s))))) 92 (.inl (0, 5, .inl (upd g 0 (nI x))))) 92 (.inl (0, 5, .inl (upd (upd g 0 (nI x)) 0 (nI x))))) (a := 87) (fs' := [.ref 88, .ref 89, .ref 90, .int (v 0), .int (nI 1), .ref 91, .ref 92, .ref 93, .ref 94, .ref 95, .ref 96, .ref 97, .ref 98, .ref 99, .ref 100, .ref 101, .int (v 2), .ref 102, .ref 103, .ref 104, .ref 105, .ref 106, .ref 107, .ref 108, .int (v 3), .ref 109, .int (v 4), .ref 110, .ref 111, .int (v 5), .ref 112, .int (v 6), .int (v 7), .int (v 8), .ref 113, .int (v 9), .ref 114, .ref 115, .ref 116, .ref 117]) fX12_putFall_132 rfl (lt_k hn (by omega)) ((xset_ne (by decide)).trans ((xset_ne (by decide)).trans ((xset_ne (by decide)).trans eO))) (Nat.le_of_ble_eq_true rfl) rfl rfl rfl dX12_putFall_48 ?_
    refine AX.vret (pc := 51) dX12_putFall_51 rfl (by decide) (by decide) ?_
    have sx : Same [87, 91, 92] h (xset (xset (xset (xset h 91 (.inl (0, 5, .inl (upd f 0 (nI s))))) 92 (.inl (0, 5, .inl (upd g 0 (nI x))))) 92 (.inl (0, 5, .inl (upd (upd g 0 (nI x)) 0 (nI x))))) 87 (.inr (11, [.ref 88, .ref 89, .ref 90, .int (v 0), .int (nI 1), .ref 91, .ref 92, .ref 93, .ref 94, .ref 95, .ref 96, .ref 97, .ref 98, .ref 99, .ref 100, .ref 101, .int (v 2), .ref 102, .ref 103, .ref 104, .ref 105, .ref 106, .ref 107, .ref 108, .int (v 3), .ref 109, .int (v 4), .ref 110, .ref 111, .int (v 5), .ref 112, .int (v 6), .int (v 7), .int (v 8), .ref 113, .int (v 9), .ref 114, .ref 115, .ref 116, .ref 117]))) := Same.set (Same.set (Same.set (Same.set (Same.rf) (by simp)) (by simp)) (by simp)) (by simp)
    refine ⟨rfl, sx, (xset_same _ _ _), _, _, ((xset_ne (by decide)).trans ((xset_ne (by decide)).trans ((xset_ne (by decide)).trans (xset_same _ _ _)))), ((xset_ne (by decide)).trans (xset_same _ _ _)), fun i hi => ?_⟩
    have hi : i < 1 := hi
    have e0 : i = 0 := by omega
    subst e0
    exact ⟨rfl, by show (upd (upd g 0 (nI x)) 0 (nI x)) 0 = nI x; simp [upd]⟩
  | cons p r =>
    have hlen : (p :: r).length = r.length + 1 := rfl
    have hx := hx p r rfl
    have h0 := hfg 0 (by rw [hlen]; omega)
    rw [hlen] at eO hL hfg
    refine AX.aload_n (pc := 0) dX12_putFall_0 rfl ?_
    refine AX.getf (pc := 1) fX12_putFall_19 (lt_k hn (by omega)) eO rfl dX12_putFall_1 ?_
    refine AX.aload_n (pc := 4) dX12_putFall_4 rfl ?_
    refine AX.getf (pc := 5) fX12_putFall_132 (lt_k hn (by omega)) eO rfl dX12_putFall_5 ?_
    refine AX.iload_n (pc := 8) dX12_putFall_8 rfl ?_
    refine AX.iastN (pc := 9) (i := r.length + 1) (g := upd f (r.length + 1) (nI s)) (lt_k hn (by omega)) e91 (by decide) (by omega) rfl dX12_putFall_9 ?_
    refine AX.aload_n (pc := 10) dX12_putFall_10 rfl ?_
    refine AX.getf (pc := 11) fX12_putFall_22 (lt_k hn (by omega)) ((xset_ne (by decide)).trans eO) rfl dX12_putFall_11 ?_
    refine AX.aload_n (pc := 14) dX12_putFall_14 rfl ?_
    refine AX.getf (pc := 15) fX12_putFall_132 (lt_k hn (by omega)) ((xset_ne (by decide)).trans eO) rfl dX12_putFall_15 ?_
    refine AX.iload_n (pc := 18) dX12_putFall_18 rfl ?_
    refine AX.iastN (pc := 19) (i := r.length + 1) (g := upd g (r.length + 1) (nI x)) (lt_k hn (by omega)) ((xset_ne (by decide)).trans e92) (by decide) (by omega) rfl dX12_putFall_19 ?_
    refine AX.aload_n (pc := 20) dX12_putFall_20 rfl ?_
    refine AX.getf (pc := 21) fX12_putFall_22 (lt_k hn (by omega)) ((xset_ne (by decide)).trans ((xset_ne (by decide)).trans eO)) rfl dX12_putFall_21 ?_
    refine AX.iconst (pc := 24) (v := nI 0) dX12_putFall_24 (by decide) ?_
    refine AX.dup2 (pc := 25) dX12_putFall_25 rfl rfl ?_
    refine AX.ialdN (pc := 26) (i := 0) (v := (nI p.2)) (lt_k hn (by omega)) (xset_same _ _ _) (by decide) (by decide) ((upd_off (by omega)).trans h0.2) dX12_putFall_26 ?_
    refine AX.aload_n (pc := 27) dX12_putFall_27 rfl ?_
    refine AX.getf (pc := 28) fX12_putFall_132 (lt_k hn (by omega)) ((xset_ne (by decide)).trans ((xset_ne (by decide)).trans eO)) rfl dX12_putFall_28 ?_
    refine AX.if_neN (pc := 31) (tgt := 38) dX12_putFall_31 (by decide) (by omega) (fun hc31 => ?_) (fun q => absurd q (by omega))
    refine AX.iload_n (pc := 38) dX12_putFall_38 rfl ?_
    refine AX.isubN (pc := 39) (c := p.2 - x) dX12_putFall_39 (by omega) ?_
    refine AX.iastN (pc := 40) (i := 0) (g := upd (upd g (r.length + 1) (nI x)) 0 (nI (p.2 - x))) (lt_k hn (by omega)) (xset_same _ _ _) (by decide) (by decide) rfl dX12_putFall_40 ?_
    refine AX.aload_n (pc := 41) dX12_putFall_41 rfl ?_
    refine AX.dup (pc := 42) dX12_putFall_42 rfl ?_
    refine AX.getf (pc := 43) fX12_putFall_132 (lt_k hn (by omega)) ((xset_ne (by decide)).trans ((xset_ne (by decide)).trans ((xset_ne (by decide)).trans eO))) rfl dX12_putFall_43 ?_
    refine AX.iconst (pc := 46) (v := nI 1) dX12_putFall_46 (by decide) ?_
    refine AX.iaddN (pc := 47) (c := r.length + 2) dX12_putFall_47 rfl ?_
    refine AX.putf (pc := 48) (h := xset (xset (xset h 91 (.inl (0, 5, .inl (upd f (r.length + 1) (nI s))))) 92 (.inl (0, 5, .inl (upd g (r.length + 1) (nI x))))) 92 (.inl (0, 5, .inl (upd (upd g (r.length + 1) (nI x)) 0 (nI (p.2 - x)))))) (a := 87) (fs' := [.ref 88, .ref 89, .ref 90, .int (v 0), .int (nI (r.length + 2)), .ref 91, .ref 92, .ref 93, .ref 94, .ref 95, .ref 96, .ref 97, .ref 98, .ref 99, .ref 100, .ref 101, .int (v 2), .ref 102, .ref 103, .ref 104, .ref 105, .ref 106, .ref 107, .ref 108, .int (v 3), .ref 109, .int (v 4), .ref 110, .ref 111, .int (v 5), .ref 112, .int (v 6), .int (v 7), .int (v 8), .ref 113, .int (v 9), .ref 114, .ref 115, .ref 116, .ref 117]) fX12_putFall_132 rfl (lt_k hn (by omega)) ((xset_ne (by decide)).trans ((xset_ne (by decide)).trans ((xset_ne (by decide)).trans eO))) (Nat.le_of_ble_eq_true rfl) rfl rfl rfl dX12_putFall_48 ?_
    refine AX.vret (pc := 51) dX12_putFall_51 rfl (by decide) (by decide) ?_
    have sx : Same [87, 91, 92] h (xset (xset (xset (xset h 91 (.inl (0, 5, .inl (upd f (r.length + 1) (nI s))))) 92 (.inl (0, 5, .inl (upd g (r.length + 1) (nI x))))) 92 (.inl (0, 5, .inl (upd (upd g (r.length + 1) (nI x)) 0 (nI (p.2 - x)))))) 87 (.inr (11, [.ref 88, .ref 89, .ref 90, .int (v 0), .int (nI (r.length + 2)), .ref 91, .ref 92, .ref 93, .ref 94, .ref 95, .ref 96, .ref 97, .ref 98, .ref 99, .ref 100, .ref 101, .int (v 2), .ref 102, .ref 103, .ref 104, .ref 105, .ref 106, .ref 107, .ref 108, .int (v 3), .ref 109, .int (v 4), .ref 110, .ref 111, .int (v 5), .ref 112, .int (v 6), .int (v 7), .int (v 8), .ref 113, .int (v 9), .ref 114, .ref 115, .ref 116, .ref 117]))) := Same.set (Same.set (Same.set (Same.set (Same.rf) (by simp)) (by simp)) (by simp)) (by simp)
    refine ⟨rfl, sx, by rw [ptL_len]; exact (xset_same _ _ _), _, _, ((xset_ne (by decide)).trans ((xset_ne (by decide)).trans ((xset_ne (by decide)).trans (xset_same _ _ _)))), ((xset_ne (by decide)).trans (xset_same _ _ _)), fun i hi => ?_⟩
    rw [ptL_len, hlen] at hi
    rw [ptL_at p r s x i (by omega)]
    by_cases z0 : i = 0
    · subst z0
      rw [if_pos rfl]
      exact ⟨by rw [upd_off (by omega)]; exact h0.1, by rw [upd_at]⟩
    rw [if_neg z0]
    by_cases z1 : i = r.length + 1
    · subst z1
      rw [if_pos rfl]
      exact ⟨upd_at _ _ _, by rw [upd_off (by omega), upd_at]⟩
    rw [if_neg z1]
    have hq := hfg i (by omega)
    exact ⟨by rw [upd_off z1]; exact hq.1, by rw [upd_off z0, upd_off z1]; exact hq.2⟩
