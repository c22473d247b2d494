/-! ===== THE REFERENCE: THE PATH, JUDGE, PLAY ===== -/
def rpR (h' : XH) (v : Nat → Int32) (x : Option Value) (R : Nat ⊕ List Nat) : Prop := match R with
  | .inl p => x = some (.int (nI 0)) ∧ (∃ k, TM h' v 0 p (nI 1) k) ∧ ∃ f : Nat → Int32, h'.2 113 = .inl (0, 20, .inl f)
  | .inr X => x = some (.int (nI 1)) ∧ (∃ p, TM h' v 0 p (nI 0) X.length) ∧ ∃ f : Nat → Int32, h'.2 113 = .inl (0, 20, .inl f) ∧ ∀ j, j < X.length → f j = nI (X.getD j 0)
theorem l_rp (w : XW) (P : Option Value → XH → Prop) (h0 : XH) {v : Nat → Int32} {y : Nat → Nat} {l : Nat} (R : Nat ⊕ List Nat) (hl60 : l ≤ 60) (hn0 : 118 ≤ h0.1) (hT0 : HT h0 y l) (hP : ∀ x h', Same [87, 113] h0 h' → rpR h' v x R → P x h') : ∀ (g i a : Nat) (X : List Nat) (h : XH) (z : Int32) (f : Nat → Int32), i + (g + 1) = 12 → X.length = i → a ≤ l → TM h v l a z i → h.2 113 = .inl (0, 20, .inl f) → (∀ j, j < X.length → f j = nI (X.getD j 0)) → Same [87, 113] h0 h → ptN y l (g + 1) a X = R → AX w M_X12_readPath 0 0 12 [.ref 87, .int (nI 1), .null] [] h P
  | g, i, a, X, h, z, f, hg, hi, ha, hO, e113, hf, hS, hR => by
    have hn := hS.le hn0
    have hT := hT0.same hS (by simp)
    have hz : ptN y l (g + 1) a X = match psN y l a with
      | .inl k => .inl k
      | .inr (n, s) => if l ≤ a + n then .inr (X ++ [s]) else if y (a + n) = 32 then ptN y l g (a + n + 1) (X ++ [s]) else .inl (a + n) := rfl
    have hle := psN_le (y := y) (l := l) (a := a)
    cases hp : psN y l a with
    | inl p =>
      rw [hp] at hle hz
      have hle : p ≤ max l a := hle
      have hple : p ≤ 60 := by omega
      refine AX.iload_n (pc := 12) dX12_readPath_12 rfl ?_
      refine AX.if_eqN (pc := 13) (tgt := 93) dX12_readPath_13 (by decide) (by decide) (fun q => absurd q (by decide)) (fun hc13 => ?_)
      refine AX.aload_n (pc := 16) dX12_readPath_16 rfl ?_
      refine AX.callV (pc := 17) (M2 := M_X12_readSpot) (As := []) (rest := []) (c_readSpot w h hl60 ha hn hO hT) xc_X12_readPath__X12_readSpot gX12_readPath_X12_readSpot (ci := 11) rfl (lt_k hn (by decide)) hO rfl (Nat.le_of_ble_eq_true rfl) dX12_readPath_17 ?_
      rintro v1 h1 ⟨s1, R1⟩
      rw [hp] at R1
      obtain ⟨⟨u_, rfl⟩, O1⟩ := R1
      have O1 : h1.2 87 = .inr (11, [.ref 88, .ref 89, .ref 90, .int (v 0), .int (v 1), .ref 91, .ref 92, .ref 93, .ref 94, .ref 95, .ref 96, .ref 97, .ref 98, .ref 99, .ref 100, .ref 101, .int (v 2), .ref 102, .ref 103, .ref 104, .ref 105, .ref 106, .ref 107, .ref 108, .int (v 3), .ref 109, .int (v 4), .ref 110, .ref 111, .int (v 5), .ref 112, .int (nI l), .int (nI p), .int (nI 1), .ref 113, .int (nI i), .ref 114, .ref 115, .ref 116, .ref 117]) := O1
      have n1 := s1.le hn
      have t1 := hT.same s1 (by simp)
      show AX w M_X12_readPath 0 0 20 [.ref 87, .int (nI 1), .null] [.int u_] _ _
      refine AX.istore_n (pc := 20) (L' := [.ref 87, .int (nI 1), .int u_]) dX12_readPath_20 (by decide) rfl ?_
      refine AX.aload_n (pc := 21) dX12_readPath_21 rfl ?_
      refine AX.getf (pc := 22) fX12_readPath_87 (lt_k (s1.le hn) (by decide)) O1 rfl dX12_readPath_22 ?_
      refine AX.aload_n (pc := 25) dX12_readPath_25 rfl ?_
      refine AX.getf (pc := 26) fX12_readPath_332 (lt_k (s1.le hn) (by decide)) O1 rfl dX12_readPath_26 ?_
      refine AX.iload_n (pc := 29) dX12_readPath_29 rfl ?_
      refine AX.iastN (pc := 30) (i := i) (g := upd f i u_) (lt_k (s1.le hn) (by decide)) (s1.at (by simp) e113) (by decide) (by omega) rfl dX12_readPath_30 ?_
      refine AX.aload_n (pc := 31) dX12_readPath_31 rfl ?_
      refine AX.dup (pc := 32) dX12_readPath_32 rfl ?_
      refine AX.getf (pc := 33) fX12_readPath_332 (lt_k (s1.le hn) (by decide)) ((xset_ne (by decide)).trans O1) rfl dX12_readPath_33 ?_
      refine AX.iconst (pc := 36) (v := nI 1) dX12_readPath_36 (by decide) ?_
      refine AX.iaddN (pc := 37) (c := i + 1) dX12_readPath_37 rfl ?_
      refine AX.putf (pc := 38) (h := xset h1 113 (.inl (0, 20, .inl (upd f i u_)))) (a := 87) (fs' := [.ref 88, .ref 89, .ref 90, .int (v 0), .int (v 1), .ref 91, .ref 92, .ref 93, .ref 94, .ref 95, .ref 96, .ref 97, .ref 98, .ref 99, .ref 100, .ref 101, .int (v 2), .ref 102, .ref 103, .ref 104, .ref 105, .ref 106, .ref 107, .ref 108, .int (v 3), .ref 109, .int (v 4), .ref 110, .ref 111, .int (v 5), .ref 112, .int (nI l), .int (nI p), .int (nI 1), .ref 113, .int (nI (i + 1)), .ref 114, .ref 115, .ref 116, .ref 117]) fX12_readPath_332 rfl (lt_k (s1.le hn) (by decide)) ((xset_ne (by decide)).trans O1) (Nat.le_of_ble_eq_true rfl) rfl rfl rfl dX12_readPath_38 ?_
      refine AX.aload_n (pc := 41) dX12_readPath_41 rfl ?_
      refine AX.getf (pc := 42) fX12_readPath_313 (lt_k (s1.le hn) (by decide)) (xset_same _ _ _) rfl dX12_readPath_42 ?_
      refine AX.if_neN (pc := 45) (tgt := 70) dX12_readPath_45 (by decide) (by decide) (fun hc45 => ?_) (fun q => absurd q (by decide))
      refine AX.iconst (pc := 70) (v := nI 0) dX12_readPath_70 (by decide) ?_
      refine AX.istore_n (pc := 71) (L' := [.ref 87, .int (nI 0), .int u_]) dX12_readPath_71 (by decide) rfl ?_
      refine AX.aload_n (pc := 72) dX12_readPath_72 rfl ?_
      refine AX.dup (pc := 73) dX12_readPath_73 rfl ?_
      refine AX.getf (pc := 74) fX12_readPath_310 (lt_k (s1.le hn) (by decide)) (xset_same _ _ _) rfl dX12_readPath_74 ?_
      refine AX.iload_n (pc := 77) dX12_readPath_77 rfl ?_
      refine AX.if_eqN (pc := 78) (tgt := 85) dX12_readPath_78 (by decide) (by decide) (fun hc78 => ?_) (fun q => absurd q (by decide))
      refine AX.iconst (pc := 85) (v := nI 0) dX12_readPath_85 (by decide) ?_
      refine AX.iaddN (pc := 86) (c := p) dX12_readPath_86 rfl ?_
      refine AX.putf (pc := 87) (h := xset (xset h1 113 (.inl (0, 20, .inl (upd f i u_)))) 87 (.inr (11, [.ref 88, .ref 89, .ref 90, .int (v 0), .int (v 1), .ref 91, .ref 92, .ref 93, .ref 94, .ref 95, .ref 96, .ref 97, .ref 98, .ref 99, .ref 100, .ref 101, .int (v 2), .ref 102, .ref 103, .ref 104, .ref 105, .ref 106, .ref 107, .ref 108, .int (v 3), .ref 109, .int (v 4), .ref 110, .ref 111, .int (v 5), .ref 112, .int (nI l), .int (nI p), .int (nI 1), .ref 113, .int (nI (i + 1)), .ref 114, .ref 115, .ref 116, .ref 117]))) (a := 87) (fs' := [.ref 88, .ref 89, .ref 90, .int (v 0), .int (v 1), .ref 91, .ref 92, .ref 93, .ref 94, .ref 95, .ref 96, .ref 97, .ref 98, .ref 99, .ref 100, .ref 101, .int (v 2), .ref 102, .ref 103, .ref 104, .ref 105, .ref 106, .ref 107, .ref 108, .int (v 3), .ref 109, .int (v 4), .ref 110, .ref 111, .int (v 5), .ref 112, .int (nI l), .int (nI p), .int (nI 1), .ref 113, .int (nI (i + 1)), .ref 114, .ref 115, .ref 116, .ref 117]) fX12_readPath_310 rfl (lt_k (s1.le hn) (by decide)) (xset_same _ _ _) (Nat.le_of_ble_eq_true rfl) rfl rfl rfl dX12_readPath_87 ?_
      refine AX.goto (pc := 90) (tgt := 12) dX12_readPath_90 (by decide) ?_
      refine AX.iload_n (pc := 12) dX12_readPath_12 rfl ?_
      refine AX.if_eqN (pc := 13) (tgt := 93) dX12_readPath_13 (by decide) (by decide) (fun hc13 => ?_) (fun q => absurd q (by decide))
      refine AX.aload_n (pc := 93) dX12_readPath_93 rfl ?_
      refine AX.aload_n (pc := 94) dX12_readPath_94 rfl ?_
      refine AX.getf (pc := 95) fX12_readPath_313 (lt_k (s1.le hn) (by decide)) (xset_same _ _ _) rfl dX12_readPath_95 ?_
      refine AX.if_neN (pc := 98) (tgt := 112) dX12_readPath_98 (by decide) (by decide) (fun hc98 => ?_) (fun q => absurd q (by decide))
      refine AX.iconst (pc := 112) (v := nI 1) dX12_readPath_112 (by decide) ?_
      refine AX.goto (pc := 113) (tgt := 117) dX12_readPath_113 (by decide) ?_
      refine AX.putf (pc := 117) (h := xset (xset (xset h1 113 (.inl (0, 20, .inl (upd f i u_)))) 87 (.inr (11, [.ref 88, .ref 89, .ref 90, .int (v 0), .int (v 1), .ref 91, .ref 92, .ref 93, .ref 94, .ref 95, .ref 96, .ref 97, .ref 98, .ref 99, .ref 100, .ref 101, .int (v 2), .ref 102, .ref 103, .ref 104, .ref 105, .ref 106, .ref 107, .ref 108, .int (v 3), .ref 109, .int (v 4), .ref 110, .ref 111, .int (v 5), .ref 112, .int (nI l), .int (nI p), .int (nI 1), .ref 113, .int (nI (i + 1)), .ref 114, .ref 115, .ref 116, .ref 117]))) 87 (.inr (11, [.ref 88, .ref 89, .ref 90, .int (v 0), .int (v 1), .ref 91, .ref 92, .ref 93, .ref 94, .ref 95, .ref 96, .ref 97, .ref 98, .ref 99, .ref 100, .ref 101, .int (v 2), .ref 102, .ref 103, .ref 104, .ref 105, .ref 106, .ref 107, .ref 108, .int (v 3), .ref 109, .int (v 4), .ref 110, .ref 111, .int (v 5), .ref 112, .int (nI l), .int (nI p), .int (nI 1), .ref 113, .int (nI (i + 1)), .ref 114, .ref 115, .ref 116, .ref 117]))) (a := 87) (fs' := [.ref 88, .ref 89, .ref 90, .int (v 0), .int (v 1), .ref 91, .ref 92, .ref 93, .ref 94, .ref 95, .ref 96, .ref 97, .ref 98, .ref 99, .ref 100, .ref 101, .int (v 2), .ref 102, .ref 103, .ref 104, .ref 105, .ref 106, .ref 107, .ref 108, .int (v 3), .ref 109, .int (v 4), .ref 110, .ref 111, .int (v 5), .ref 112, .int (nI l), .int (nI p), .int (nI 1), .ref 113, .int (nI (i + 1)), .ref 114, .ref 115, .ref 116, .ref 117]) fX12_readPath_313 rfl (lt_k (s1.le hn) (by decide)) (xset_same _ _ _) (Nat.le_of_ble_eq_true rfl) rfl rfl rfl dX12_readPath_117 ?_
      refine AX.aload_n (pc := 120) dX12_readPath_120 rfl ?_
      refine AX.iconst (pc := 121) (v := nI 0) dX12_readPath_121 (by decide) ?_
      refine AX.putf (pc := 122) (h := xset (xset (xset (xset h1 113 (.inl (0, 20, .inl (upd f i u_)))) 87 (.inr (11, [.ref 88, .ref 89, .ref 90, .int (v 0), .int (v 1), .ref 91, .ref 92, .ref 93, .ref 94, .ref 95, .ref 96, .ref 97, .ref 98, .ref 99, .ref 100, .ref 101, .int (v 2), .ref 102, .ref 103, .ref 104, .ref 105, .ref 106, .ref 107, .ref 108, .int (v 3), .ref 109, .int (v 4), .ref 110, .ref 111, .int (v 5), .ref 112, .int (nI l), .int (nI p), .int (nI 1), .ref 113, .int (nI (i + 1)), .ref 114, .ref 115, .ref 116, .ref 117]))) 87 (.inr (11, [.ref 88, .ref 89, .ref 90, .int (v 0), .int (v 1), .ref 91, .ref 92, .ref 93, .ref 94, .ref 95, .ref 96, .ref 97, .ref 98, .ref 99, .ref 100, .ref 101, .int (v 2), .ref 102, .ref 103, .ref 104, .ref 105, .ref 106, .ref 107, .ref 108, .int (v 3), .ref 109, .int (v 4), .ref 110, .ref 111, .int (v 5), .ref 112, .int (nI l), .int (nI p), .int (nI 1), .ref 113, .int (nI (i + 1)), .ref 114, .ref 115, .ref 116, .ref 117]))) 87 (.inr (11, [.ref 88, .ref 89, .ref 90, .int (v 0), .int (v 1), .ref 91, .ref 92, .ref 93, .ref 94, .ref 95, .ref 96, .ref 97, .ref 98, .ref 99, .ref 100, .ref 101, .int (v 2), .ref 102, .ref 103, .ref 104, .ref 105, .ref 106, .ref 107, .ref 108, .int (v 3), .ref 109, .int (v 4), .ref 110, .ref 111, .int (v 5), .ref 112, .int (nI l), .int (nI p), .int (nI 1), .ref 113, .int (nI (i + 1)), .ref 114, .ref 115, .ref 116, .ref 117]))) (a := 87) (fs' := [.ref 88, .ref 89, .ref 90, .int (v 0), .int (v 1), .ref 91, .ref 92, .ref 93, .ref 94, .ref 95, .ref 96, .ref 97, .ref 98, .ref 99, .ref 100, .ref 101, .int (v 2), .ref 102, .ref 103, .ref 104, .ref 105, .ref 106, .ref 107, .ref 108, .int (v 3), .ref 109, .int (v 4), .ref 110, .ref 111, .int (v 5), .ref 112, .int (nI 0), .int (nI p), .int (nI 1), .ref 113, .int (nI (i + 1)), .ref 114, .ref 115, .ref 116, .ref 117]) fX12_readPath_301 rfl (lt_k (s1.le hn) (by decide)) (xset_same _ _ _) (Nat.le_of_ble_eq_true rfl) rfl rfl rfl dX12_readPath_122 ?_
      refine AX.aload_n (pc := 125) dX12_readPath_125 rfl ?_
      refine AX.getf (pc := 126) fX12_readPath_313 (lt_k (s1.le hn) (by decide)) (xset_same _ _ _) rfl dX12_readPath_126 ?_
      refine AX.if_neN (pc := 129) (tgt := 136) dX12_readPath_129 (by decide) (by decide) (fun hc129 => ?_) (fun q => absurd q (by decide))
      refine AX.iconst (pc := 136) (v := nI 0) dX12_readPath_136 (by decide) ?_
      refine AX.iret (pc := 137) dX12_readPath_137 rfl rfl (by decide) (by decide) ?_
      have sx : Same [87, 113] h1 (xset (xset (xset (xset (xset h1 113 (.inl (0, 20, .inl (upd f i u_)))) 87 (.inr (11, [.ref 88, .ref 89, .ref 90, .int (v 0), .int (v 1), .ref 91, .ref 92, .ref 93, .ref 94, .ref 95, .ref 96, .ref 97, .ref 98, .ref 99, .ref 100, .ref 101, .int (v 2), .ref 102, .ref 103, .ref 104, .ref 105, .ref 106, .ref 107, .ref 108, .int (v 3), .ref 109, .int (v 4), .ref 110, .ref 111, .int (v 5), .ref 112, .int (nI l), .int (nI p), .int (nI 1), .ref 113, .int (nI (i + 1)), .ref 114, .ref 115, .ref 116, .ref 117]))) 87 (.inr (11, [.ref 88, .ref 89, .ref 90, .int (v 0), .int (v 1), .ref 91, .ref 92, .ref 93, .ref 94, .ref 95, .ref 96, .ref 97, .ref 98, .ref 99, .ref 100, .ref 101, .int (v 2), .ref 102, .ref 103, .ref 104, .ref 105, .ref 106, .ref 107, .ref 108, .int (v 3), .ref 109, .int (v 4), .ref 110, .ref 111, .int (v 5), .ref 112, .int (nI l), .int (nI p), .int (nI 1), .ref 113, .int (nI (i + 1)), .ref 114, .ref 115, .ref 116, .ref 117]))) 87 (.inr (11, [.ref 88, .ref 89, .ref 90, .int (v 0), .int (v 1), .ref 91, .ref 92, .ref 93, .ref 94, .ref 95, .ref 96, .ref 97, .ref 98, .ref 99, .ref 100, .ref 101, .int (v 2), .ref 102, .ref 103, .ref 104, .ref 105, .ref 106, .ref 107, .ref 108, .int (v 3), .ref 109, .int (v 4), .ref 110, .ref 111, .int (v 5), .ref 112, .int (nI l), .int (nI p), .int (nI 1), .ref 113, .int (nI (i + 1)), .ref 114, .ref 115, .ref 116, .ref 117]))) 87 (.inr (11, [.ref 88, .ref 89, .ref 90, .int (v 0), .int (v 1), .ref 91, .ref 92, .ref 93, .ref 94, .ref 95, .ref 96, .ref 97, .ref 98, .ref 99, .ref 100, .ref 101, .int (v 2), .ref 102, .ref 103, .ref 104, .ref 105, .ref 106, .ref 107, .ref 108, .int (v 3), .ref 109, .int (v 4), .ref 110, .ref 111, .int (v 5), .ref 112, .int (nI 0), .int (nI p), .int (nI 1), .ref 113, .int (nI (i + 1)), .ref 114, .ref 115, .ref 116, .ref 117]))) := Same.set (Same.set (Same.set (Same.set (Same.set (Same.rf) (by simp)) (by simp)) (by simp)) (by simp)) (by simp)
      refine hP _ _ (hS.trans ((s1.wide (by decide)).trans sx)) ?_
      rw [← hR, hz]
      exact ⟨rfl, ⟨_, (xset_same _ _ _)⟩, _, ((xset_ne (by decide)).trans ((xset_ne (by decide)).trans ((xset_ne (by decide)).trans ((xset_ne (by decide)).trans (xset_same _ _ _)))))⟩
    | inr q =>
      obtain ⟨n, s⟩ := q
      rw [hp] at hle hz
      have hle : 1 ≤ n ∧ a + n ≤ l ∧ s < 63 := hle
      have hz : ptN y l (g + 1) a X = (if l ≤ a + n then .inr (X ++ [s]) else if y (a + n) = 32 then ptN y l g (a + n + 1) (X ++ [s]) else .inl (a + n)) := hz
      by_cases c1 : l ≤ a + n
      · rw [if_pos c1] at hz
        by_cases c2 : g = 0
        · refine AX.iload_n (pc := 12) dX12_readPath_12 rfl ?_
          refine AX.if_eqN (pc := 13) (tgt := 93) dX12_readPath_13 (by decide) (by decide) (fun q => absurd q (by decide)) (fun hc13 => ?_)
          refine AX.aload_n (pc := 16) dX12_readPath_16 rfl ?_
          refine AX.callV (pc := 17) (M2 := M_X12_readSpot) (As := []) (rest := []) (c_readSpot w h hl60 ha hn hO hT) xc_X12_readPath__X12_readSpot gX12_readPath_X12_readSpot (ci := 11) rfl (lt_k hn (by decide)) hO rfl (Nat.le_of_ble_eq_true rfl) dX12_readPath_17 ?_
          rintro v1 h1 ⟨s1, R1⟩
          rw [hp] at R1
          obtain ⟨rfl, O1⟩ := R1
          have O1 : h1.2 87 = .inr (11, [.ref 88, .ref 89, .ref 90, .int (v 0), .int (v 1), .ref 91, .ref 92, .ref 93, .ref 94, .ref 95, .ref 96, .ref 97, .ref 98, .ref 99, .ref 100, .ref 101, .int (v 2), .ref 102, .ref 103, .ref 104, .ref 105, .ref 106, .ref 107, .ref 108, .int (v 3), .ref 109, .int (v 4), .ref 110, .ref 111, .int (v 5), .ref 112, .int (nI l), .int (nI (a + n)), .int (nI 0), .ref 113, .int (nI i), .ref 114, .ref 115, .ref 116, .ref 117]) := O1
          have n1 := s1.le hn
          have t1 := hT.same s1 (by simp)
          show AX w M_X12_readPath 0 0 20 [.ref 87, .int (nI 1), .null] [.int (nI s)] _ _
          refine AX.istore_n (pc := 20) (L' := [.ref 87, .int (nI 1), .int (nI s)]) dX12_readPath_20 (by decide) rfl ?_
          refine AX.aload_n (pc := 21) dX12_readPath_21 rfl ?_
          refine AX.getf (pc := 22) fX12_readPath_87 (lt_k (s1.le hn) (by decide)) O1 rfl dX12_readPath_22 ?_
          refine AX.aload_n (pc := 25) dX12_readPath_25 rfl ?_
          refine AX.getf (pc := 26) fX12_readPath_332 (lt_k (s1.le hn) (by decide)) O1 rfl dX12_readPath_26 ?_
          refine AX.iload_n (pc := 29) dX12_readPath_29 rfl ?_
          refine AX.iastN (pc := 30) (i := i) (g := upd f i (nI s)) (lt_k (s1.le hn) (by decide)) (s1.at (by simp) e113) (by decide) (by omega) rfl dX12_readPath_30 ?_
          refine AX.aload_n (pc := 31) dX12_readPath_31 rfl ?_
          refine AX.dup (pc := 32) dX12_readPath_32 rfl ?_
          refine AX.getf (pc := 33) fX12_readPath_332 (lt_k (s1.le hn) (by decide)) ((xset_ne (by decide)).trans O1) rfl dX12_readPath_33 ?_
          refine AX.iconst (pc := 36) (v := nI 1) dX12_readPath_36 (by decide) ?_
          refine AX.iaddN (pc := 37) (c := i + 1) dX12_readPath_37 rfl ?_
          refine AX.putf (pc := 38) (h := xset h1 113 (.inl (0, 20, .inl (upd f i (nI s))))) (a := 87) (fs' := [.ref 88, .ref 89, .ref 90, .int (v 0), .int (v 1), .ref 91, .ref 92, .ref 93, .ref 94, .ref 95, .ref 96, .ref 97, .ref 98, .ref 99, .ref 100, .ref 101, .int (v 2), .ref 102, .ref 103, .ref 104, .ref 105, .ref 106, .ref 107, .ref 108, .int (v 3), .ref 109, .int (v 4), .ref 110, .ref 111, .int (v 5), .ref 112, .int (nI l), .int (nI (a + n)), .int (nI 0), .ref 113, .int (nI (i + 1)), .ref 114, .ref 115, .ref 116, .ref 117]) fX12_readPath_332 rfl (lt_k (s1.le hn) (by decide)) ((xset_ne (by decide)).trans O1) (Nat.le_of_ble_eq_true rfl) rfl rfl rfl dX12_readPath_38 ?_
          refine AX.aload_n (pc := 41) dX12_readPath_41 rfl ?_
          refine AX.getf (pc := 42) fX12_readPath_313 (lt_k (s1.le hn) (by decide)) (xset_same _ _ _) rfl dX12_readPath_42 ?_
          refine AX.if_neN (pc := 45) (tgt := 70) dX12_readPath_45 (by decide) (by decide) (fun q => absurd q (by decide)) (fun hc45 => ?_)
          refine AX.aload_n (pc := 48) dX12_readPath_48 rfl ?_
          refine AX.getf (pc := 49) fX12_readPath_332 (lt_k (s1.le hn) (by decide)) (xset_same _ _ _) rfl dX12_readPath_49 ?_
          refine AX.bipush (pc := 52) (v := nI 12) dX12_readPath_52 (by decide) ?_
          refine AX.icmp_geN (pc := 54) (tgt := 70) dX12_readPath_54 (by decide) (by omega) (by decide) (fun hc54 => ?_) (fun q => absurd q (by omega))
          refine AX.iconst (pc := 70) (v := nI 0) dX12_readPath_70 (by decide) ?_
          refine AX.istore_n (pc := 71) (L' := [.ref 87, .int (nI 0), .int (nI s)]) dX12_readPath_71 (by decide) rfl ?_
          refine AX.aload_n (pc := 72) dX12_readPath_72 rfl ?_
          refine AX.dup (pc := 73) dX12_readPath_73 rfl ?_
          refine AX.getf (pc := 74) fX12_readPath_310 (lt_k (s1.le hn) (by decide)) (xset_same _ _ _) rfl dX12_readPath_74 ?_
          refine AX.iload_n (pc := 77) dX12_readPath_77 rfl ?_
          refine AX.if_eqN (pc := 78) (tgt := 85) dX12_readPath_78 (by decide) (by decide) (fun hc78 => ?_) (fun q => absurd q (by decide))
          refine AX.iconst (pc := 85) (v := nI 0) dX12_readPath_85 (by decide) ?_
          refine AX.iaddN (pc := 86) (c := a + n) dX12_readPath_86 rfl ?_
          refine AX.putf (pc := 87) (h := xset (xset h1 113 (.inl (0, 20, .inl (upd f i (nI s))))) 87 (.inr (11, [.ref 88, .ref 89, .ref 90, .int (v 0), .int (v 1), .ref 91, .ref 92, .ref 93, .ref 94, .ref 95, .ref 96, .ref 97, .ref 98, .ref 99, .ref 100, .ref 101, .int (v 2), .ref 102, .ref 103, .ref 104, .ref 105, .ref 106, .ref 107, .ref 108, .int (v 3), .ref 109, .int (v 4), .ref 110, .ref 111, .int (v 5), .ref 112, .int (nI l), .int (nI (a + n)), .int (nI 0), .ref 113, .int (nI (i + 1)), .ref 114, .ref 115, .ref 116, .ref 117]))) (a := 87) (fs' := [.ref 88, .ref 89, .ref 90, .int (v 0), .int (v 1), .ref 91, .ref 92, .ref 93, .ref 94, .ref 95, .ref 96, .ref 97, .ref 98, .ref 99, .ref 100, .ref 101, .int (v 2), .ref 102, .ref 103, .ref 104, .ref 105, .ref 106, .ref 107, .ref 108, .int (v 3), .ref 109, .int (v 4), .ref 110, .ref 111, .int (v 5), .ref 112, .int (nI l), .int (nI (a + n)), .int (nI 0), .ref 113, .int (nI (i + 1)), .ref 114, .ref 115, .ref 116, .ref 117]) fX12_readPath_310 rfl (lt_k (s1.le hn) (by decide)) (xset_same _ _ _) (Nat.le_of_ble_eq_true rfl) rfl rfl rfl dX12_readPath_87 ?_
          refine AX.goto (pc := 90) (tgt := 12) dX12_readPath_90 (by decide) ?_
          refine AX.iload_n (pc := 12) dX12_readPath_12 rfl ?_
          refine AX.if_eqN (pc := 13) (tgt := 93) dX12_readPath_13 (by decide) (by decide) (fun hc13 => ?_) (fun q => absurd q (by decide))
          refine AX.aload_n (pc := 93) dX12_readPath_93 rfl ?_
          refine AX.aload_n (pc := 94) dX12_readPath_94 rfl ?_
          refine AX.getf (pc := 95) fX12_readPath_313 (lt_k (s1.le hn) (by decide)) (xset_same _ _ _) rfl dX12_readPath_95 ?_
          refine AX.if_neN (pc := 98) (tgt := 112) dX12_readPath_98 (by decide) (by decide) (fun q => absurd q (by decide)) (fun hc98 => ?_)
          refine AX.aload_n (pc := 101) dX12_readPath_101 rfl ?_
          refine AX.getf (pc := 102) fX12_readPath_310 (lt_k (s1.le hn) (by decide)) (xset_same _ _ _) rfl dX12_readPath_102 ?_
          refine AX.aload_n (pc := 105) dX12_readPath_105 rfl ?_
          refine AX.getf (pc := 106) fX12_readPath_301 (lt_k (s1.le hn) (by decide)) (xset_same _ _ _) rfl dX12_readPath_106 ?_
          refine AX.icmp_geN (pc := 109) (tgt := 116) dX12_readPath_109 (by decide) (by omega) (by omega) (fun hc109 => ?_) (fun q => absurd q (by omega))
          refine AX.iconst (pc := 116) (v := nI 0) dX12_readPath_116 (by decide) ?_
          refine AX.putf (pc := 117) (h := xset (xset (xset h1 113 (.inl (0, 20, .inl (upd f i (nI s))))) 87 (.inr (11, [.ref 88, .ref 89, .ref 90, .int (v 0), .int (v 1), .ref 91, .ref 92, .ref 93, .ref 94, .ref 95, .ref 96, .ref 97, .ref 98, .ref 99, .ref 100, .ref 101, .int (v 2), .ref 102, .ref 103, .ref 104, .ref 105, .ref 106, .ref 107, .ref 108, .int (v 3), .ref 109, .int (v 4), .ref 110, .ref 111, .int (v 5), .ref 112, .int (nI l), .int (nI (a + n)), .int (nI 0), .ref 113, .int (nI (i + 1)), .ref 114, .ref 115, .ref 116, .ref 117]))) 87 (.inr (11, [.ref 88, .ref 89, .ref 90, .int (v 0), .int (v 1), .ref 91, .ref 92, .ref 93, .ref 94, .ref 95, .ref 96, .ref 97, .ref 98, .ref 99, .ref 100, .ref 101, .int (v 2), .ref 102, .ref 103, .ref 104, .ref 105, .ref 106, .ref 107, .ref 108, .int (v 3), .ref 109, .int (v 4), .ref 110, .ref 111, .int (v 5), .ref 112, .int (nI l), .int (nI (a + n)), .int (nI 0), .ref 113, .int (nI (i + 1)), .ref 114, .ref 115, .ref 116, .ref 117]))) (a := 87) (fs' := [.ref 88, .ref 89, .ref 90, .int (v 0), .int (v 1), .ref 91, .ref 92, .ref 93, .ref 94, .ref 95, .ref 96, .ref 97, .ref 98, .ref 99, .ref 100, .ref 101, .int (v 2), .ref 102, .ref 103, .ref 104, .ref 105, .ref 106, .ref 107, .ref 108, .int (v 3), .ref 109, .int (v 4), .ref 110, .ref 111, .int (v 5), .ref 112, .int (nI l), .int (nI (a + n)), .int (nI 0), .ref 113, .int (nI (i + 1)), .ref 114, .ref 115, .ref 116, .ref 117]) fX12_readPath_313 rfl (lt_k (s1.le hn) (by decide)) (xset_same _ _ _) (Nat.le_of_ble_eq_true rfl) rfl rfl rfl dX12_readPath_117 ?_
          refine AX.aload_n (pc := 120) dX12_readPath_120 rfl ?_
          refine AX.iconst (pc := 121) (v := nI 0) dX12_readPath_121 (by decide) ?_
          refine AX.putf (pc := 122) (h := xset (xset (xset (xset h1 113 (.inl (0, 20, .inl (upd f i (nI s))))) 87 (.inr (11, [.ref 88, .ref 89, .ref 90, .int (v 0), .int (v 1), .ref 91, .ref 92, .ref 93, .ref 94, .ref 95, .ref 96, .ref 97, .ref 98, .ref 99, .ref 100, .ref 101, .int (v 2), .ref 102, .ref 103, .ref 104, .ref 105, .ref 106, .ref 107, .ref 108, .int (v 3), .ref 109, .int (v 4), .ref 110, .ref 111, .int (v 5), .ref 112, .int (nI l), .int (nI (a + n)), .int (nI 0), .ref 113, .int (nI (i + 1)), .ref 114, .ref 115, .ref 116, .ref 117]))) 87 (.inr (11, [.ref 88, .ref 89, .ref 90, .int (v 0), .int (v 1), .ref 91, .ref 92, .ref 93, .ref 94, .ref 95, .ref 96, .ref 97, .ref 98, .ref 99, .ref 100, .ref 101, .int (v 2), .ref 102, .ref 103, .ref 104, .ref 105, .ref 106, .ref 107, .ref 108, .int (v 3), .ref 109, .int (v 4), .ref 110, .ref 111, .int (v 5), .ref 112, .int (nI l), .int (nI (a + n)), .int (nI 0), .ref 113, .int (nI (i + 1)), .ref 114, .ref 115, .ref 116, .ref 117]))) 87 (.inr (11, [.ref 88, .ref 89, .ref 90, .int (v 0), .int (v 1), .ref 91, .ref 92, .ref 93, .ref 94, .ref 95, .ref 96, .ref 97, .ref 98, .ref 99, .ref 100, .ref 101, .int (v 2), .ref 102, .ref 103, .ref 104, .ref 105, .ref 106, .ref 107, .ref 108, .int (v 3), .ref 109, .int (v 4), .ref 110, .ref 111, .int (v 5), .ref 112, .int (nI l), .int (nI (a + n)), .int (nI 0), .ref 113, .int (nI (i + 1)), .ref 114, .ref 115, .ref 116, .ref 117]))) (a := 87) (fs' := [.ref 88, .ref 89, .ref 90, .int (v 0), .int (v 1), .ref 91, .ref 92, .ref 93, .ref 94, .ref 95, .ref 96, .ref 97, .ref 98, .ref 99, .ref 100, .ref 101, .int (v 2), .ref 102, .ref 103, .ref 104, .ref 105, .ref 106, .ref 107, .ref 108, .int (v 3), .ref 109, .int (v 4), .ref 110, .ref 111, .int (v 5), .ref 112, .int (nI 0), .int (nI (a + n)), .int (nI 0), .ref 113, .int (nI (i + 1)), .ref 114, .ref 115, .ref 116, .ref 117]) fX12_readPath_301 rfl (lt_k (s1.le hn) (by decide)) (xset_same _ _ _) (Nat.le_of_ble_eq_true rfl) rfl rfl rfl dX12_readPath_122 ?_
          refine AX.aload_n (pc := 125) dX12_readPath_125 rfl ?_
          refine AX.getf (pc := 126) fX12_readPath_313 (lt_k (s1.le hn) (by decide)) (xset_same _ _ _) rfl dX12_readPath_126 ?_
          refine AX.if_neN (pc := 129) (tgt := 136) dX12_readPath_129 (by decide) (by decide) (fun q => absurd q (by decide)) (fun hc129 => ?_)
          refine AX.iconst (pc := 132) (v := nI 1) dX12_readPath_132 (by decide) ?_
          refine AX.goto (pc := 133) (tgt := 137) dX12_readPath_133 (by decide) ?_
          refine AX.iret (pc := 137) dX12_readPath_137 rfl rfl (by decide) (by decide) ?_
          have sx : Same [87, 113] h1 (xset (xset (xset (xset (xset h1 113 (.inl (0, 20, .inl (upd f i (nI s))))) 87 (.inr (11, [.ref 88, .ref 89, .ref 90, .int (v 0), .int (v 1), .ref 91, .ref 92, .ref 93, .ref 94, .ref 95, .ref 96, .ref 97, .ref 98, .ref 99, .ref 100, .ref 101, .int (v 2), .ref 102, .ref 103, .ref 104, .ref 105, .ref 106, .ref 107, .ref 108, .int (v 3), .ref 109, .int (v 4), .ref 110, .ref 111, .int (v 5), .ref 112, .int (nI l), .int (nI (a + n)), .int (nI 0), .ref 113, .int (nI (i + 1)), .ref 114, .ref 115, .ref 116, .ref 117]))) 87 (.inr (11, [.ref 88, .ref 89, .ref 90, .int (v 0), .int (v 1), .ref 91, .ref 92, .ref 93, .ref 94, .ref 95, .ref 96, .ref 97, .ref 98, .ref 99, .ref 100, .ref 101, .int (v 2), .ref 102, .ref 103, .ref 104, .ref 105, .ref 106, .ref 107, .ref 108, .int (v 3), .ref 109, .int (v 4), .ref 110, .ref 111, .int (v 5), .ref 112, .int (nI l), .int (nI (a + n)), .int (nI 0), .ref 113, .int (nI (i + 1)), .ref 114, .ref 115, .ref 116, .ref 117]))) 87 (.inr (11, [.ref 88, .ref 89, .ref 90, .int (v 0), .int (v 1), .ref 91, .ref 92, .ref 93, .ref 94, .ref 95, .ref 96, .ref 97, .ref 98, .ref 99, .ref 100, .ref 101, .int (v 2), .ref 102, .ref 103, .ref 104, .ref 105, .ref 106, .ref 107, .ref 108, .int (v 3), .ref 109, .int (v 4), .ref 110, .ref 111, .int (v 5), .ref 112, .int (nI l), .int (nI (a + n)), .int (nI 0), .ref 113, .int (nI (i + 1)), .ref 114, .ref 115, .ref 116, .ref 117]))) 87 (.inr (11, [.ref 88, .ref 89, .ref 90, .int (v 0), .int (v 1), .ref 91, .ref 92, .ref 93, .ref 94, .ref 95, .ref 96, .ref 97, .ref 98, .ref 99, .ref 100, .ref 101, .int (v 2), .ref 102, .ref 103, .ref 104, .ref 105, .ref 106, .ref 107, .ref 108, .int (v 3), .ref 109, .int (v 4), .ref 110, .ref 111, .int (v 5), .ref 112, .int (nI 0), .int (nI (a + n)), .int (nI 0), .ref 113, .int (nI (i + 1)), .ref 114, .ref 115, .ref 116, .ref 117]))) := Same.set (Same.set (Same.set (Same.set (Same.set (Same.rf) (by simp)) (by simp)) (by simp)) (by simp)) (by simp)
          refine hP _ _ (hS.trans ((s1.wide (by decide)).trans sx)) ?_
          rw [← hR, hz]
          have el : (X ++ [s]).length = i + 1 := by rw [List.length_append, hi]; rfl
          refine ⟨rfl, ⟨a + n, ?_⟩, _, ((xset_ne (by decide)).trans ((xset_ne (by decide)).trans ((xset_ne (by decide)).trans ((xset_ne (by decide)).trans (xset_same _ _ _))))), ?_⟩
          · rw [el]
            exact (xset_same _ _ _)
          · have q := getD_push (c := s) hf
            rw [hi] at q
            exact q
        refine AX.iload_n (pc := 12) dX12_readPath_12 rfl ?_
        refine AX.if_eqN (pc := 13) (tgt := 93) dX12_readPath_13 (by decide) (by decide) (fun q => absurd q (by decide)) (fun hc13 => ?_)
        refine AX.aload_n (pc := 16) dX12_readPath_16 rfl ?_
        refine AX.callV (pc := 17) (M2 := M_X12_readSpot) (As := []) (rest := []) (c_readSpot w h hl60 ha hn hO hT) xc_X12_readPath__X12_readSpot gX12_readPath_X12_readSpot (ci := 11) rfl (lt_k hn (by decide)) hO rfl (Nat.le_of_ble_eq_true rfl) dX12_readPath_17 ?_
        rintro v1 h1 ⟨s1, R1⟩
        rw [hp] at R1
        obtain ⟨rfl, O1⟩ := R1
        have O1 : h1.2 87 = .inr (11, [.ref 88, .ref 89, .ref 90, .int (v 0), .int (v 1), .ref 91, .ref 92, .ref 93, .ref 94, .ref 95, .ref 96, .ref 97, .ref 98, .ref 99, .ref 100, .ref 101, .int (v 2), .ref 102, .ref 103, .ref 104, .ref 105, .ref 106, .ref 107, .ref 108, .int (v 3), .ref 109, .int (v 4), .ref 110, .ref 111, .int (v 5), .ref 112, .int (nI l), .int (nI (a + n)), .int (nI 0), .ref 113, .int (nI i), .ref 114, .ref 115, .ref 116, .ref 117]) := O1
        have n1 := s1.le hn
        have t1 := hT.same s1 (by simp)
        show AX w M_X12_readPath 0 0 20 [.ref 87, .int (nI 1), .null] [.int (nI s)] _ _
        refine AX.istore_n (pc := 20) (L' := [.ref 87, .int (nI 1), .int (nI s)]) dX12_readPath_20 (by decide) rfl ?_
        refine AX.aload_n (pc := 21) dX12_readPath_21 rfl ?_
        refine AX.getf (pc := 22) fX12_readPath_87 (lt_k (s1.le hn) (by decide)) O1 rfl dX12_readPath_22 ?_
        refine AX.aload_n (pc := 25) dX12_readPath_25 rfl ?_
        refine AX.getf (pc := 26) fX12_readPath_332 (lt_k (s1.le hn) (by decide)) O1 rfl dX12_readPath_26 ?_
        refine AX.iload_n (pc := 29) dX12_readPath_29 rfl ?_
        refine AX.iastN (pc := 30) (i := i) (g := upd f i (nI s)) (lt_k (s1.le hn) (by decide)) (s1.at (by simp) e113) (by decide) (by omega) rfl dX12_readPath_30 ?_
        refine AX.aload_n (pc := 31) dX12_readPath_31 rfl ?_
        refine AX.dup (pc := 32) dX12_readPath_32 rfl ?_
        refine AX.getf (pc := 33) fX12_readPath_332 (lt_k (s1.le hn) (by decide)) ((xset_ne (by decide)).trans O1) rfl dX12_readPath_33 ?_
        refine AX.iconst (pc := 36) (v := nI 1) dX12_readPath_36 (by decide) ?_
        refine AX.iaddN (pc := 37) (c := i + 1) dX12_readPath_37 rfl ?_
        refine AX.putf (pc := 38) (h := xset h1 113 (.inl (0, 20, .inl (upd f i (nI s))))) (a := 87) (fs' := [.ref 88, .ref 89, .ref 90, .int (v 0), .int (v 1), .ref 91, .ref 92, .ref 93, .ref 94, .ref 95, .ref 96, .ref 97, .ref 98, .ref 99, .ref 100, .ref 101, .int (v 2), .ref 102, .ref 103, .ref 104, .ref 105, .ref 106, .ref 107, .ref 108, .int (v 3), .ref 109, .int (v 4), .ref 110, .ref 111, .int (v 5), .ref 112, .int (nI l), .int (nI (a + n)), .int (nI 0), .ref 113, .int (nI (i + 1)), .ref 114, .ref 115, .ref 116, .ref 117]) fX12_readPath_332 rfl (lt_k (s1.le hn) (by decide)) ((xset_ne (by decide)).trans O1) (Nat.le_of_ble_eq_true rfl) rfl rfl rfl dX12_readPath_38 ?_
        refine AX.aload_n (pc := 41) dX12_readPath_41 rfl ?_
        refine AX.getf (pc := 42) fX12_readPath_313 (lt_k (s1.le hn) (by decide)) (xset_same _ _ _) rfl dX12_readPath_42 ?_
        refine AX.if_neN (pc := 45) (tgt := 70) dX12_readPath_45 (by decide) (by decide) (fun q => absurd q (by decide)) (fun hc45 => ?_)
        refine AX.aload_n (pc := 48) dX12_readPath_48 rfl ?_
        refine AX.getf (pc := 49) fX12_readPath_332 (lt_k (s1.le hn) (by decide)) (xset_same _ _ _) rfl dX12_readPath_49 ?_
        refine AX.bipush (pc := 52) (v := nI 12) dX12_readPath_52 (by decide) ?_
        refine AX.icmp_geN (pc := 54) (tgt := 70) dX12_readPath_54 (by decide) (by omega) (by decide) (fun q => absurd q (by omega)) (fun hc54 => ?_)
        have sx : Same [87, 113] h1 (xset (xset h1 113 (.inl (0, 20, .inl (upd f i (nI s))))) 87 (.inr (11, [.ref 88, .ref 89, .ref 90, .int (v 0), .int (v 1), .ref 91, .ref 92, .ref 93, .ref 94, .ref 95, .ref 96, .ref 97, .ref 98, .ref 99, .ref 100, .ref 101, .int (v 2), .ref 102, .ref 103, .ref 104, .ref 105, .ref 106, .ref 107, .ref 108, .int (v 3), .ref 109, .int (v 4), .ref 110, .ref 111, .int (v 5), .ref 112, .int (nI l), .int (nI (a + n)), .int (nI 0), .ref 113, .int (nI (i + 1)), .ref 114, .ref 115, .ref 116, .ref 117]))) := Same.set (Same.set (Same.rf) (by simp)) (by simp)
        have Ox : TM (xset (xset h1 113 (.inl (0, 20, .inl (upd f i (nI s))))) 87 (.inr (11, [.ref 88, .ref 89, .ref 90, .int (v 0), .int (v 1), .ref 91, .ref 92, .ref 93, .ref 94, .ref 95, .ref 96, .ref 97, .ref 98, .ref 99, .ref 100, .ref 101, .int (v 2), .ref 102, .ref 103, .ref 104, .ref 105, .ref 106, .ref 107, .ref 108, .int (v 3), .ref 109, .int (v 4), .ref 110, .ref 111, .int (v 5), .ref 112, .int (nI l), .int (nI (a + n)), .int (nI 0), .ref 113, .int (nI (i + 1)), .ref 114, .ref 115, .ref 116, .ref 117]))) v l (a + n) (nI 0) (i + 1) := (xset_same _ _ _)
        refine AX.aload_n (pc := 57) dX12_readPath_57 rfl ?_
        refine AX.callV (pc := 58) (M2 := M_X12_here) (As := []) (rest := []) (c_hereOut w (xset (xset h1 113 (.inl (0, 20, .inl (upd f i (nI s))))) 87 (.inr (11, [.ref 88, .ref 89, .ref 90, .int (v 0), .int (v 1), .ref 91, .ref 92, .ref 93, .ref 94, .ref 95, .ref 96, .ref 97, .ref 98, .ref 99, .ref 100, .ref 101, .int (v 2), .ref 102, .ref 103, .ref 104, .ref 105, .ref 106, .ref 107, .ref 108, .int (v 3), .ref 109, .int (v 4), .ref 110, .ref 111, .int (v 5), .ref 112, .int (nI l), .int (nI (a + n)), .int (nI 0), .ref 113, .int (nI (i + 1)), .ref 114, .ref 115, .ref 116, .ref 117]))) (y := y) (sx.le n1) Ox (t1.same sx (by simp)) (by omega) hl60 (by omega)) xc_X12_readPath__X12_here gX12_readPath_X12_here (ci := 11) rfl (lt_k (s1.le hn) (by decide)) (xset_same _ _ _) rfl (Nat.le_of_ble_eq_true rfl) dX12_readPath_58 ?_
        rintro _ h9 ⟨rfl, e9⟩
        have e9 := e9.symm
        subst e9
        show AX w M_X12_readPath 0 0 61 [.ref 87, .int (nI 1), .int (nI s)] [.int (-1)] _ _
        refine AX.bipush (pc := 61) (v := nI 32) dX12_readPath_61 (by decide) ?_
        refine AX.icmp_ne (pc := 63) (tgt := 70) dX12_readPath_63 (by decide) (fun hc63 => ?_) (fun q => absurd q (neT iM1 (iN 32 (by omega)) (by omega)))
        refine AX.iconst (pc := 70) (v := nI 0) dX12_readPath_70 (by decide) ?_
        refine AX.istore_n (pc := 71) (L' := [.ref 87, .int (nI 0), .int (nI s)]) dX12_readPath_71 (by decide) rfl ?_
        refine AX.aload_n (pc := 72) dX12_readPath_72 rfl ?_
        refine AX.dup (pc := 73) dX12_readPath_73 rfl ?_
        refine AX.getf (pc := 74) fX12_readPath_310 (lt_k (s1.le hn) (by decide)) (xset_same _ _ _) rfl dX12_readPath_74 ?_
        refine AX.iload_n (pc := 77) dX12_readPath_77 rfl ?_
        refine AX.if_eqN (pc := 78) (tgt := 85) dX12_readPath_78 (by decide) (by decide) (fun hc78 => ?_) (fun q => absurd q (by decide))
        refine AX.iconst (pc := 85) (v := nI 0) dX12_readPath_85 (by decide) ?_
        refine AX.iaddN (pc := 86) (c := a + n) dX12_readPath_86 rfl ?_
        refine AX.putf (pc := 87) (h := xset (xset h1 113 (.inl (0, 20, .inl (upd f i (nI s))))) 87 (.inr (11, [.ref 88, .ref 89, .ref 90, .int (v 0), .int (v 1), .ref 91, .ref 92, .ref 93, .ref 94, .ref 95, .ref 96, .ref 97, .ref 98, .ref 99, .ref 100, .ref 101, .int (v 2), .ref 102, .ref 103, .ref 104, .ref 105, .ref 106, .ref 107, .ref 108, .int (v 3), .ref 109, .int (v 4), .ref 110, .ref 111, .int (v 5), .ref 112, .int (nI l), .int (nI (a + n)), .int (nI 0), .ref 113, .int (nI (i + 1)), .ref 114, .ref 115, .ref 116, .ref 117]))) (a := 87) (fs' := [.ref 88, .ref 89, .ref 90, .int (v 0), .int (v 1), .ref 91, .ref 92, .ref 93, .ref 94, .ref 95, .ref 96, .ref 97, .ref 98, .ref 99, .ref 100, .ref 101, .int (v 2), .ref 102, .ref 103, .ref 104, .ref 105, .ref 106, .ref 107, .ref 108, .int (v 3), .ref 109, .int (v 4), .ref 110, .ref 111, .int (v 5), .ref 112, .int (nI l), .int (nI (a + n)), .int (nI 0), .ref 113, .int (nI (i + 1)), .ref 114, .ref 115, .ref 116, .ref 117]) fX12_readPath_310 rfl (lt_k (s1.le hn) (by decide)) (xset_same _ _ _) (Nat.le_of_ble_eq_true rfl) rfl rfl rfl dX12_readPath_87 ?_
        refine AX.goto (pc := 90) (tgt := 12) dX12_readPath_90 (by decide) ?_
        refine AX.iload_n (pc := 12) dX12_readPath_12 rfl ?_
        refine AX.if_eqN (pc := 13) (tgt := 93) dX12_readPath_13 (by decide) (by decide) (fun hc13 => ?_) (fun q => absurd q (by decide))
        refine AX.aload_n (pc := 93) dX12_readPath_93 rfl ?_
        refine AX.aload_n (pc := 94) dX12_readPath_94 rfl ?_
        refine AX.getf (pc := 95) fX12_readPath_313 (lt_k (s1.le hn) (by decide)) (xset_same _ _ _) rfl dX12_readPath_95 ?_
        refine AX.if_neN (pc := 98) (tgt := 112) dX12_readPath_98 (by decide) (by decide) (fun q => absurd q (by decide)) (fun hc98 => ?_)
        refine AX.aload_n (pc := 101) dX12_readPath_101 rfl ?_
        refine AX.getf (pc := 102) fX12_readPath_310 (lt_k (s1.le hn) (by decide)) (xset_same _ _ _) rfl dX12_readPath_102 ?_
        refine AX.aload_n (pc := 105) dX12_readPath_105 rfl ?_
        refine AX.getf (pc := 106) fX12_readPath_301 (lt_k (s1.le hn) (by decide)) (xset_same _ _ _) rfl dX12_readPath_106 ?_
        refine AX.icmp_geN (pc := 109) (tgt := 116) dX12_readPath_109 (by decide) (by omega) (by omega) (fun hc109 => ?_) (fun q => absurd q (by omega))
        refine AX.iconst (pc := 116) (v := nI 0) dX12_readPath_116 (by decide) ?_
        refine AX.putf (pc := 117) (h := xset (xset (xset h1 113 (.inl (0, 20, .inl (upd f i (nI s))))) 87 (.inr (11, [.ref 88, .ref 89, .ref 90, .int (v 0), .int (v 1), .ref 91, .ref 92, .ref 93, .ref 94, .ref 95, .ref 96, .ref 97, .ref 98, .ref 99, .ref 100, .ref 101, .int (v 2), .ref 102, .ref 103, .ref 104, .ref 105, .ref 106, .ref 107, .ref 108, .int (v 3), .ref 109, .int (v 4), .ref 110, .ref 111, .int (v 5), .ref 112, .int (nI l), .int (nI (a + n)), .int (nI 0), .ref 113, .int (nI (i + 1)), .ref 114, .ref 115, .ref 116, .ref 117]))) 87 (.inr (11, [.ref 88, .ref 89, .ref 90, .int (v 0), .int (v 1), .ref 91, .ref 92, .ref 93, .ref 94, .ref 95, .ref 96, .ref 97, .ref 98, .ref 99, .ref 100, .ref 101, .int (v 2), .ref 102, .ref 103, .ref 104, .ref 105, .ref 106, .ref 107, .ref 108, .int (v 3), .ref 109, .int (v 4), .ref 110, .ref 111, .int (v 5), .ref 112, .int (nI l), .int (nI (a + n)), .int (nI 0), .ref 113, .int (nI (i + 1)), .ref 114, .ref 115, .ref 116, .ref 117]))) (a := 87) (fs' := [.ref 88, .ref 89, .ref 90, .int (v 0), .int (v 1), .ref 91, .ref 92, .ref 93, .ref 94, .ref 95, .ref 96, .ref 97, .ref 98, .ref 99, .ref 100, .ref 101, .int (v 2), .ref 102, .ref 103, .ref 104, .ref 105, .ref 106, .ref 107, .ref 108, .int (v 3), .ref 109, .int (v 4), .ref 110, .ref 111, .int (v 5), .ref 112, .int (nI l), .int (nI (a + n)), .int (nI 0), .ref 113, .int (nI (i + 1)), .ref 114, .ref 115, .ref 116, .ref 117]) fX12_readPath_313 rfl (lt_k (s1.le hn) (by decide)) (xset_same _ _ _) (Nat.le_of_ble_eq_true rfl) rfl rfl rfl dX12_readPath_117 ?_
        refine AX.aload_n (pc := 120) dX12_readPath_120 rfl ?_
        refine AX.iconst (pc := 121) (v := nI 0) dX12_readPath_121 (by decide) ?_
        refine AX.putf (pc := 122) (h := xset (xset (xset (xset h1 113 (.inl (0, 20, .inl (upd f i (nI s))))) 87 (.inr (11, [.ref 88, .ref 89, .ref 90, .int (v 0), .int (v 1), .ref 91, .ref 92, .ref 93, .ref 94, .ref 95, .ref 96, .ref 97, .ref 98, .ref 99, .ref 100, .ref 101, .int (v 2), .ref 102, .ref 103, .ref 104, .ref 105, .ref 106, .ref 107, .ref 108, .int (v 3), .ref 109, .int (v 4), .ref 110, .ref 111, .int (v 5), .ref 112, .int (nI l), .int (nI (a + n)), .int (nI 0), .ref 113, .int (nI (i + 1)), .ref 114, .ref 115, .ref 116, .ref 117]))) 87 (.inr (11, [.ref 88, .ref 89, .ref 90, .int (v 0), .int (v 1), .ref 91, .ref 92, .ref 93, .ref 94, .ref 95, .ref 96, .ref 97, .ref 98, .ref 99, .ref 100, .ref 101, .int (v 2), .ref 102, .ref 103, .ref 104, .ref 105, .ref 106, .ref 107, .ref 108, .int (v 3), .ref 109, .int (v 4), .ref 110, .ref 111, .int (v 5), .ref 112, .int (nI l), .int (nI (a + n)), .int (nI 0), .ref 113, .int (nI (i + 1)), .ref 114, .ref 115, .ref 116, .ref 117]))) 87 (.inr (11, [.ref 88, .ref 89, .ref 90, .int (v 0), .int (v 1), .ref 91, .ref 92, .ref 93, .ref 94, .ref 95, .ref 96, .ref 97, .ref 98, .ref 99, .ref 100, .ref 101, .int (v 2), .ref 102, .ref 103, .ref 104, .ref 105, .ref 106, .ref 107, .ref 108, .int (v 3), .ref 109, .int (v 4), .ref 110, .ref 111, .int (v 5), .ref 112, .int (nI l), .int (nI (a + n)), .int (nI 0), .ref 113, .int (nI (i + 1)), .ref 114, .ref 115, .ref 116, .ref 117]))) (a := 87) (fs' := [.ref 88, .ref 89, .ref 90, .int (v 0), .int (v 1), .ref 91, .ref 92, .ref 93, .ref 94, .ref 95, .ref 96, .ref 97, .ref 98, .ref 99, .ref 100, .ref 101, .int (v 2), .ref 102, .ref 103, .ref 104, .ref 105, .ref 106, .ref 107, .ref 108, .int (v 3), .ref 109, .int (v 4), .ref 110, .ref 111, .int (v 5), .ref 112, .int (nI 0), .int (nI (a + n)), .int (nI 0), .ref 113, .int (nI (i + 1)), .ref 114, .ref 115, .ref 116, .ref 117]) fX12_readPath_301 rfl (lt_k (s1.le hn) (by decide)) (xset_same _ _ _) (Nat.le_of_ble_eq_true rfl) rfl rfl rfl dX12_readPath_122 ?_
        refine AX.aload_n (pc := 125) dX12_readPath_125 rfl ?_
        refine AX.getf (pc := 126) fX12_readPath_313 (lt_k (s1.le hn) (by decide)) (xset_same _ _ _) rfl dX12_readPath_126 ?_
        refine AX.if_neN (pc := 129) (tgt := 136) dX12_readPath_129 (by decide) (by decide) (fun q => absurd q (by decide)) (fun hc129 => ?_)
        refine AX.iconst (pc := 132) (v := nI 1) dX12_readPath_132 (by decide) ?_
        refine AX.goto (pc := 133) (tgt := 137) dX12_readPath_133 (by decide) ?_
        refine AX.iret (pc := 137) dX12_readPath_137 rfl rfl (by decide) (by decide) ?_
        have sx : Same [87, 113] h1 (xset (xset (xset (xset (xset h1 113 (.inl (0, 20, .inl (upd f i (nI s))))) 87 (.inr (11, [.ref 88, .ref 89, .ref 90, .int (v 0), .int (v 1), .ref 91, .ref 92, .ref 93, .ref 94, .ref 95, .ref 96, .ref 97, .ref 98, .ref 99, .ref 100, .ref 101, .int (v 2), .ref 102, .ref 103, .ref 104, .ref 105, .ref 106, .ref 107, .ref 108, .int (v 3), .ref 109, .int (v 4), .ref 110, .ref 111, .int (v 5), .ref 112, .int (nI l), .int (nI (a + n)), .int (nI 0), .ref 113, .int (nI (i + 1)), .ref 114, .ref 115, .ref 116, .ref 117]))) 87 (.inr (11, [.ref 88, .ref 89, .ref 90, .int (v 0), .int (v 1), .ref 91, .ref 92, .ref 93, .ref 94, .ref 95, .ref 96, .ref 97, .ref 98, .ref 99, .ref 100, .ref 101, .int (v 2), .ref 102, .ref 103, .ref 104, .ref 105, .ref 106, .ref 107, .ref 108, .int (v 3), .ref 109, .int (v 4), .ref 110, .ref 111, .int (v 5), .ref 112, .int (nI l), .int (nI (a + n)), .int (nI 0), .ref 113, .int (nI (i + 1)), .ref 114, .ref 115, .ref 116, .ref 117]))) 87 (.inr (11, [.ref 88, .ref 89, .ref 90, .int (v 0), .int (v 1), .ref 91, .ref 92, .ref 93, .ref 94, .ref 95, .ref 96, .ref 97, .ref 98, .ref 99, .ref 100, .ref 101, .int (v 2), .ref 102, .ref 103, .ref 104, .ref 105, .ref 106, .ref 107, .ref 108, .int (v 3), .ref 109, .int (v 4), .ref 110, .ref 111, .int (v 5), .ref 112, .int (nI l), .int (nI (a + n)), .int (nI 0), .ref 113, .int (nI (i + 1)), .ref 114, .ref 115, .ref 116, .ref 117]))) 87 (.inr (11, [.ref 88, .ref 89, .ref 90, .int (v 0), .int (v 1), .ref 91, .ref 92, .ref 93, .ref 94, .ref 95, .ref 96, .ref 97, .ref 98, .ref 99, .ref 100, .ref 101, .int (v 2), .ref 102, .ref 103, .ref 104, .ref 105, .ref 106, .ref 107, .ref 108, .int (v 3), .ref 109, .int (v 4), .ref 110, .ref 111, .int (v 5), .ref 112, .int (nI 0), .int (nI (a + n)), .int (nI 0), .ref 113, .int (nI (i + 1)), .ref 114, .ref 115, .ref 116, .ref 117]))) := Same.set (Same.set (Same.set (Same.set (Same.set (Same.rf) (by simp)) (by simp)) (by simp)) (by simp)) (by simp)
        refine hP _ _ (hS.trans ((s1.wide (by decide)).trans sx)) ?_
        rw [← hR, hz]
        have el : (X ++ [s]).length = i + 1 := by rw [List.length_append, hi]; rfl
        refine ⟨rfl, ⟨a + n, ?_⟩, _, ((xset_ne (by decide)).trans ((xset_ne (by decide)).trans ((xset_ne (by decide)).trans ((xset_ne (by decide)).trans (xset_same _ _ _))))), ?_⟩
        · rw [el]
          exact (xset_same _ _ _)
        · have q := getD_push (c := s) hf
          rw [hi] at q
          exact q
      rw [if_neg c1] at hz
      cases g with
      | zero =>
        have hz : ptN y l (0 + 1) a X = .inl (a + n) := by rw [hz]; split; exact congrArg Sum.inl (Nat.add_sub_cancel _ 1); rfl
        refine AX.iload_n (pc := 12) dX12_readPath_12 rfl ?_
        refine AX.if_eqN (pc := 13) (tgt := 93) dX12_readPath_13 (by decide) (by decide) (fun q => absurd q (by decide)) (fun hc13 => ?_)
        refine AX.aload_n (pc := 16) dX12_readPath_16 rfl ?_
        refine AX.callV (pc := 17) (M2 := M_X12_readSpot) (As := []) (rest := []) (c_readSpot w h hl60 ha hn hO hT) xc_X12_readPath__X12_readSpot gX12_readPath_X12_readSpot (ci := 11) rfl (lt_k hn (by decide)) hO rfl (Nat.le_of_ble_eq_true rfl) dX12_readPath_17 ?_
        rintro v1 h1 ⟨s1, R1⟩
        rw [hp] at R1
        obtain ⟨rfl, O1⟩ := R1
        have O1 : h1.2 87 = .inr (11, [.ref 88, .ref 89, .ref 90, .int (v 0), .int (v 1), .ref 91, .ref 92, .ref 93, .ref 94, .ref 95, .ref 96, .ref 97, .ref 98, .ref 99, .ref 100, .ref 101, .int (v 2), .ref 102, .ref 103, .ref 104, .ref 105, .ref 106, .ref 107, .ref 108, .int (v 3), .ref 109, .int (v 4), .ref 110, .ref 111, .int (v 5), .ref 112, .int (nI l), .int (nI (a + n)), .int (nI 0), .ref 113, .int (nI i), .ref 114, .ref 115, .ref 116, .ref 117]) := O1
        have n1 := s1.le hn
        have t1 := hT.same s1 (by simp)
        show AX w M_X12_readPath 0 0 20 [.ref 87, .int (nI 1), .null] [.int (nI s)] _ _
        refine AX.istore_n (pc := 20) (L' := [.ref 87, .int (nI 1), .int (nI s)]) dX12_readPath_20 (by decide) rfl ?_
        refine AX.aload_n (pc := 21) dX12_readPath_21 rfl ?_
        refine AX.getf (pc := 22) fX12_readPath_87 (lt_k (s1.le hn) (by decide)) O1 rfl dX12_readPath_22 ?_
        refine AX.aload_n (pc := 25) dX12_readPath_25 rfl ?_
        refine AX.getf (pc := 26) fX12_readPath_332 (lt_k (s1.le hn) (by decide)) O1 rfl dX12_readPath_26 ?_
        refine AX.iload_n (pc := 29) dX12_readPath_29 rfl ?_
        refine AX.iastN (pc := 30) (i := i) (g := upd f i (nI s)) (lt_k (s1.le hn) (by decide)) (s1.at (by simp) e113) (by decide) (by omega) rfl dX12_readPath_30 ?_
        refine AX.aload_n (pc := 31) dX12_readPath_31 rfl ?_
        refine AX.dup (pc := 32) dX12_readPath_32 rfl ?_
        refine AX.getf (pc := 33) fX12_readPath_332 (lt_k (s1.le hn) (by decide)) ((xset_ne (by decide)).trans O1) rfl dX12_readPath_33 ?_
        refine AX.iconst (pc := 36) (v := nI 1) dX12_readPath_36 (by decide) ?_
        refine AX.iaddN (pc := 37) (c := i + 1) dX12_readPath_37 rfl ?_
        refine AX.putf (pc := 38) (h := xset h1 113 (.inl (0, 20, .inl (upd f i (nI s))))) (a := 87) (fs' := [.ref 88, .ref 89, .ref 90, .int (v 0), .int (v 1), .ref 91, .ref 92, .ref 93, .ref 94, .ref 95, .ref 96, .ref 97, .ref 98, .ref 99, .ref 100, .ref 101, .int (v 2), .ref 102, .ref 103, .ref 104, .ref 105, .ref 106, .ref 107, .ref 108, .int (v 3), .ref 109, .int (v 4), .ref 110, .ref 111, .int (v 5), .ref 112, .int (nI l), .int (nI (a + n)), .int (nI 0), .ref 113, .int (nI (i + 1)), .ref 114, .ref 115, .ref 116, .ref 117]) fX12_readPath_332 rfl (lt_k (s1.le hn) (by decide)) ((xset_ne (by decide)).trans O1) (Nat.le_of_ble_eq_true rfl) rfl rfl rfl dX12_readPath_38 ?_
        refine AX.aload_n (pc := 41) dX12_readPath_41 rfl ?_
        refine AX.getf (pc := 42) fX12_readPath_313 (lt_k (s1.le hn) (by decide)) (xset_same _ _ _) rfl dX12_readPath_42 ?_
        refine AX.if_neN (pc := 45) (tgt := 70) dX12_readPath_45 (by decide) (by decide) (fun q => absurd q (by decide)) (fun hc45 => ?_)
        refine AX.aload_n (pc := 48) dX12_readPath_48 rfl ?_
        refine AX.getf (pc := 49) fX12_readPath_332 (lt_k (s1.le hn) (by decide)) (xset_same _ _ _) rfl dX12_readPath_49 ?_
        refine AX.bipush (pc := 52) (v := nI 12) dX12_readPath_52 (by decide) ?_
        refine AX.icmp_geN (pc := 54) (tgt := 70) dX12_readPath_54 (by decide) (by omega) (by decide) (fun hc54 => ?_) (fun q => absurd q (by omega))
        refine AX.iconst (pc := 70) (v := nI 0) dX12_readPath_70 (by decide) ?_
        refine AX.istore_n (pc := 71) (L' := [.ref 87, .int (nI 0), .int (nI s)]) dX12_readPath_71 (by decide) rfl ?_
        refine AX.aload_n (pc := 72) dX12_readPath_72 rfl ?_
        refine AX.dup (pc := 73) dX12_readPath_73 rfl ?_
        refine AX.getf (pc := 74) fX12_readPath_310 (lt_k (s1.le hn) (by decide)) (xset_same _ _ _) rfl dX12_readPath_74 ?_
        refine AX.iload_n (pc := 77) dX12_readPath_77 rfl ?_
        refine AX.if_eqN (pc := 78) (tgt := 85) dX12_readPath_78 (by decide) (by decide) (fun hc78 => ?_) (fun q => absurd q (by decide))
        refine AX.iconst (pc := 85) (v := nI 0) dX12_readPath_85 (by decide) ?_
        refine AX.iaddN (pc := 86) (c := a + n) dX12_readPath_86 rfl ?_
        refine AX.putf (pc := 87) (h := xset (xset h1 113 (.inl (0, 20, .inl (upd f i (nI s))))) 87 (.inr (11, [.ref 88, .ref 89, .ref 90, .int (v 0), .int (v 1), .ref 91, .ref 92, .ref 93, .ref 94, .ref 95, .ref 96, .ref 97, .ref 98, .ref 99, .ref 100, .ref 101, .int (v 2), .ref 102, .ref 103, .ref 104, .ref 105, .ref 106, .ref 107, .ref 108, .int (v 3), .ref 109, .int (v 4), .ref 110, .ref 111, .int (v 5), .ref 112, .int (nI l), .int (nI (a + n)), .int (nI 0), .ref 113, .int (nI (i + 1)), .ref 114, .ref 115, .ref 116, .ref 117]))) (a := 87) (fs' := [.ref 88, .ref 89, .ref 90, .int (v 0), .int (v 1), .ref 91, .ref 92, .ref 93, .ref 94, .ref 95, .ref 96, .ref 97, .ref 98, .ref 99, .ref 100, .ref 101, .int (v 2), .ref 102, .ref 103, .ref 104, .ref 105, .ref 106, .ref 107, .ref 108, .int (v 3), .ref 109, .int (v 4), .ref 110, .ref 111, .int (v 5), .ref 112, .int (nI l), .int (nI (a + n)), .int (nI 0), .ref 113, .int (nI (i + 1)), .ref 114, .ref 115, .ref 116, .ref 117]) fX12_readPath_310 rfl (lt_k (s1.le hn) (by decide)) (xset_same _ _ _) (Nat.le_of_ble_eq_true rfl) rfl rfl rfl dX12_readPath_87 ?_
        refine AX.goto (pc := 90) (tgt := 12) dX12_readPath_90 (by decide) ?_
        refine AX.iload_n (pc := 12) dX12_readPath_12 rfl ?_
        refine AX.if_eqN (pc := 13) (tgt := 93) dX12_readPath_13 (by decide) (by decide) (fun hc13 => ?_) (fun q => absurd q (by decide))
        refine AX.aload_n (pc := 93) dX12_readPath_93 rfl ?_
        refine AX.aload_n (pc := 94) dX12_readPath_94 rfl ?_
        refine AX.getf (pc := 95) fX12_readPath_313 (lt_k (s1.le hn) (by decide)) (xset_same _ _ _) rfl dX12_readPath_95 ?_
        refine AX.if_neN (pc := 98) (tgt := 112) dX12_readPath_98 (by decide) (by decide) (fun q => absurd q (by decide)) (fun hc98 => ?_)
        refine AX.aload_n (pc := 101) dX12_readPath_101 rfl ?_
        refine AX.getf (pc := 102) fX12_readPath_310 (lt_k (s1.le hn) (by decide)) (xset_same _ _ _) rfl dX12_readPath_102 ?_
        refine AX.aload_n (pc := 105) dX12_readPath_105 rfl ?_
        refine AX.getf (pc := 106) fX12_readPath_301 (lt_k (s1.le hn) (by decide)) (xset_same _ _ _) rfl dX12_readPath_106 ?_
        refine AX.icmp_geN (pc := 109) (tgt := 116) dX12_readPath_109 (by decide) (by omega) (by omega) (fun q => absurd q (by omega)) (fun hc109 => ?_)
        refine AX.iconst (pc := 112) (v := nI 1) dX12_readPath_112 (by decide) ?_
        refine AX.goto (pc := 113) (tgt := 117) dX12_readPath_113 (by decide) ?_
        refine AX.putf (pc := 117) (h := xset (xset (xset h1 113 (.inl (0, 20, .inl (upd f i (nI s))))) 87 (.inr (11, [.ref 88, .ref 89, .ref 90, .int (v 0), .int (v 1), .ref 91, .ref 92, .ref 93, .ref 94, .ref 95, .ref 96, .ref 97, .ref 98, .ref 99, .ref 100, .ref 101, .int (v 2), .ref 102, .ref 103, .ref 104, .ref 105, .ref 106, .ref 107, .ref 108, .int (v 3), .ref 109, .int (v 4), .ref 110, .ref 111, .int (v 5), .ref 112, .int (nI l), .int (nI (a + n)), .int (nI 0), .ref 113, .int (nI (i + 1)), .ref 114, .ref 115, .ref 116, .ref 117]))) 87 (.inr (11, [.ref 88, .ref 89, .ref 90, .int (v 0), .int (v 1), .ref 91, .ref 92, .ref 93, .ref 94, .ref 95, .ref 96, .ref 97, .ref 98, .ref 99, .ref 100, .ref 101, .int (v 2), .ref 102, .ref 103, .ref 104, .ref 105, .ref 106, .ref 107, .ref 108, .int (v 3), .ref 109, .int (v 4), .ref 110, .ref 111, .int (v 5), .ref 112, .int (nI l), .int (nI (a + n)), .int (nI 0), .ref 113, .int (nI (i + 1)), .ref 114, .ref 115, .ref 116, .ref 117]))) (a := 87) (fs' := [.ref 88, .ref 89, .ref 90, .int (v 0), .int (v 1), .ref 91, .ref 92, .ref 93, .ref 94, .ref 95, .ref 96, .ref 97, .ref 98, .ref 99, .ref 100, .ref 101, .int (v 2), .ref 102, .ref 103, .ref 104, .ref 105, .ref 106, .ref 107, .ref 108, .int (v 3), .ref 109, .int (v 4), .ref 110, .ref 111, .int (v 5), .ref 112, .int (nI l), .int (nI (a + n)), .int (nI 1), .ref 113, .int (nI (i + 1)), .ref 114, .ref 115, .ref 116, .ref 117]) fX12_readPath_313 rfl (lt_k (s1.le hn) (by decide)) (xset_same _ _ _) (Nat.le_of_ble_eq_true rfl) rfl rfl rfl dX12_readPath_117 ?_
        refine AX.aload_n (pc := 120) dX12_readPath_120 rfl ?_
        refine AX.iconst (pc := 121) (v := nI 0) dX12_readPath_121 (by decide) ?_
        refine AX.putf (pc := 122) (h := xset (xset (xset (xset h1 113 (.inl (0, 20, .inl (upd f i (nI s))))) 87 (.inr (11, [.ref 88, .ref 89, .ref 90, .int (v 0), .int (v 1), .ref 91, .ref 92, .ref 93, .ref 94, .ref 95, .ref 96, .ref 97, .ref 98, .ref 99, .ref 100, .ref 101, .int (v 2), .ref 102, .ref 103, .ref 104, .ref 105, .ref 106, .ref 107, .ref 108, .int (v 3), .ref 109, .int (v 4), .ref 110, .ref 111, .int (v 5), .ref 112, .int (nI l), .int (nI (a + n)), .int (nI 0), .ref 113, .int (nI (i + 1)), .ref 114, .ref 115, .ref 116, .ref 117]))) 87 (.inr (11, [.ref 88, .ref 89, .ref 90, .int (v 0), .int (v 1), .ref 91, .ref 92, .ref 93, .ref 94, .ref 95, .ref 96, .ref 97, .ref 98, .ref 99, .ref 100, .ref 101, .int (v 2), .ref 102, .ref 103, .ref 104, .ref 105, .ref 106, .ref 107, .ref 108, .int (v 3), .ref 109, .int (v 4), .ref 110, .ref 111, .int (v 5), .ref 112, .int (nI l), .int (nI (a + n)), .int (nI 0), .ref 113, .int (nI (i + 1)), .ref 114, .ref 115, .ref 116, .ref 117]))) 87 (.inr (11, [.ref 88, .ref 89, .ref 90, .int (v 0), .int (v 1), .ref 91, .ref 92, .ref 93, .ref 94, .ref 95, .ref 96, .ref 97, .ref 98, .ref 99, .ref 100, .ref 101, .int (v 2), .ref 102, .ref 103, .ref 104, .ref 105, .ref 106, .ref 107, .ref 108, .int (v 3), .ref 109, .int (v 4), .ref 110, .ref 111, .int (v 5), .ref 112, .int (nI l), .int (nI (a + n)), .int (nI 1), .ref 113, .int (nI (i + 1)), .ref 114, .ref 115, .ref 116, .ref 117]))) (a := 87) (fs' := [.ref 88, .ref 89, .ref 90, .int (v 0), .int (v 1), .ref 91, .ref 92, .ref 93, .ref 94, .ref 95, .ref 96, .ref 97, .ref 98, .ref 99, .ref 100, .ref 101, .int (v 2), .ref 102, .ref 103, .ref 104, .ref 105, .ref 106, .ref 107, .ref 108, .int (v 3), .ref 109, .int (v 4), .ref 110, .ref 111, .int (v 5), .ref 112, .int (nI 0), .int (nI (a + n)), .int (nI 1), .ref 113, .int (nI (i + 1)), .ref 114, .ref 115, .ref 116, .ref 117]) fX12_readPath_301 rfl (lt_k (s1.le hn) (by decide)) (xset_same _ _ _) (Nat.le_of_ble_eq_true rfl) rfl rfl rfl dX12_readPath_122 ?_
        refine AX.aload_n (pc := 125) dX12_readPath_125 rfl ?_
        refine AX.getf (pc := 126) fX12_readPath_313 (lt_k (s1.le hn) (by decide)) (xset_same _ _ _) rfl dX12_readPath_126 ?_
        refine AX.if_neN (pc := 129) (tgt := 136) dX12_readPath_129 (by decide) (by decide) (fun hc129 => ?_) (fun q => absurd q (by decide))
        refine AX.iconst (pc := 136) (v := nI 0) dX12_readPath_136 (by decide) ?_
        refine AX.iret (pc := 137) dX12_readPath_137 rfl rfl (by decide) (by decide) ?_
        have sx : Same [87, 113] h1 (xset (xset (xset (xset (xset h1 113 (.inl (0, 20, .inl (upd f i (nI s))))) 87 (.inr (11, [.ref 88, .ref 89, .ref 90, .int (v 0), .int (v 1), .ref 91, .ref 92, .ref 93, .ref 94, .ref 95, .ref 96, .ref 97, .ref 98, .ref 99, .ref 100, .ref 101, .int (v 2), .ref 102, .ref 103, .ref 104, .ref 105, .ref 106, .ref 107, .ref 108, .int (v 3), .ref 109, .int (v 4), .ref 110, .ref 111, .int (v 5), .ref 112, .int (nI l), .int (nI (a + n)), .int (nI 0), .ref 113, .int (nI (i + 1)), .ref 114, .ref 115, .ref 116, .ref 117]))) 87 (.inr (11, [.ref 88, .ref 89, .ref 90, .int (v 0), .int (v 1), .ref 91, .ref 92, .ref 93, .ref 94, .ref 95, .ref 96, .ref 97, .ref 98, .ref 99, .ref 100, .ref 101, .int (v 2), .ref 102, .ref 103, .ref 104, .ref 105, .ref 106, .ref 107, .ref 108, .int (v 3), .ref 109, .int (v 4), .ref 110, .ref 111, .int (v 5), .ref 112, .int (nI l), .int (nI (a + n)), .int (nI 0), .ref 113, .int (nI (i + 1)), .ref 114, .ref 115, .ref 116, .ref 117]))) 87 (.inr (11, [.ref 88, .ref 89, .ref 90, .int (v 0), .int (v 1), .ref 91, .ref 92, .ref 93, .ref 94, .ref 95, .ref 96, .ref 97, .ref 98, .ref 99, .ref 100, .ref 101, .int (v 2), .ref 102, .ref 103, .ref 104, .ref 105, .ref 106, .ref 107, .ref 108, .int (v 3), .ref 109, .int (v 4), .ref 110, .ref 111, .int (v 5), .ref 112, .int (nI l), .int (nI (a + n)), .int (nI 1), .ref 113, .int (nI (i + 1)), .ref 114, .ref 115, .ref 116, .ref 117]))) 87 (.inr (11, [.ref 88, .ref 89, .ref 90, .int (v 0), .int (v 1), .ref 91, .ref 92, .ref 93, .ref 94, .ref 95, .ref 96, .ref 97, .ref 98, .ref 99, .ref 100, .ref 101, .int (v 2), .ref 102, .ref 103, .ref 104, .ref 105, .ref 106, .ref 107, .ref 108, .int (v 3), .ref 109, .int (v 4), .ref 110, .ref 111, .int (v 5), .ref 112, .int (nI 0), .int (nI (a + n)), .int (nI 1), .ref 113, .int (nI (i + 1)), .ref 114, .ref 115, .ref 116, .ref 117]))) := Same.set (Same.set (Same.set (Same.set (Same.set (Same.rf) (by simp)) (by simp)) (by simp)) (by simp)) (by simp)
        refine hP _ _ (hS.trans ((s1.wide (by decide)).trans sx)) ?_
        rw [← hR, hz]
        exact ⟨rfl, ⟨_, (xset_same _ _ _)⟩, _, ((xset_ne (by decide)).trans ((xset_ne (by decide)).trans ((xset_ne (by decide)).trans ((xset_ne (by decide)).trans (xset_same _ _ _)))))⟩
      | succ g =>
        have yb_ := (hT.choose_spec.2 (a + n) (by omega)).2.1
        by_cases c3 : y (a + n) = 32
        · rw [if_pos c3] at hz
          refine AX.iload_n (pc := 12) dX12_readPath_12 rfl ?_
          refine AX.if_eqN (pc := 13) (tgt := 93) dX12_readPath_13 (by decide) (by decide) (fun q => absurd q (by decide)) (fun hc13 => ?_)
          refine AX.aload_n (pc := 16) dX12_readPath_16 rfl ?_
          refine AX.callV (pc := 17) (M2 := M_X12_readSpot) (As := []) (rest := []) (c_readSpot w h hl60 ha hn hO hT) xc_X12_readPath__X12_readSpot gX12_readPath_X12_readSpot (ci := 11) rfl (lt_k hn (by decide)) hO rfl (Nat.le_of_ble_eq_true rfl) dX12_readPath_17 ?_
          rintro v1 h1 ⟨s1, R1⟩
          rw [hp] at R1
          obtain ⟨rfl, O1⟩ := R1
          have O1 : h1.2 87 = .inr (11, [.ref 88, .ref 89, .ref 90, .int (v 0), .int (v 1), .ref 91, .ref 92, .ref 93, .ref 94, .ref 95, .ref 96, .ref 97, .ref 98, .ref 99, .ref 100, .ref 101, .int (v 2), .ref 102, .ref 103, .ref 104, .ref 105, .ref 106, .ref 107, .ref 108, .int (v 3), .ref 109, .int (v 4), .ref 110, .ref 111, .int (v 5), .ref 112, .int (nI l), .int (nI (a + n)), .int (nI 0), .ref 113, .int (nI i), .ref 114, .ref 115, .ref 116, .ref 117]) := O1
          have n1 := s1.le hn
          have t1 := hT.same s1 (by simp)
          show AX w M_X12_readPath 0 0 20 [.ref 87, .int (nI 1), .null] [.int (nI s)] _ _
          refine AX.istore_n (pc := 20) (L' := [.ref 87, .int (nI 1), .int (nI s)]) dX12_readPath_20 (by decide) rfl ?_
          refine AX.aload_n (pc := 21) dX12_readPath_21 rfl ?_
          refine AX.getf (pc := 22) fX12_readPath_87 (lt_k (s1.le hn) (by decide)) O1 rfl dX12_readPath_22 ?_
          refine AX.aload_n (pc := 25) dX12_readPath_25 rfl ?_
          refine AX.getf (pc := 26) fX12_readPath_332 (lt_k (s1.le hn) (by decide)) O1 rfl dX12_readPath_26 ?_
          refine AX.iload_n (pc := 29) dX12_readPath_29 rfl ?_
          refine AX.iastN (pc := 30) (i := i) (g := upd f i (nI s)) (lt_k (s1.le hn) (by decide)) (s1.at (by simp) e113) (by decide) (by omega) rfl dX12_readPath_30 ?_
          refine AX.aload_n (pc := 31) dX12_readPath_31 rfl ?_
          refine AX.dup (pc := 32) dX12_readPath_32 rfl ?_
          refine AX.getf (pc := 33) fX12_readPath_332 (lt_k (s1.le hn) (by decide)) ((xset_ne (by decide)).trans O1) rfl dX12_readPath_33 ?_
          refine AX.iconst (pc := 36) (v := nI 1) dX12_readPath_36 (by decide) ?_
          refine AX.iaddN (pc := 37) (c := i + 1) dX12_readPath_37 rfl ?_
          refine AX.putf (pc := 38) (h := xset h1 113 (.inl (0, 20, .inl (upd f i (nI s))))) (a := 87) (fs' := [.ref 88, .ref 89, .ref 90, .int (v 0), .int (v 1), .ref 91, .ref 92, .ref 93, .ref 94, .ref 95, .ref 96, .ref 97, .ref 98, .ref 99, .ref 100, .ref 101, .int (v 2), .ref 102, .ref 103, .ref 104, .ref 105, .ref 106, .ref 107, .ref 108, .int (v 3), .ref 109, .int (v 4), .ref 110, .ref 111, .int (v 5), .ref 112, .int (nI l), .int (nI (a + n)), .int (nI 0), .ref 113, .int (nI (i + 1)), .ref 114, .ref 115, .ref 116, .ref 117]) fX12_readPath_332 rfl (lt_k (s1.le hn) (by decide)) ((xset_ne (by decide)).trans O1) (Nat.le_of_ble_eq_true rfl) rfl rfl rfl dX12_readPath_38 ?_
          refine AX.aload_n (pc := 41) dX12_readPath_41 rfl ?_
          refine AX.getf (pc := 42) fX12_readPath_313 (lt_k (s1.le hn) (by decide)) (xset_same _ _ _) rfl dX12_readPath_42 ?_
          refine AX.if_neN (pc := 45) (tgt := 70) dX12_readPath_45 (by decide) (by decide) (fun q => absurd q (by decide)) (fun hc45 => ?_)
          refine AX.aload_n (pc := 48) dX12_readPath_48 rfl ?_
          refine AX.getf (pc := 49) fX12_readPath_332 (lt_k (s1.le hn) (by decide)) (xset_same _ _ _) rfl dX12_readPath_49 ?_
          refine AX.bipush (pc := 52) (v := nI 12) dX12_readPath_52 (by decide) ?_
          refine AX.icmp_geN (pc := 54) (tgt := 70) dX12_readPath_54 (by decide) (by omega) (by decide) (fun q => absurd q (by omega)) (fun hc54 => ?_)
          have sx : Same [87, 113] h1 (xset (xset h1 113 (.inl (0, 20, .inl (upd f i (nI s))))) 87 (.inr (11, [.ref 88, .ref 89, .ref 90, .int (v 0), .int (v 1), .ref 91, .ref 92, .ref 93, .ref 94, .ref 95, .ref 96, .ref 97, .ref 98, .ref 99, .ref 100, .ref 101, .int (v 2), .ref 102, .ref 103, .ref 104, .ref 105, .ref 106, .ref 107, .ref 108, .int (v 3), .ref 109, .int (v 4), .ref 110, .ref 111, .int (v 5), .ref 112, .int (nI l), .int (nI (a + n)), .int (nI 0), .ref 113, .int (nI (i + 1)), .ref 114, .ref 115, .ref 116, .ref 117]))) := Same.set (Same.set (Same.rf) (by simp)) (by simp)
          have Ox : TM (xset (xset h1 113 (.inl (0, 20, .inl (upd f i (nI s))))) 87 (.inr (11, [.ref 88, .ref 89, .ref 90, .int (v 0), .int (v 1), .ref 91, .ref 92, .ref 93, .ref 94, .ref 95, .ref 96, .ref 97, .ref 98, .ref 99, .ref 100, .ref 101, .int (v 2), .ref 102, .ref 103, .ref 104, .ref 105, .ref 106, .ref 107, .ref 108, .int (v 3), .ref 109, .int (v 4), .ref 110, .ref 111, .int (v 5), .ref 112, .int (nI l), .int (nI (a + n)), .int (nI 0), .ref 113, .int (nI (i + 1)), .ref 114, .ref 115, .ref 116, .ref 117]))) v l (a + n) (nI 0) (i + 1) := (xset_same _ _ _)
          refine AX.aload_n (pc := 57) dX12_readPath_57 rfl ?_
          refine AX.callV (pc := 58) (M2 := M_X12_here) (As := []) (rest := []) (c_hereIn w (xset (xset h1 113 (.inl (0, 20, .inl (upd f i (nI s))))) 87 (.inr (11, [.ref 88, .ref 89, .ref 90, .int (v 0), .int (v 1), .ref 91, .ref 92, .ref 93, .ref 94, .ref 95, .ref 96, .ref 97, .ref 98, .ref 99, .ref 100, .ref 101, .int (v 2), .ref 102, .ref 103, .ref 104, .ref 105, .ref 106, .ref 107, .ref 108, .int (v 3), .ref 109, .int (v 4), .ref 110, .ref 111, .int (v 5), .ref 112, .int (nI l), .int (nI (a + n)), .int (nI 0), .ref 113, .int (nI (i + 1)), .ref 114, .ref 115, .ref 116, .ref 117]))) (y := y) (sx.le n1) Ox (t1.same sx (by simp)) (by omega)) xc_X12_readPath__X12_here gX12_readPath_X12_here (ci := 11) rfl (lt_k (s1.le hn) (by decide)) (xset_same _ _ _) rfl (Nat.le_of_ble_eq_true rfl) dX12_readPath_58 ?_
          rintro _ h9 ⟨rfl, e9⟩
          have e9 := e9.symm
          subst e9
          rw [c3]
          show AX w M_X12_readPath 0 0 61 [.ref 87, .int (nI 1), .int (nI s)] [.int (nI 32)] _ _
          refine AX.bipush (pc := 61) (v := nI 32) dX12_readPath_61 (by decide) ?_
          refine AX.icmp_neN (pc := 63) (tgt := 70) dX12_readPath_63 (by decide) (by decide) (by decide) (fun q => absurd q (by decide)) (fun hc63 => ?_)
          refine AX.iconst (pc := 66) (v := nI 1) dX12_readPath_66 (by decide) ?_
          refine AX.goto (pc := 67) (tgt := 71) dX12_readPath_67 (by decide) ?_
          refine AX.istore_n (pc := 71) (L' := [.ref 87, .int (nI 1), .int (nI s)]) dX12_readPath_71 (by decide) rfl ?_
          refine AX.aload_n (pc := 72) dX12_readPath_72 rfl ?_
          refine AX.dup (pc := 73) dX12_readPath_73 rfl ?_
          refine AX.getf (pc := 74) fX12_readPath_310 (lt_k (s1.le hn) (by decide)) (xset_same _ _ _) rfl dX12_readPath_74 ?_
          refine AX.iload_n (pc := 77) dX12_readPath_77 rfl ?_
          refine AX.if_eqN (pc := 78) (tgt := 85) dX12_readPath_78 (by decide) (by decide) (fun q => absurd q (by decide)) (fun hc78 => ?_)
          refine AX.iconst (pc := 81) (v := nI 1) dX12_readPath_81 (by decide) ?_
          refine AX.goto (pc := 82) (tgt := 86) dX12_readPath_82 (by decide) ?_
          refine AX.iaddN (pc := 86) (c := a + n + 1) dX12_readPath_86 rfl ?_
          refine AX.putf (pc := 87) (h := xset (xset h1 113 (.inl (0, 20, .inl (upd f i (nI s))))) 87 (.inr (11, [.ref 88, .ref 89, .ref 90, .int (v 0), .int (v 1), .ref 91, .ref 92, .ref 93, .ref 94, .ref 95, .ref 96, .ref 97, .ref 98, .ref 99, .ref 100, .ref 101, .int (v 2), .ref 102, .ref 103, .ref 104, .ref 105, .ref 106, .ref 107, .ref 108, .int (v 3), .ref 109, .int (v 4), .ref 110, .ref 111, .int (v 5), .ref 112, .int (nI l), .int (nI (a + n)), .int (nI 0), .ref 113, .int (nI (i + 1)), .ref 114, .ref 115, .ref 116, .ref 117]))) (a := 87) (fs' := [.ref 88, .ref 89, .ref 90, .int (v 0), .int (v 1), .ref 91, .ref 92, .ref 93, .ref 94, .ref 95, .ref 96, .ref 97, .ref 98, .ref 99, .ref 100, .ref 101, .int (v 2), .ref 102, .ref 103, .ref 104, .ref 105, .ref 106, .ref 107, .ref 108, .int (v 3), .ref 109, .int (v 4), .ref 110, .ref 111, .int (v 5), .ref 112, .int (nI l), .int (nI (a + n + 1)), .int (nI 0), .ref 113, .int (nI (i + 1)), .ref 114, .ref 115, .ref 116, .ref 117]) fX12_readPath_310 rfl (lt_k (s1.le hn) (by decide)) (xset_same _ _ _) (Nat.le_of_ble_eq_true rfl) rfl rfl rfl dX12_readPath_87 ?_
          refine AX.goto (pc := 90) (tgt := 12) dX12_readPath_90 (by decide) ?_
          have sy : Same [87, 113] h1 (xset (xset (xset h1 113 (.inl (0, 20, .inl (upd f i (nI s))))) 87 (.inr (11, [.ref 88, .ref 89, .ref 90, .int (v 0), .int (v 1), .ref 91, .ref 92, .ref 93, .ref 94, .ref 95, .ref 96, .ref 97, .ref 98, .ref 99, .ref 100, .ref 101, .int (v 2), .ref 102, .ref 103, .ref 104, .ref 105, .ref 106, .ref 107, .ref 108, .int (v 3), .ref 109, .int (v 4), .ref 110, .ref 111, .int (v 5), .ref 112, .int (nI l), .int (nI (a + n)), .int (nI 0), .ref 113, .int (nI (i + 1)), .ref 114, .ref 115, .ref 116, .ref 117]))) 87 (.inr (11, [.ref 88, .ref 89, .ref 90, .int (v 0), .int (v 1), .ref 91, .ref 92, .ref 93, .ref 94, .ref 95, .ref 96, .ref 97, .ref 98, .ref 99, .ref 100, .ref 101, .int (v 2), .ref 102, .ref 103, .ref 104, .ref 105, .ref 106, .ref 107, .ref 108, .int (v 3), .ref 109, .int (v 4), .ref 110, .ref 111, .int (v 5), .ref 112, .int (nI l), .int (nI (a + n + 1)), .int (nI 0), .ref 113, .int (nI (i + 1)), .ref 114, .ref 115, .ref 116, .ref 117]))) := Same.set (Same.set (Same.set (Same.rf) (by simp)) (by simp)) (by simp)
          refine AX.sub (L' := [.ref 87, .int (nI 1), .null]) ⟨Or.inr rfl, Or.inr rfl, Or.inl rfl, trivial⟩ ?_
          have el : (X ++ [s]).length = i + 1 := by rw [List.length_append, hi]; rfl
          have qq := getD_push (c := s) hf
          rw [hi] at qq
          exact l_rp w P h0 R hl60 hn0 hT0 hP g (i + 1) (a + n + 1) (X ++ [s]) _ _ _ (by omega) el (by omega) (xset_same _ _ _) ((xset_ne (by decide)).trans ((xset_ne (by decide)).trans (xset_same _ _ _))) qq (hS.trans ((s1.wide (by decide)).trans sy)) (by rw [← hz]; exact hR)
        rw [if_neg c3] at hz
        refine AX.iload_n (pc := 12) dX12_readPath_12 rfl ?_
        refine AX.if_eqN (pc := 13) (tgt := 93) dX12_readPath_13 (by decide) (by decide) (fun q => absurd q (by decide)) (fun hc13 => ?_)
        refine AX.aload_n (pc := 16) dX12_readPath_16 rfl ?_
        refine AX.callV (pc := 17) (M2 := M_X12_readSpot) (As := []) (rest := []) (c_readSpot w h hl60 ha hn hO hT) xc_X12_readPath__X12_readSpot gX12_readPath_X12_readSpot (ci := 11) rfl (lt_k hn (by decide)) hO rfl (Nat.le_of_ble_eq_true rfl) dX12_readPath_17 ?_
        rintro v1 h1 ⟨s1, R1⟩
        rw [hp] at R1
        obtain ⟨rfl, O1⟩ := R1
        have O1 : h1.2 87 = .inr (11, [.ref 88, .ref 89, .ref 90, .int (v 0), .int (v 1), .ref 91, .ref 92, .ref 93, .ref 94, .ref 95, .ref 96, .ref 97, .ref 98, .ref 99, .ref 100, .ref 101, .int (v 2), .ref 102, .ref 103, .ref 104, .ref 105, .ref 106, .ref 107, .ref 108, .int (v 3), .ref 109, .int (v 4), .ref 110, .ref 111, .int (v 5), .ref 112, .int (nI l), .int (nI (a + n)), .int (nI 0), .ref 113, .int (nI i), .ref 114, .ref 115, .ref 116, .ref 117]) := O1
        have n1 := s1.le hn
        have t1 := hT.same s1 (by simp)
        show AX w M_X12_readPath 0 0 20 [.ref 87, .int (nI 1), .null] [.int (nI s)] _ _
        refine AX.istore_n (pc := 20) (L' := [.ref 87, .int (nI 1), .int (nI s)]) dX12_readPath_20 (by decide) rfl ?_
        refine AX.aload_n (pc := 21) dX12_readPath_21 rfl ?_
        refine AX.getf (pc := 22) fX12_readPath_87 (lt_k (s1.le hn) (by decide)) O1 rfl dX12_readPath_22 ?_
        refine AX.aload_n (pc := 25) dX12_readPath_25 rfl ?_
        refine AX.getf (pc := 26) fX12_readPath_332 (lt_k (s1.le hn) (by decide)) O1 rfl dX12_readPath_26 ?_
        refine AX.iload_n (pc := 29) dX12_readPath_29 rfl ?_
        refine AX.iastN (pc := 30) (i := i) (g := upd f i (nI s)) (lt_k (s1.le hn) (by decide)) (s1.at (by simp) e113) (by decide) (by omega) rfl dX12_readPath_30 ?_
        refine AX.aload_n (pc := 31) dX12_readPath_31 rfl ?_
        refine AX.dup (pc := 32) dX12_readPath_32 rfl ?_
        refine AX.getf (pc := 33) fX12_readPath_332 (lt_k (s1.le hn) (by decide)) ((xset_ne (by decide)).trans O1) rfl dX12_readPath_33 ?_
        refine AX.iconst (pc := 36) (v := nI 1) dX12_readPath_36 (by decide) ?_
        refine AX.iaddN (pc := 37) (c := i + 1) dX12_readPath_37 rfl ?_
        refine AX.putf (pc := 38) (h := xset h1 113 (.inl (0, 20, .inl (upd f i (nI s))))) (a := 87) (fs' := [.ref 88, .ref 89, .ref 90, .int (v 0), .int (v 1), .ref 91, .ref 92, .ref 93, .ref 94, .ref 95, .ref 96, .ref 97, .ref 98, .ref 99, .ref 100, .ref 101, .int (v 2), .ref 102, .ref 103, .ref 104, .ref 105, .ref 106, .ref 107, .ref 108, .int (v 3), .ref 109, .int (v 4), .ref 110, .ref 111, .int (v 5), .ref 112, .int (nI l), .int (nI (a + n)), .int (nI 0), .ref 113, .int (nI (i + 1)), .ref 114, .ref 115, .ref 116, .ref 117]) fX12_readPath_332 rfl (lt_k (s1.le hn) (by decide)) ((xset_ne (by decide)).trans O1) (Nat.le_of_ble_eq_true rfl) rfl rfl rfl dX12_readPath_38 ?_
        refine AX.aload_n (pc := 41) dX12_readPath_41 rfl ?_
        refine AX.getf (pc := 42) fX12_readPath_313 (lt_k (s1.le hn) (by decide)) (xset_same _ _ _) rfl dX12_readPath_42 ?_
        refine AX.if_neN (pc := 45) (tgt := 70) dX12_readPath_45 (by decide) (by decide) (fun q => absurd q (by decide)) (fun hc45 => ?_)
        refine AX.aload_n (pc := 48) dX12_readPath_48 rfl ?_
        refine AX.getf (pc := 49) fX12_readPath_332 (lt_k (s1.le hn) (by decide)) (xset_same _ _ _) rfl dX12_readPath_49 ?_
        refine AX.bipush (pc := 52) (v := nI 12) dX12_readPath_52 (by decide) ?_
        refine AX.icmp_geN (pc := 54) (tgt := 70) dX12_readPath_54 (by decide) (by omega) (by decide) (fun q => absurd q (by omega)) (fun hc54 => ?_)
        have sx : Same [87, 113] h1 (xset (xset h1 113 (.inl (0, 20, .inl (upd f i (nI s))))) 87 (.inr (11, [.ref 88, .ref 89, .ref 90, .int (v 0), .int (v 1), .ref 91, .ref 92, .ref 93, .ref 94, .ref 95, .ref 96, .ref 97, .ref 98, .ref 99, .ref 100, .ref 101, .int (v 2), .ref 102, .ref 103, .ref 104, .ref 105, .ref 106, .ref 107, .ref 108, .int (v 3), .ref 109, .int (v 4), .ref 110, .ref 111, .int (v 5), .ref 112, .int (nI l), .int (nI (a + n)), .int (nI 0), .ref 113, .int (nI (i + 1)), .ref 114, .ref 115, .ref 116, .ref 117]))) := Same.set (Same.set (Same.rf) (by simp)) (by simp)
        have Ox : TM (xset (xset h1 113 (.inl (0, 20, .inl (upd f i (nI s))))) 87 (.inr (11, [.ref 88, .ref 89, .ref 90, .int (v 0), .int (v 1), .ref 91, .ref 92, .ref 93, .ref 94, .ref 95, .ref 96, .ref 97, .ref 98, .ref 99, .ref 100, .ref 101, .int (v 2), .ref 102, .ref 103, .ref 104, .ref 105, .ref 106, .ref 107, .ref 108, .int (v 3), .ref 109, .int (v 4), .ref 110, .ref 111, .int (v 5), .ref 112, .int (nI l), .int (nI (a + n)), .int (nI 0), .ref 113, .int (nI (i + 1)), .ref 114, .ref 115, .ref 116, .ref 117]))) v l (a + n) (nI 0) (i + 1) := (xset_same _ _ _)
        refine AX.aload_n (pc := 57) dX12_readPath_57 rfl ?_
        refine AX.callV (pc := 58) (M2 := M_X12_here) (As := []) (rest := []) (c_hereIn w (xset (xset h1 113 (.inl (0, 20, .inl (upd f i (nI s))))) 87 (.inr (11, [.ref 88, .ref 89, .ref 90, .int (v 0), .int (v 1), .ref 91, .ref 92, .ref 93, .ref 94, .ref 95, .ref 96, .ref 97, .ref 98, .ref 99, .ref 100, .ref 101, .int (v 2), .ref 102, .ref 103, .ref 104, .ref 105, .ref 106, .ref 107, .ref 108, .int (v 3), .ref 109, .int (v 4), .ref 110, .ref 111, .int (v 5), .ref 112, .int (nI l), .int (nI (a + n)), .int (nI 0), .ref 113, .int (nI (i + 1)), .ref 114, .ref 115, .ref 116, .ref 117]))) (y := y) (sx.le n1) Ox (t1.same sx (by simp)) (by omega)) xc_X12_readPath__X12_here gX12_readPath_X12_here (ci := 11) rfl (lt_k (s1.le hn) (by decide)) (xset_same _ _ _) rfl (Nat.le_of_ble_eq_true rfl) dX12_readPath_58 ?_
        rintro _ h9 ⟨rfl, e9⟩
        have e9 := e9.symm
        subst e9
        show AX w M_X12_readPath 0 0 61 [.ref 87, .int (nI 1), .int (nI s)] [.int (nI (y (a + n)))] _ _
        refine AX.bipush (pc := 61) (v := nI 32) dX12_readPath_61 (by decide) ?_
        refine AX.icmp_neN (pc := 63) (tgt := 70) dX12_readPath_63 (by decide) (by omega) (by decide) (fun hc63 => ?_) (fun q => absurd q (by omega))
        refine AX.iconst (pc := 70) (v := nI 0) dX12_readPath_70 (by decide) ?_
        refine AX.istore_n (pc := 71) (L' := [.ref 87, .int (nI 0), .int (nI s)]) dX12_readPath_71 (by decide) rfl ?_
        refine AX.aload_n (pc := 72) dX12_readPath_72 rfl ?_
        refine AX.dup (pc := 73) dX12_readPath_73 rfl ?_
        refine AX.getf (pc := 74) fX12_readPath_310 (lt_k (s1.le hn) (by decide)) (xset_same _ _ _) rfl dX12_readPath_74 ?_
        refine AX.iload_n (pc := 77) dX12_readPath_77 rfl ?_
        refine AX.if_eqN (pc := 78) (tgt := 85) dX12_readPath_78 (by decide) (by decide) (fun hc78 => ?_) (fun q => absurd q (by decide))
        refine AX.iconst (pc := 85) (v := nI 0) dX12_readPath_85 (by decide) ?_
        refine AX.iaddN (pc := 86) (c := a + n) dX12_readPath_86 rfl ?_
        refine AX.putf (pc := 87) (h := xset (xset h1 113 (.inl (0, 20, .inl (upd f i (nI s))))) 87 (.inr (11, [.ref 88, .ref 89, .ref 90, .int (v 0), .int (v 1), .ref 91, .ref 92, .ref 93, .ref 94, .ref 95, .ref 96, .ref 97, .ref 98, .ref 99, .ref 100, .ref 101, .int (v 2), .ref 102, .ref 103, .ref 104, .ref 105, .ref 106, .ref 107, .ref 108, .int (v 3), .ref 109, .int (v 4), .ref 110, .ref 111, .int (v 5), .ref 112, .int (nI l), .int (nI (a + n)), .int (nI 0), .ref 113, .int (nI (i + 1)), .ref 114, .ref 115, .ref 116, .ref 117]))) (a := 87) (fs' := [.ref 88, .ref 89, .ref 90, .int (v 0), .int (v 1), .ref 91, .ref 92, .ref 93, .ref 94, .ref 95, .ref 96, .ref 97, .ref 98, .ref 99, .ref 100, .ref 101, .int (v 2), .ref 102, .ref 103, .ref 104, .ref 105, .ref 106, .ref 107, .ref 108, .int (v 3), .ref 109, .int (v 4), .ref 110, .ref 111, .int (v 5), .ref 112, .int (nI l), .int (nI (a + n)), .int (nI 0), .ref 113, .int (nI (i + 1)), .ref 114, .ref 115, .ref 116, .ref 117]) fX12_readPath_310 rfl (lt_k (s1.le hn) (by decide)) (xset_same _ _ _) (Nat.le_of_ble_eq_true rfl) rfl rfl rfl dX12_readPath_87 ?_
        refine AX.goto (pc := 90) (tgt := 12) dX12_readPath_90 (by decide) ?_
        refine AX.iload_n (pc := 12) dX12_readPath_12 rfl ?_
        refine AX.if_eqN (pc := 13) (tgt := 93) dX12_readPath_13 (by decide) (by decide) (fun hc13 => ?_) (fun q => absurd q (by decide))
        refine AX.aload_n (pc := 93) dX12_readPath_93 rfl ?_
        refine AX.aload_n (pc := 94) dX12_readPath_94 rfl ?_
        refine AX.getf (pc := 95) fX12_readPath_313 (lt_k (s1.le hn) (by decide)) (xset_same _ _ _) rfl dX12_readPath_95 ?_
        refine AX.if_neN (pc := 98) (tgt := 112) dX12_readPath_98 (by decide) (by decide) (fun q => absurd q (by decide)) (fun hc98 => ?_)
        refine AX.aload_n (pc := 101) dX12_readPath_101 rfl ?_
        refine AX.getf (pc := 102) fX12_readPath_310 (lt_k (s1.le hn) (by decide)) (xset_same _ _ _) rfl dX12_readPath_102 ?_
        refine AX.aload_n (pc := 105) dX12_readPath_105 rfl ?_
        refine AX.getf (pc := 106) fX12_readPath_301 (lt_k (s1.le hn) (by decide)) (xset_same _ _ _) rfl dX12_readPath_106 ?_
        refine AX.icmp_geN (pc := 109) (tgt := 116) dX12_readPath_109 (by decide) (by omega) (by omega) (fun q => absurd q (by omega)) (fun hc109 => ?_)
        refine AX.iconst (pc := 112) (v := nI 1) dX12_readPath_112 (by decide) ?_
        refine AX.goto (pc := 113) (tgt := 117) dX12_readPath_113 (by decide) ?_
        refine AX.putf (pc := 117) (h := xset (xset (xset h1 113 (.inl (0, 20, .inl (upd f i (nI s))))) 87 (.inr (11, [.ref 88, .ref 89, .ref 90, .int (v 0), .int (v 1), .ref 91, .ref 92, .ref 93, .ref 94, .ref 95, .ref 96, .ref 97, .ref 98, .ref 99, .ref 100, .ref 101, .int (v 2), .ref 102, .ref 103, .ref 104, .ref 105, .ref 106, .ref 107, .ref 108, .int (v 3), .ref 109, .int (v 4), .ref 110, .ref 111, .int (v 5), .ref 112, .int (nI l), .int (nI (a + n)), .int (nI 0), .ref 113, .int (nI (i + 1)), .ref 114, .ref 115, .ref 116, .ref 117]))) 87 (.inr (11, [.ref 88, .ref 89, .ref 90, .int (v 0), .int (v 1), .ref 91, .ref 92, .ref 93, .ref 94, .ref 95, .ref 96, .ref 97, .ref 98, .ref 99, .ref 100, .ref 101, .int (v 2), .ref 102, .ref 103, .ref 104, .ref 105, .ref 106, .ref 107, .ref 108, .int (v 3), .ref 109, .int (v 4), .ref 110, .ref 111, .int (v 5), .ref 112, .int (nI l), .int (nI (a + n)), .int (nI 0), .ref 113, .int (nI (i + 1)), .ref 114, .ref 115, .ref 116, .ref 117]))) (a := 87) (fs' := [.ref 88, .ref 89, .ref 90, .int (v 0), .int (v 1), .ref 91, .ref 92, .ref 93, .ref 94, .ref 95, .ref 96, .ref 97, .ref 98, .ref 99, .ref 100, .ref 101, .int (v 2), .ref 102, .ref 103, .ref 104, .ref 105, .ref 106, .ref 107, .ref 108, .int (v 3), .ref 109, .int (v 4), .ref 110, .ref 111, .int (v 5), .ref 112, .int (nI l), .int (nI (a + n)), .int (nI 1), .ref 113, .int (nI (i + 1)), .ref 114, .ref 115, .ref 116, .ref 117]) fX12_readPath_313 rfl (lt_k (s1.le hn) (by decide)) (xset_same _ _ _) (Nat.le_of_ble_eq_true rfl) rfl rfl rfl dX12_readPath_117 ?_
        refine AX.aload_n (pc := 120) dX12_readPath_120 rfl ?_
        refine AX.iconst (pc := 121) (v := nI 0) dX12_readPath_121 (by decide) ?_
        refine AX.putf (pc := 122) (h := xset (xset (xset (xset h1 113 (.inl (0, 20, .inl (upd f i (nI s))))) 87 (.inr (11, [.ref 88, .ref 89, .ref 90, .int (v 0), .int (v 1), .ref 91, .ref 92, .ref 93, .ref 94, .ref 95, .ref 96, .ref 97, .ref 98, .ref 99, .ref 100, .ref 101, .int (v 2), .ref 102, .ref 103, .ref 104, .ref 105, .ref 106, .ref 107, .ref 108, .int (v 3), .ref 109, .int (v 4), .ref 110, .ref 111, .int (v 5), .ref 112, .int (nI l), .int (nI (a + n)), .int (nI 0), .ref 113, .int (nI (i + 1)), .ref 114, .ref 115, .ref 116, .ref 117]))) 87 (.inr (11, [.ref 88, .ref 89, .ref 90, .int (v 0), .int (v 1), .ref 91, .ref 92, .ref 93, .ref 94, .ref 95, .ref 96, .ref 97, .ref 98, .ref 99, .ref 100, .ref 101, .int (v 2), .ref 102, .ref 103, .ref 104, .ref 105, .ref 106, .ref 107, .ref 108, .int (v 3), .ref 109, .int (v 4), .ref 110, .ref 111, .int (v 5), .ref 112, .int (nI l), .int (nI (a + n)), .int (nI 0), .ref 113, .int (nI (i + 1)), .ref 114, .ref 115, .ref 116, .ref 117]))) 87 (.inr (11, [.ref 88, .ref 89, .ref 90, .int (v 0), .int (v 1), .ref 91, .ref 92, .ref 93, .ref 94, .ref 95, .ref 96, .ref 97, .ref 98, .ref 99, .ref 100, .ref 101, .int (v 2), .ref 102, .ref 103, .ref 104, .ref 105, .ref 106, .ref 107, .ref 108, .int (v 3), .ref 109, .int (v 4), .ref 110, .ref 111, .int (v 5), .ref 112, .int (nI l), .int (nI (a + n)), .int (nI 1), .ref 113, .int (nI (i + 1)), .ref 114, .ref 115, .ref 116, .ref 117]))) (a := 87) (fs' := [.ref 88, .ref 89, .ref 90, .int (v 0), .int (v 1), .ref 91, .ref 92, .ref 93, .ref 94, .ref 95, .ref 96, .ref 97, .ref 98, .ref 99, .ref 100, .ref 101, .int (v 2), .ref 102, .ref 103, .ref 104, .ref 105, .ref 106, .ref 107, .ref 108, .int (v 3), .ref 109, .int (v 4), .ref 110, .ref 111, .int (v 5), .ref 112, .int (nI 0), .int (nI (a + n)), .int (nI 1), .ref 113, .int (nI (i + 1)), .ref 114, .ref 115, .ref 116, .ref 117]) fX12_readPath_301 rfl (lt_k (s1.le hn) (by decide)) (xset_same _ _ _) (Nat.le_of_ble_eq_true rfl) rfl rfl rfl dX12_readPath_122 ?_
        refine AX.aload_n (pc := 125) dX12_readPath_125 rfl ?_
        refine AX.getf (pc := 126) fX12_readPath_313 (lt_k (s1.le hn) (by decide)) (xset_same _ _ _) rfl dX12_readPath_126 ?_
        refine AX.if_neN (pc := 129) (tgt := 136) dX12_readPath_129 (by decide) (by decide) (fun hc129 => ?_) (fun q => absurd q (by decide))
        refine AX.iconst (pc := 136) (v := nI 0) dX12_readPath_136 (by decide) ?_
        refine AX.iret (pc := 137) dX12_readPath_137 rfl rfl (by decide) (by decide) ?_
        have sx : Same [87, 113] h1 (xset (xset (xset (xset (xset h1 113 (.inl (0, 20, .inl (upd f i (nI s))))) 87 (.inr (11, [.ref 88, .ref 89, .ref 90, .int (v 0), .int (v 1), .ref 91, .ref 92, .ref 93, .ref 94, .ref 95, .ref 96, .ref 97, .ref 98, .ref 99, .ref 100, .ref 101, .int (v 2), .ref 102, .ref 103, .ref 104, .ref 105, .ref 106, .ref 107, .ref 108, .int (v 3), .ref 109, .int (v 4), .ref 110, .ref 111, .int (v 5), .ref 112, .int (nI l), .int (nI (a + n)), .int (nI 0), .ref 113, .int (nI (i + 1)), .ref 114, .ref 115, .ref 116, .ref 117]))) 87 (.inr (11, [.ref 88, .ref 89, .ref 90, .int (v 0), .int (v 1), .ref 91, .ref 92, .ref 93, .ref 94, .ref 95, .ref 96, .ref 97, .ref 98, .ref 99, .ref 100, .ref 101, .int (v 2), .ref 102, .ref 103, .ref 104, .ref 105, .ref 106, .ref 107, .ref 108, .int (v 3), .ref 109, .int (v 4), .ref 110, .ref 111, .int (v 5), .ref 112, .int (nI l), .int (nI (a + n)), .int (nI 0), .ref 113, .int (nI (i + 1)), .ref 114, .ref 115, .ref 116, .ref 117]))) 87 (.inr (11, [.ref 88, .ref 89, .ref 90, .int (v 0), .int (v 1), .ref 91, .ref 92, .ref 93, .ref 94, .ref 95, .ref 96, .ref 97, .ref 98, .ref 99, .ref 100, .ref 101, .int (v 2), .ref 102, .ref 103, .ref 104, .ref 105, .ref 106, .ref 107, .ref 108, .int (v 3), .ref 109, .int (v 4), .ref 110, .ref 111, .int (v 5), .ref 112, .int (nI l), .int (nI (a + n)), .int (nI 1), .ref 113, .int (nI (i + 1)), .ref 114, .ref 115, .ref 116, .ref 117]))) 87 (.inr (11, [.ref 88, .ref 89, .ref 90, .int (v 0), .int (v 1), .ref 91, .ref 92, .ref 93, .ref 94, .ref 95, .ref 96, .ref 97, .ref 98, .ref 99, .ref 100, .ref 101, .int (v 2), .ref 102, .ref 103, .ref 104, .ref 105, .ref 106, .ref 107, .ref 108, .int (v 3), .ref 109, .int (v 4), .ref 110, .ref 111, .int (v 5), .ref 112, .int (nI 0), .int (nI (a + n)), .int (nI 1), .ref 113, .int (nI (i + 1)), .ref 114, .ref 115, .ref 116, .ref 117]))) := Same.set (Same.set (Same.set (Same.set (Same.set (Same.rf) (by simp)) (by simp)) (by simp)) (by simp)) (by simp)
        refine hP _ _ (hS.trans ((s1.wide (by decide)).trans sx)) ?_
        rw [← hR, hz]
        exact ⟨rfl, ⟨_, (xset_same _ _ _)⟩, _, ((xset_ne (by decide)).trans ((xset_ne (by decide)).trans ((xset_ne (by decide)).trans ((xset_ne (by decide)).trans (xset_same _ _ _)))))⟩
theorem c_readPath (w : XW) (h : XH) {v : Nat → Int32} {y : Nat → Nat} {l : Nat} {f : Nat → Int32} (hl60 : l ≤ 60) (hn : 118 ≤ h.1) (hO : h.2 87 = .inr (11, [.ref 88, .ref 89, .ref 90, .int (v 0), .int (v 1), .ref 91, .ref 92, .ref 93, .ref 94, .ref 95, .ref 96, .ref 97, .ref 98, .ref 99, .ref 100, .ref 101, .int (v 2), .ref 102, .ref 103, .ref 104, .ref 105, .ref 106, .ref 107, .ref 108, .int (v 3), .ref 109, .int (v 4), .ref 110, .ref 111, .int (v 5), .ref 112, .int (nI l), .int (v 7), .int (v 8), .ref 113, .int (v 9), .ref 114, .ref 115, .ref 116, .ref 117])) (hT : HT h y l) (e113 : h.2 113 = .inl (0, 20, .inl f)) : CA w M_X12_readPath [.ref 87] h (fun x h' => Same [87, 113] h h' ∧ rpR h' v x (ptN y l 12 0 [])) := by
  refine CA.of (by decide) rfl (fun _ => Nat.le_of_ble_eq_true rfl) ?_
  show AX w M_X12_readPath 0 0 0 [.ref 87, .null, .null] [] h _
  refine AX.aload_n (pc := 0) dX12_readPath_0 rfl ?_
  refine AX.iconst (pc := 1) (v := nI 0) dX12_readPath_1 (by decide) ?_
  refine AX.putf (pc := 2) (fs' := [.ref 88, .ref 89, .ref 90, .int (v 0), .int (v 1), .ref 91, .ref 92, .ref 93, .ref 94, .ref 95, .ref 96, .ref 97, .ref 98, .ref 99, .ref 100, .ref 101, .int (v 2), .ref 102, .ref 103, .ref 104, .ref 105, .ref 106, .ref 107, .ref 108, .int (v 3), .ref 109, .int (v 4), .ref 110, .ref 111, .int (v 5), .ref 112, .int (nI l), .int (nI 0), .int (v 8), .ref 113, .int (v 9), .ref 114, .ref 115, .ref 116, .ref 117]) fX12_readPath_310 rfl (lt_k hn (by decide)) hO (Nat.le_of_ble_eq_true rfl) rfl rfl rfl dX12_readPath_2 ?_
  refine AX.aload_n (pc := 5) dX12_readPath_5 rfl ?_
  refine AX.iconst (pc := 6) (v := nI 0) dX12_readPath_6 (by decide) ?_
  refine AX.putf (pc := 7) (h := xset h 87 (.inr (11, [.ref 88, .ref 89, .ref 90, .int (v 0), .int (v 1), .ref 91, .ref 92, .ref 93, .ref 94, .ref 95, .ref 96, .ref 97, .ref 98, .ref 99, .ref 100, .ref 101, .int (v 2), .ref 102, .ref 103, .ref 104, .ref 105, .ref 106, .ref 107, .ref 108, .int (v 3), .ref 109, .int (v 4), .ref 110, .ref 111, .int (v 5), .ref 112, .int (nI l), .int (nI 0), .int (v 8), .ref 113, .int (v 9), .ref 114, .ref 115, .ref 116, .ref 117]))) (a := 87) (fs' := [.ref 88, .ref 89, .ref 90, .int (v 0), .int (v 1), .ref 91, .ref 92, .ref 93, .ref 94, .ref 95, .ref 96, .ref 97, .ref 98, .ref 99, .ref 100, .ref 101, .int (v 2), .ref 102, .ref 103, .ref 104, .ref 105, .ref 106, .ref 107, .ref 108, .int (v 3), .ref 109, .int (v 4), .ref 110, .ref 111, .int (v 5), .ref 112, .int (nI l), .int (nI 0), .int (v 8), .ref 113, .int (nI 0), .ref 114, .ref 115, .ref 116, .ref 117]) fX12_readPath_332 rfl (lt_k hn (by decide)) (xset_same _ _ _) (Nat.le_of_ble_eq_true rfl) rfl rfl rfl dX12_readPath_7 ?_
  refine AX.iconst (pc := 10) (v := nI 1) dX12_readPath_10 (by decide) ?_
  refine AX.istore_n (pc := 11) (L' := [.ref 87, .int (nI 1), .null]) dX12_readPath_11 (by decide) rfl ?_
  have sx : Same [87] h (xset (xset h 87 (.inr (11, [.ref 88, .ref 89, .ref 90, .int (v 0), .int (v 1), .ref 91, .ref 92, .ref 93, .ref 94, .ref 95, .ref 96, .ref 97, .ref 98, .ref 99, .ref 100, .ref 101, .int (v 2), .ref 102, .ref 103, .ref 104, .ref 105, .ref 106, .ref 107, .ref 108, .int (v 3), .ref 109, .int (v 4), .ref 110, .ref 111, .int (v 5), .ref 112, .int (nI l), .int (nI 0), .int (v 8), .ref 113, .int (v 9), .ref 114, .ref 115, .ref 116, .ref 117]))) 87 (.inr (11, [.ref 88, .ref 89, .ref 90, .int (v 0), .int (v 1), .ref 91, .ref 92, .ref 93, .ref 94, .ref 95, .ref 96, .ref 97, .ref 98, .ref 99, .ref 100, .ref 101, .int (v 2), .ref 102, .ref 103, .ref 104, .ref 105, .ref 106, .ref 107, .ref 108, .int (v 3), .ref 109, .int (v 4), .ref 110, .ref 111, .int (v 5), .ref 112, .int (nI l), .int (nI 0), .int (v 8), .ref 113, .int (nI 0), .ref 114, .ref 115, .ref 116, .ref 117]))) := Same.set (Same.set Same.rf (by simp)) (by simp)
  exact l_rp w _ (xset (xset h 87 (.inr (11, [.ref 88, .ref 89, .ref 90, .int (v 0), .int (v 1), .ref 91, .ref 92, .ref 93, .ref 94, .ref 95, .ref 96, .ref 97, .ref 98, .ref 99, .ref 100, .ref 101, .int (v 2), .ref 102, .ref 103, .ref 104, .ref 105, .ref 106, .ref 107, .ref 108, .int (v 3), .ref 109, .int (v 4), .ref 110, .ref 111, .int (v 5), .ref 112, .int (nI l), .int (nI 0), .int (v 8), .ref 113, .int (v 9), .ref 114, .ref 115, .ref 116, .ref 117]))) 87 (.inr (11, [.ref 88, .ref 89, .ref 90, .int (v 0), .int (v 1), .ref 91, .ref 92, .ref 93, .ref 94, .ref 95, .ref 96, .ref 97, .ref 98, .ref 99, .ref 100, .ref 101, .int (v 2), .ref 102, .ref 103, .ref 104, .ref 105, .ref 106, .ref 107, .ref 108, .int (v 3), .ref 109, .int (v 4), .ref 110, .ref 111, .int (v 5), .ref 112, .int (nI l), .int (nI 0), .int (v 8), .ref 113, .int (nI 0), .ref 114, .ref 115, .ref 116, .ref 117]))) (ptN y l 12 0 []) hl60 (sx.le hn) (hT.same sx (by simp)) (fun x h2 a1 a2 => ⟨(sx.wide (by decide)).trans a1, a2⟩) 11 0 0 [] _ (v 8) f rfl rfl (Nat.zero_le _) (xset_same _ _ _) (sx.at (by simp) e113) (fun j hj => absurd hj (Nat.not_lt_zero _)) Same.rf rfl
theorem l_judged (w : XW) (h : XH) {v q f : Nat → Int32} {o c r0 : Nat} (hn : 118 ≤ h.1) (hO : h.2 87 = .inr (11, [.ref 88, .ref 89, .ref 90, .int (v 0), .int (v 1), .ref 91, .ref 92, .ref 93, .ref 94, .ref 95, .ref 96, .ref 97, .ref 98, .ref 99, .ref 100, .ref 101, .int (v 2), .ref 102, .ref 103, .ref 104, .ref 105, .ref 106, .ref 107, .ref 108, .int (v 3), .ref 109, .int (v 4), .ref 110, .ref 111, .int (v 5), .ref 112, .int (v 6), .int (v 7), .int (v 8), .ref 113, .int (nI c), .ref 114, .ref 115, .ref 116, .ref 117])) (hN : iA h 89 19 q) (ho12 : q 12 = nI o) (ho : o ≤ 2) (e113 : h.2 113 = .inl (0, 20, .inl f)) (hc : c ≤ 20) (sp : Nat → Nat) (hsp : ∀ j, j < c → f j = nI (sp j) ∧ sp j < 63) (P : Option Value → XH → Prop) : ∀ (g i r : Nat), i + g = c → r ≤ 501 → P (some (.int (nI (vdN o sp g i r)))) h → AX w M_X12_judgedFrom 0 0 4 [.ref 87, .int (nI r0), .int (nI r), .int (nI i), .null] [] h P
  | 0, i, r, hg, hr, hP => by
    have e : i = c := by omega
    subst e
    refine AX.iload_n (pc := 4) dX12_judgedFrom_4 rfl ?_
    refine AX.aload_n (pc := 5) dX12_judgedFrom_5 rfl ?_
    refine AX.getf (pc := 6) fX12_judgedFrom_332 (lt_k hn (by decide)) hO rfl dX12_judgedFrom_6 ?_
    refine AX.icmp_geN (pc := 9) (tgt := 69) dX12_judgedFrom_9 (by decide) (by omega) (by omega) (fun hc9 => ?_) (fun q => absurd q (Nat.lt_irrefl _))
    refine AX.sipush (pc := 69) (v := nI 1000) dX12_judgedFrom_69 (by decide) ?_
    refine AX.iload_n (pc := 72) dX12_judgedFrom_72 rfl ?_
    refine AX.iaddN (pc := 73) (c := 1000 + r) dX12_judgedFrom_73 rfl ?_
    refine AX.iret (pc := 74) dX12_judgedFrom_74 rfl rfl (by decide) (by decide) ?_
    exact hP
  | g + 1, i, r, hg, hr, hP => by
    obtain ⟨s1, s2⟩ := hsp i (by omega)
    have hv : vdN o sp (g + 1) i r = match nxN o r (sp i) with
      | none => 100 + i
      | some d => if d = 0 then (if g = 0 then i else 200 + i) else vdN o sp g (i + 1) d := rfl
    cases hx : nxN o r (sp i) with
    | none =>
      rw [hv, hx] at hP
      refine AX.iload_n (pc := 4) dX12_judgedFrom_4 rfl ?_
      refine AX.aload_n (pc := 5) dX12_judgedFrom_5 rfl ?_
      refine AX.getf (pc := 6) fX12_judgedFrom_332 (lt_k hn (by decide)) hO rfl dX12_judgedFrom_6 ?_
      refine AX.icmp_geN (pc := 9) (tgt := 69) dX12_judgedFrom_9 (by decide) (by omega) (by omega) (fun q => absurd q (by omega)) (fun hc9 => ?_)
      refine AX.aload_n (pc := 12) dX12_judgedFrom_12 rfl ?_
      refine AX.iload_n (pc := 13) dX12_judgedFrom_13 rfl ?_
      refine AX.aload_n (pc := 14) dX12_judgedFrom_14 rfl ?_
      refine AX.getf (pc := 15) fX12_judgedFrom_87 (lt_k hn (by decide)) hO rfl dX12_judgedFrom_15 ?_
      refine AX.iload_n (pc := 18) dX12_judgedFrom_18 rfl ?_
      refine AX.ialdN (pc := 19) (i := i) (v := (nI (sp i))) (lt_k hn (by decide)) e113 (by decide) (by omega) s1 dX12_judgedFrom_19 ?_
      refine AX.callV (pc := 20) (M2 := M_X12_nextRest) (As := [.int (nI r), .int (nI (sp i))]) (rest := []) (c_nextRest w h (v := upd v 9 (nI c)) hn hO hN ho12 ho r (sp i) (by omega) s2) xc_X12_judgedFrom__X12_nextRest gX12_judgedFrom_X12_nextRest (ci := 11) rfl (lt_k hn (by decide)) hO rfl (Nat.le_of_ble_eq_true rfl) dX12_judgedFrom_20 ?_
      rintro _ h9 ⟨rfl, e9⟩
      have e9 := e9.symm
      subst e9
      rw [hx]
      show AX w M_X12_judgedFrom 0 0 23 [.ref 87, .int (nI r0), .int (nI r), .int (nI i), .null] [.int (-5)] _ _
      refine AX.istore (pc := 23) (L' := [.ref 87, .int (nI r0), .int (nI r), .int (nI i), .int (-5)]) dX12_judgedFrom_23 (by decide) rfl ?_
      refine AX.iload (pc := 25) dX12_judgedFrom_25 rfl ?_
      refine AX.if_ge (pc := 27) (tgt := 35) dX12_judgedFrom_27 (by decide) (fun q => absurd q (by decide)) (fun hc27 => ?_)
      refine AX.bipush (pc := 30) (v := nI 100) dX12_judgedFrom_30 (by decide) ?_
      refine AX.iload_n (pc := 32) dX12_judgedFrom_32 rfl ?_
      refine AX.iaddN (pc := 33) (c := 100 + i) dX12_judgedFrom_33 rfl ?_
      refine AX.iret (pc := 34) dX12_judgedFrom_34 rfl rfl (by decide) (by decide) ?_
      exact hP
    | some d =>
      have hd := nxN_le hx
      rw [hv, hx] at hP
      have hP : P (some (.int (nI (if d = 0 then (if g = 0 then i else 200 + i) else vdN o sp g (i + 1) d)))) h := hP
      by_cases hd0 : d = 0
      · subst hd0
        rw [if_pos rfl] at hP
        by_cases hg0 : g = 0
        · rw [if_pos hg0] at hP
          refine AX.iload_n (pc := 4) dX12_judgedFrom_4 rfl ?_
          refine AX.aload_n (pc := 5) dX12_judgedFrom_5 rfl ?_
          refine AX.getf (pc := 6) fX12_judgedFrom_332 (lt_k hn (by decide)) hO rfl dX12_judgedFrom_6 ?_
          refine AX.icmp_geN (pc := 9) (tgt := 69) dX12_judgedFrom_9 (by decide) (by omega) (by omega) (fun q => absurd q (by omega)) (fun hc9 => ?_)
          refine AX.aload_n (pc := 12) dX12_judgedFrom_12 rfl ?_
          refine AX.iload_n (pc := 13) dX12_judgedFrom_13 rfl ?_
          refine AX.aload_n (pc := 14) dX12_judgedFrom_14 rfl ?_
          refine AX.getf (pc := 15) fX12_judgedFrom_87 (lt_k hn (by decide)) hO rfl dX12_judgedFrom_15 ?_
          refine AX.iload_n (pc := 18) dX12_judgedFrom_18 rfl ?_
          refine AX.ialdN (pc := 19) (i := i) (v := (nI (sp i))) (lt_k hn (by decide)) e113 (by decide) (by omega) s1 dX12_judgedFrom_19 ?_
          refine AX.callV (pc := 20) (M2 := M_X12_nextRest) (As := [.int (nI r), .int (nI (sp i))]) (rest := []) (c_nextRest w h (v := upd v 9 (nI c)) hn hO hN ho12 ho r (sp i) (by omega) s2) xc_X12_judgedFrom__X12_nextRest gX12_judgedFrom_X12_nextRest (ci := 11) rfl (lt_k hn (by decide)) hO rfl (Nat.le_of_ble_eq_true rfl) dX12_judgedFrom_20 ?_
          rintro _ h9 ⟨rfl, e9⟩
          have e9 := e9.symm
          subst e9
          rw [hx]
          show AX w M_X12_judgedFrom 0 0 23 [.ref 87, .int (nI r0), .int (nI r), .int (nI i), .null] [.int (nI 0)] _ _
          refine AX.istore (pc := 23) (L' := [.ref 87, .int (nI r0), .int (nI r), .int (nI i), .int (nI 0)]) dX12_judgedFrom_23 (by decide) rfl ?_
          refine AX.iload (pc := 25) dX12_judgedFrom_25 rfl ?_
          refine AX.if_geN (pc := 27) (tgt := 35) dX12_judgedFrom_27 (by decide) (by decide) (fun hc27 => ?_) (fun q => absurd q (by decide))
          refine AX.iload (pc := 35) dX12_judgedFrom_35 rfl ?_
          refine AX.if_neN (pc := 37) (tgt := 60) dX12_judgedFrom_37 (by decide) (by decide) (fun q => absurd q (by decide)) (fun hc37 => ?_)
          refine AX.iload_n (pc := 40) dX12_judgedFrom_40 rfl ?_
          refine AX.aload_n (pc := 41) dX12_judgedFrom_41 rfl ?_
          refine AX.getf (pc := 42) fX12_judgedFrom_332 (lt_k hn (by decide)) hO rfl dX12_judgedFrom_42 ?_
          refine AX.iconst (pc := 45) (v := nI 1) dX12_judgedFrom_45 (by decide) ?_
          refine AX.isubN (pc := 46) (c := c - 1) dX12_judgedFrom_46 (by omega) ?_
          refine AX.icmp_neN (pc := 47) (tgt := 54) dX12_judgedFrom_47 (by decide) (by omega) (by omega) (fun q => absurd q (by omega)) (fun hc47 => ?_)
          refine AX.iload_n (pc := 50) dX12_judgedFrom_50 rfl ?_
          refine AX.goto (pc := 51) (tgt := 59) dX12_judgedFrom_51 (by decide) ?_
          refine AX.iret (pc := 59) dX12_judgedFrom_59 rfl rfl (by decide) (by decide) ?_
          exact hP
        rw [if_neg hg0] at hP
        refine AX.iload_n (pc := 4) dX12_judgedFrom_4 rfl ?_
        refine AX.aload_n (pc := 5) dX12_judgedFrom_5 rfl ?_
        refine AX.getf (pc := 6) fX12_judgedFrom_332 (lt_k hn (by decide)) hO rfl dX12_judgedFrom_6 ?_
        refine AX.icmp_geN (pc := 9) (tgt := 69) dX12_judgedFrom_9 (by decide) (by omega) (by omega) (fun q => absurd q (by omega)) (fun hc9 => ?_)
        refine AX.aload_n (pc := 12) dX12_judgedFrom_12 rfl ?_
        refine AX.iload_n (pc := 13) dX12_judgedFrom_13 rfl ?_
        refine AX.aload_n (pc := 14) dX12_judgedFrom_14 rfl ?_
        refine AX.getf (pc := 15) fX12_judgedFrom_87 (lt_k hn (by decide)) hO rfl dX12_judgedFrom_15 ?_
        refine AX.iload_n (pc := 18) dX12_judgedFrom_18 rfl ?_
        refine AX.ialdN (pc := 19) (i := i) (v := (nI (sp i))) (lt_k hn (by decide)) e113 (by decide) (by omega) s1 dX12_judgedFrom_19 ?_
        refine AX.callV (pc := 20) (M2 := M_X12_nextRest) (As := [.int (nI r), .int (nI (sp i))]) (rest := []) (c_nextRest w h (v := upd v 9 (nI c)) hn hO hN ho12 ho r (sp i) (by omega) s2) xc_X12_judgedFrom__X12_nextRest gX12_judgedFrom_X12_nextRest (ci := 11) rfl (lt_k hn (by decide)) hO rfl (Nat.le_of_ble_eq_true rfl) dX12_judgedFrom_20 ?_
        rintro _ h9 ⟨rfl, e9⟩
        have e9 := e9.symm
        subst e9
        rw [hx]
        show AX w M_X12_judgedFrom 0 0 23 [.ref 87, .int (nI r0), .int (nI r), .int (nI i), .null] [.int (nI 0)] _ _
        refine AX.istore (pc := 23) (L' := [.ref 87, .int (nI r0), .int (nI r), .int (nI i), .int (nI 0)]) dX12_judgedFrom_23 (by decide) rfl ?_
        refine AX.iload (pc := 25) dX12_judgedFrom_25 rfl ?_
        refine AX.if_geN (pc := 27) (tgt := 35) dX12_judgedFrom_27 (by decide) (by decide) (fun hc27 => ?_) (fun q => absurd q (by decide))
        refine AX.iload (pc := 35) dX12_judgedFrom_35 rfl ?_
        refine AX.if_neN (pc := 37) (tgt := 60) dX12_judgedFrom_37 (by decide) (by decide) (fun q => absurd q (by decide)) (fun hc37 => ?_)
        refine AX.iload_n (pc := 40) dX12_judgedFrom_40 rfl ?_
        refine AX.aload_n (pc := 41) dX12_judgedFrom_41 rfl ?_
        refine AX.getf (pc := 42) fX12_judgedFrom_332 (lt_k hn (by decide)) hO rfl dX12_judgedFrom_42 ?_
        refine AX.iconst (pc := 45) (v := nI 1) dX12_judgedFrom_45 (by decide) ?_
        refine AX.isubN (pc := 46) (c := c - 1) dX12_judgedFrom_46 (by omega) ?_
        refine AX.icmp_neN (pc := 47) (tgt := 54) dX12_judgedFrom_47 (by decide) (by omega) (by omega) (fun hc47 => ?_) (fun q => absurd q (by omega))
        refine AX.sipush (pc := 54) (v := nI 200) dX12_judgedFrom_54 (by decide) ?_
        refine AX.iload_n (pc := 57) dX12_judgedFrom_57 rfl ?_
        refine AX.iaddN (pc := 58) (c := 200 + i) dX12_judgedFrom_58 rfl ?_
        refine AX.iret (pc := 59) dX12_judgedFrom_59 rfl rfl (by decide) (by decide) ?_
        exact hP
      rw [if_neg hd0] at hP
      refine AX.iload_n (pc := 4) dX12_judgedFrom_4 rfl ?_
      refine AX.aload_n (pc := 5) dX12_judgedFrom_5 rfl ?_
      refine AX.getf (pc := 6) fX12_judgedFrom_332 (lt_k hn (by decide)) hO rfl dX12_judgedFrom_6 ?_
      refine AX.icmp_geN (pc := 9) (tgt := 69) dX12_judgedFrom_9 (by decide) (by omega) (by omega) (fun q => absurd q (by omega)) (fun hc9 => ?_)
      refine AX.aload_n (pc := 12) dX12_judgedFrom_12 rfl ?_
      refine AX.iload_n (pc := 13) dX12_judgedFrom_13 rfl ?_
      refine AX.aload_n (pc := 14) dX12_judgedFrom_14 rfl ?_
      refine AX.getf (pc := 15) fX12_judgedFrom_87 (lt_k hn (by decide)) hO rfl dX12_judgedFrom_15 ?_
      refine AX.iload_n (pc := 18) dX12_judgedFrom_18 rfl ?_
      refine AX.ialdN (pc := 19) (i := i) (v := (nI (sp i))) (lt_k hn (by decide)) e113 (by decide) (by omega) s1 dX12_judgedFrom_19 ?_
      refine AX.callV (pc := 20) (M2 := M_X12_nextRest) (As := [.int (nI r), .int (nI (sp i))]) (rest := []) (c_nextRest w h (v := upd v 9 (nI c)) hn hO hN ho12 ho r (sp i) (by omega) s2) xc_X12_judgedFrom__X12_nextRest gX12_judgedFrom_X12_nextRest (ci := 11) rfl (lt_k hn (by decide)) hO rfl (Nat.le_of_ble_eq_true rfl) dX12_judgedFrom_20 ?_
      rintro _ h9 ⟨rfl, e9⟩
      have e9 := e9.symm
      subst e9
      rw [hx]
      show AX w M_X12_judgedFrom 0 0 23 [.ref 87, .int (nI r0), .int (nI r), .int (nI i), .null] [.int (nI d)] _ _
      refine AX.istore (pc := 23) (L' := [.ref 87, .int (nI r0), .int (nI r), .int (nI i), .int (nI d)]) dX12_judgedFrom_23 (by decide) rfl ?_
      refine AX.iload (pc := 25) dX12_judgedFrom_25 rfl ?_
      refine AX.if_geN (pc := 27) (tgt := 35) dX12_judgedFrom_27 (by decide) (by omega) (fun hc27 => ?_) (fun q => absurd q (by omega))
      refine AX.iload (pc := 35) dX12_judgedFrom_35 rfl ?_
      refine AX.if_neN (pc := 37) (tgt := 60) dX12_judgedFrom_37 (by decide) (by omega) (fun hc37 => ?_) (fun q => absurd q (by omega))
      refine AX.iload (pc := 60) dX12_judgedFrom_60 rfl ?_
      refine AX.istore_n (pc := 62) (L' := [.ref 87, .int (nI r0), .int (nI d), .int (nI i), .int (nI d)]) dX12_judgedFrom_62 (by decide) rfl ?_
      refine AX.iincN (c := i + 1) (pc := 63) (L' := [.ref 87, .int (nI r0), .int (nI d), .int (nI (i + 1)), .int (nI d)]) dX12_judgedFrom_63 rfl (inc1 _) (by decide) rfl ?_
      refine AX.goto (pc := 66) (tgt := 4) dX12_judgedFrom_66 (by decide) ?_
      refine AX.sub (L' := [.ref 87, .int (nI r0), .int (nI d), .int (nI (i + 1)), .null]) ⟨Or.inr rfl, Or.inr rfl, Or.inr rfl, Or.inr rfl, Or.inl rfl, trivial⟩ ?_
      exact l_judged w h hn hO hN ho12 ho e113 hc sp hsp P g (i + 1) d (by omega) (by omega) hP
theorem c_judgedFrom (w : XW) (h : XH) {v q f : Nat → Int32} {o c : Nat} (hn : 118 ≤ h.1) (hO : h.2 87 = .inr (11, [.ref 88, .ref 89, .ref 90, .int (v 0), .int (v 1), .ref 91, .ref 92, .ref 93, .ref 94, .ref 95, .ref 96, .ref 97, .ref 98, .ref 99, .ref 100, .ref 101, .int (v 2), .ref 102, .ref 103, .ref 104, .ref 105, .ref 106, .ref 107, .ref 108, .int (v 3), .ref 109, .int (v 4), .ref 110, .ref 111, .int (v 5), .ref 112, .int (v 6), .int (v 7), .int (v 8), .ref 113, .int (nI c), .ref 114, .ref 115, .ref 116, .ref 117])) (hN : iA h 89 19 q) (ho12 : q 12 = nI o) (ho : o ≤ 2) (e113 : h.2 113 = .inl (0, 20, .inl f)) (hc : c ≤ 20) (sp : Nat → Nat) (hsp : ∀ j, j < c → f j = nI (sp j) ∧ sp j < 63) (r : Nat) (hr : r ≤ 501) : CA w M_X12_judgedFrom [.ref 87, .int (nI r)] h (fun v' h'' => v' = some (.int (nI (vdN o sp c 0 r))) ∧ h'' = h) := by
  refine CA.of (by decide) rfl (fun _ => Nat.le_of_ble_eq_true rfl) ?_
  show AX w M_X12_judgedFrom 0 0 0 [.ref 87, .int (nI r), .null, .null, .null] [] h _
  refine AX.iload_n (pc := 0) dX12_judgedFrom_0 rfl ?_
  refine AX.istore_n (pc := 1) (L' := [.ref 87, .int (nI r), .int (nI r), .null, .null]) dX12_judgedFrom_1 (by decide) rfl ?_
  refine AX.iconst (pc := 2) (v := nI 0) dX12_judgedFrom_2 (by decide) ?_
  refine AX.istore_n (pc := 3) (L' := [.ref 87, .int (nI r), .int (nI r), .int (nI 0), .null]) dX12_judgedFrom_3 (by decide) rfl ?_
  exact l_judged w h hn hO hN ho12 ho e113 hc sp hsp _ c 0 r (Nat.zero_add _) hr ⟨rfl, rfl⟩
theorem MS.text {h h' : XH} {s : SS} (c : MS h s) {v : Nat → Int32} {p k : Nat} {z : Int32} (hs : Same [87, 113] h h') (hv : v 0 = bI (sb s) ∧ v 5 = nI (sX s).length) (O : TM h' v 0 p z k) (td : ∃ f : Nat → Int32, h'.2 113 = .inl (0, 20, .inl f)) : MS h' (wT s []) := by
  have x_hn : 118 ≤ h'.1 := hs.le c.hn
  have x_rg : iA h' 88 20 (fun k => nI (rgN k)) := c.rg.same hs (by simp)
  have x_nw : iA h' 89 19 (sq s) := c.nw.same hs (by simp)
  have x_im : (∃ f : Nat → Int32, h'.2 90 = .inl (0, 19, .inl f) ∧ (sb s = true → ∀ j, j < 19 → f j = sp_ s j)) := c.im.imp (fun _ z => ⟨hs.at (by simp) z.1, z.2⟩)
  have x_fx : FX h' := c.fx.same hs (by simp) (by simp) (by simp) (by simp) (by simp)
  have x_dt : DT h' := c.dt.same hs (by simp) (by simp) (by simp) (by simp) (by simp)
  have x_ch : (∃ f : Nat → UInt64, h'.2 101 = .inl (2, 724, .inr (.inr (.inr (.inl f))))) := c.ch.imp (fun _ z => hs.at (by simp) z)
  have x_rt : RT h' := c.rt.same hs (by simp) (by simp) (by simp) (by simp)
  have x_b1 : (∃ f : Nat → Int32, h'.2 106 = .inl (0, 126, .inl f)) := c.b1.imp (fun _ z => hs.at (by simp) z)
  have x_b2 : (∃ f : Nat → Int32, h'.2 107 = .inl (0, 630, .inl f)) := c.b2.imp (fun _ z => hs.at (by simp) z)
  have x_b3 : (∃ f : Nat → Int32, h'.2 108 = .inl (0, 630, .inl f)) := c.b3.imp (fun _ z => hs.at (by simp) z)
  have x_pa : (∃ f : Nat → Int32, h'.2 109 = .inl (0, 3, .inl f)) := c.pa.imp (fun _ z => hs.at (by simp) z)
  have x_en : (∃ f : Nat → Int32, h'.2 110 = .inl (0, 181, .inl f)) := c.en.imp (fun _ z => hs.at (by simp) z)
  have x_pp : (∃ f : Nat → Int32, h'.2 111 = .inl (0, 20, .inl f) ∧ (∀ j, j < (sX s).length → f j = nI ((sX s).getD j 0)) ∧ (sX s).length ≤ 12) := c.pp.imp (fun _ z => ⟨hs.at (by simp) z.1, z.2⟩)
  have x_rk : RMq h' (sk s) := c.rk.same hs (by simp) (by simp) (by simp) (by simp)
  exact ⟨x_hn, ⟨upd (upd (upd (upd v 6 (nI 0)) 7 (nI p)) 8 z) 9 (nI k), O, hv.1, hv.2, rfl⟩, x_rg, x_nw, x_im, x_fx, x_dt, x_ch, x_rt, x_b1, x_b2, x_b3, x_pa, x_en, x_pp, c.tp.imp (fun _ z => ⟨hs.at (by simp) z.1, fun j hj => absurd hj (Nat.not_lt_zero _), Nat.zero_le _⟩), td, x_rk⟩
theorem MS.told {h h' : XH} {s : SS} (c : MS h s) (hs : Same [87, 113] h h') (ob : ∃ v, MO h' v ∧ v 0 = bI (sb s) ∧ v 5 = nI (sX s).length ∧ v 6 = nI (sT s).length) (td : ∃ f : Nat → Int32, h'.2 113 = .inl (0, 20, .inl f)) : MS h' s := by
  have x_hn : 118 ≤ h'.1 := hs.le c.hn
  have x_rg : iA h' 88 20 (fun k => nI (rgN k)) := c.rg.same hs (by simp)
  have x_nw : iA h' 89 19 (sq s) := c.nw.same hs (by simp)
  have x_im : (∃ f : Nat → Int32, h'.2 90 = .inl (0, 19, .inl f) ∧ (sb s = true → ∀ j, j < 19 → f j = sp_ s j)) := c.im.imp (fun _ z => ⟨hs.at (by simp) z.1, z.2⟩)
  have x_fx : FX h' := c.fx.same hs (by simp) (by simp) (by simp) (by simp) (by simp)
  have x_dt : DT h' := c.dt.same hs (by simp) (by simp) (by simp) (by simp) (by simp)
  have x_ch : (∃ f : Nat → UInt64, h'.2 101 = .inl (2, 724, .inr (.inr (.inr (.inl f))))) := c.ch.imp (fun _ z => hs.at (by simp) z)
  have x_rt : RT h' := c.rt.same hs (by simp) (by simp) (by simp) (by simp)
  have x_b1 : (∃ f : Nat → Int32, h'.2 106 = .inl (0, 126, .inl f)) := c.b1.imp (fun _ z => hs.at (by simp) z)
  have x_b2 : (∃ f : Nat → Int32, h'.2 107 = .inl (0, 630, .inl f)) := c.b2.imp (fun _ z => hs.at (by simp) z)
  have x_b3 : (∃ f : Nat → Int32, h'.2 108 = .inl (0, 630, .inl f)) := c.b3.imp (fun _ z => hs.at (by simp) z)
  have x_pa : (∃ f : Nat → Int32, h'.2 109 = .inl (0, 3, .inl f)) := c.pa.imp (fun _ z => hs.at (by simp) z)
  have x_en : (∃ f : Nat → Int32, h'.2 110 = .inl (0, 181, .inl f)) := c.en.imp (fun _ z => hs.at (by simp) z)
  have x_pp : (∃ f : Nat → Int32, h'.2 111 = .inl (0, 20, .inl f) ∧ (∀ j, j < (sX s).length → f j = nI ((sX s).getD j 0)) ∧ (sX s).length ≤ 12) := c.pp.imp (fun _ z => ⟨hs.at (by simp) z.1, z.2⟩)
  have x_tp : (∃ f : Nat → Int32, h'.2 112 = .inl (0, 60, .inl f) ∧ (∀ j, j < (sT s).length → f j = nI ((sT s).getD j 0)) ∧ (sT s).length ≤ 60) := c.tp.imp (fun _ z => ⟨hs.at (by simp) z.1, z.2⟩)
  have x_rk : RMq h' (sk s) := c.rk.same hs (by simp) (by simp) (by simp) (by simp)
  exact ⟨x_hn, ob, x_rg, x_nw, x_im, x_fx, x_dt, x_ch, x_rt, x_b1, x_b2, x_b3, x_pa, x_en, x_pp, x_tp, td, x_rk⟩
theorem MS.ht {h : XH} {s : SS} (c : MS h s) (tb : TB (sT s)) : HT h (fun j => (sT s).getD j 0) (sT s).length := by
  obtain ⟨f, e, q, l⟩ := c.tp
  exact ⟨f, e, fun j hj => ⟨q j hj, tb j hj, l⟩⟩
theorem c_mJudge (w : XW) (h : XH) {s : SS} {n o : Nat} {a b : Nat × Nat} (c : MS h s) (l : LV (sq s) n o a b) (tb : TB (sT s)) (x : Int32) : CA w M_X12_judge [.ref 87, .int x] h (fun v' h'' => v' = some (.int (aJudge o (sT s) x)) ∧ Same mdS h h'' ∧ MS h'' (wT s (nJudge o (sT s) x))) := by
  obtain ⟨v, hO, hv⟩ := id c.ob
  obtain ⟨f89, e89, q89⟩ := id c.nw
  have hO6 : h.2 87 = .inr (11, [.ref 88, .ref 89, .ref 90, .int (v 0), .int (v 1), .ref 91, .ref 92, .ref 93, .ref 94, .ref 95, .ref 96, .ref 97, .ref 98, .ref 99, .ref 100, .ref 101, .int (v 2), .ref 102, .ref 103, .ref 104, .ref 105, .ref 106, .ref 107, .ref 108, .int (v 3), .ref 109, .int (v 4), .ref 110, .ref 111, .int (v 5), .ref 112, .int (nI ((sT s).length)), .int (v 7), .int (v 8), .ref 113, .int (v 9), .ref 114, .ref 115, .ref 116, .ref 117]) := by rw [← hv.2.2]; exact hO
  obtain ⟨f113, e113⟩ := id c.td
  have l60 : (sT s).length ≤ 60 := by obtain ⟨_, _, _, z⟩ := c.tp; exact z
  by_cases h_x : inR (leN o) 501 x
  · obtain ⟨xn, rfl, l_x, u_x⟩ := inR_nat (by decide) h_x
    have p_x := leN_pos o
    have en : nJudge o (sT s) (nI xn) = [] := by unfold nJudge; rw [if_pos h_x]
    rw [en]
    cases hR : tpN (sT s) with
    | inl kf =>
      have hk := tp_inl hR
      refine CA.of (by decide) rfl (fun _ => Nat.le_of_ble_eq_true rfl) ?_
      show AX w M_X12_judge 0 0 0 [.ref 87, .int (nI xn)] [] h _
      refine AX.aload_n (pc := 0) dX12_judge_0 rfl ?_
      refine AX.iload_n (pc := 1) dX12_judge_1 rfl ?_
      refine AX.sipush (pc := 2) (v := nI 501) dX12_judge_2 (by decide) ?_
      refine AX.callV (pc := 5) (M2 := M_X12_isRest) (As := [.int (nI xn), .int (nI 501)]) (rest := []) (c_mRest w h c l (nI xn) 501 (by decide)) xc_X12_judge__X12_isRest gX12_judge_X12_isRest (ci := 11) rfl (lt_k c.hn (by decide)) hO6 rfl (Nat.le_of_ble_eq_true rfl) dX12_judge_5 ?_
      rintro _ h9 ⟨rfl, e9⟩
      have e9 := e9.symm
      subst e9
      rw [decide_eq_true h_x]
      show AX w M_X12_judge 0 0 8 [.ref 87, .int (nI xn)] [.int (bI true)] _ _
      refine AX.if_neB (pc := 8) (tgt := 14) dX12_judge_8 (by decide) (fun hc8 => ?_) (fun q => absurd q (by decide))
      refine AX.aload_n (pc := 14) dX12_judge_14 rfl ?_
      refine AX.callV (pc := 15) (M2 := M_X12_readPath) (As := []) (rest := []) (c_readPath w h (y := fun j => (sT s).getD j 0) l60 c.hn hO6 (c.ht tb) e113) xc_X12_judge__X12_readPath gX12_judge_X12_readPath (ci := 11) rfl (lt_k c.hn (by decide)) hO6 rfl (Nat.le_of_ble_eq_true rfl) dX12_judge_15 ?_
      rintro v1 h1 ⟨s1, R1⟩
      rw [show ptN (fun j => (sT s).getD j 0) (sT s).length 12 0 [] = .inl kf from hR] at R1
      obtain ⟨rfl, ⟨kk, O1⟩, f2, y2⟩ := R1
      have c1 : MS h1 (wT s []) := c.text s1 ⟨hv.1, hv.2.1⟩ O1 ⟨f2, y2⟩
      have O1 : h1.2 87 = .inr (11, [.ref 88, .ref 89, .ref 90, .int (v 0), .int (v 1), .ref 91, .ref 92, .ref 93, .ref 94, .ref 95, .ref 96, .ref 97, .ref 98, .ref 99, .ref 100, .ref 101, .int (v 2), .ref 102, .ref 103, .ref 104, .ref 105, .ref 106, .ref 107, .ref 108, .int (v 3), .ref 109, .int (v 4), .ref 110, .ref 111, .int (v 5), .ref 112, .int (nI 0), .int (nI kf), .int (nI 1), .ref 113, .int (nI kk), .ref 114, .ref 115, .ref 116, .ref 117]) := O1
      show AX w M_X12_judge 0 0 18 [.ref 87, .int (nI xn)] [.int (nI 0)] _ _
      refine AX.if_eqN (pc := 18) (tgt := 29) dX12_judge_18 (by decide) (by decide) (fun hc18 => ?_) (fun q => absurd q (by decide))
      refine AX.bipush (pc := 29) (v := (-100)) dX12_judge_29 (by decide) ?_
      refine AX.aload_n (pc := 31) dX12_judge_31 rfl ?_
      refine AX.getf (pc := 32) fX12_judge_310 (lt_k (s1.le c.hn) (by decide)) O1 rfl dX12_judge_32 ?_
      refine AX.isub (pc := 35) dX12_judge_35 ?_
      refine AX.iret (pc := 36) dX12_judge_36 rfl rfl (by decide) (by decide) ?_
      exact ⟨by unfold aJudge; rw [if_pos h_x, hR], mdS_lt s1 (by decide), c1⟩
    | inr XR =>
      have hX := tp_inr hR
      refine CA.of (by decide) rfl (fun _ => Nat.le_of_ble_eq_true rfl) ?_
      show AX w M_X12_judge 0 0 0 [.ref 87, .int (nI xn)] [] h _
      refine AX.aload_n (pc := 0) dX12_judge_0 rfl ?_
      refine AX.iload_n (pc := 1) dX12_judge_1 rfl ?_
      refine AX.sipush (pc := 2) (v := nI 501) dX12_judge_2 (by decide) ?_
      refine AX.callV (pc := 5) (M2 := M_X12_isRest) (As := [.int (nI xn), .int (nI 501)]) (rest := []) (c_mRest w h c l (nI xn) 501 (by decide)) xc_X12_judge__X12_isRest gX12_judge_X12_isRest (ci := 11) rfl (lt_k c.hn (by decide)) hO6 rfl (Nat.le_of_ble_eq_true rfl) dX12_judge_5 ?_
      rintro _ h9 ⟨rfl, e9⟩
      have e9 := e9.symm
      subst e9
      rw [decide_eq_true h_x]
      show AX w M_X12_judge 0 0 8 [.ref 87, .int (nI xn)] [.int (bI true)] _ _
      refine AX.if_neB (pc := 8) (tgt := 14) dX12_judge_8 (by decide) (fun hc8 => ?_) (fun q => absurd q (by decide))
      refine AX.aload_n (pc := 14) dX12_judge_14 rfl ?_
      refine AX.callV (pc := 15) (M2 := M_X12_readPath) (As := []) (rest := []) (c_readPath w h (y := fun j => (sT s).getD j 0) l60 c.hn hO6 (c.ht tb) e113) xc_X12_judge__X12_readPath gX12_judge_X12_readPath (ci := 11) rfl (lt_k c.hn (by decide)) hO6 rfl (Nat.le_of_ble_eq_true rfl) dX12_judge_15 ?_
      rintro v1 h1 ⟨s1, R1⟩
      rw [show ptN (fun j => (sT s).getD j 0) (sT s).length 12 0 [] = .inr XR from hR] at R1
      obtain ⟨rfl, ⟨pp, O1⟩, f2, y2, q2⟩ := R1
      have c1 : MS h1 (wT s []) := c.text s1 ⟨hv.1, hv.2.1⟩ O1 ⟨f2, y2⟩
      have O1 : h1.2 87 = .inr (11, [.ref 88, .ref 89, .ref 90, .int (v 0), .int (v 1), .ref 91, .ref 92, .ref 93, .ref 94, .ref 95, .ref 96, .ref 97, .ref 98, .ref 99, .ref 100, .ref 101, .int (v 2), .ref 102, .ref 103, .ref 104, .ref 105, .ref 106, .ref 107, .ref 108, .int (v 3), .ref 109, .int (v 4), .ref 110, .ref 111, .int (v 5), .ref 112, .int (nI 0), .int (nI pp), .int (nI 0), .ref 113, .int (nI XR.length), .ref 114, .ref 115, .ref 116, .ref 117]) := O1
      show AX w M_X12_judge 0 0 18 [.ref 87, .int (nI xn)] [.int (nI 1)] _ _
      refine AX.if_eqN (pc := 18) (tgt := 29) dX12_judge_18 (by decide) (by decide) (fun q => absurd q (by decide)) (fun hc18 => ?_)
      refine AX.aload_n (pc := 21) dX12_judge_21 rfl ?_
      refine AX.iload_n (pc := 22) dX12_judge_22 rfl ?_
      refine AX.callV (pc := 23) (M2 := M_X12_judgedFrom) (As := [.int (nI xn)]) (rest := []) (c_judgedFrom w h1 (s1.le c.hn) (v := upd (upd (upd v 6 (nI 0)) 7 (nI pp)) 8 (nI 0)) O1 c1.nw l.q12 l.ho y2 (Nat.le_trans hX.2 (by decide)) (fun j => XR.getD j 0) (fun j hj => ⟨q2 j hj, hX.1 j hj⟩) xn (by omega)) xc_X12_judge__X12_judgedFrom gX12_judge_X12_judgedFrom (ci := 11) rfl (lt_k (s1.le c.hn) (by decide)) O1 rfl (Nat.le_of_ble_eq_true rfl) dX12_judge_23 ?_
      rintro _ h9 ⟨rfl, e9⟩
      have e9 := e9.symm
      subst e9
      show AX w M_X12_judge 0 0 26 [.ref 87, .int (nI xn)] [.int (nI (vdN o (fun j => XR.getD j 0) XR.length 0 xn))] _ _
      refine AX.goto (pc := 26) (tgt := 36) dX12_judge_26 (by decide) ?_
      refine AX.iret (pc := 36) dX12_judge_36 rfl rfl (by decide) (by decide) ?_
      exact ⟨by unfold aJudge; rw [if_pos h_x, hR, nI_nat (by omega)], mdS_lt s1 (by decide), c1⟩
  · refine CA.of (by decide) rfl (fun _ => Nat.le_of_ble_eq_true rfl) ?_
    show AX w M_X12_judge 0 0 0 [.ref 87, .int x] [] h _
    refine AX.aload_n (pc := 0) dX12_judge_0 rfl ?_
    refine AX.iload_n (pc := 1) dX12_judge_1 rfl ?_
    refine AX.sipush (pc := 2) (v := nI 501) dX12_judge_2 (by decide) ?_
    refine AX.callV (pc := 5) (M2 := M_X12_isRest) (As := [.int x, .int (nI 501)]) (rest := []) (c_mRest w h c l x 501 (by decide)) xc_X12_judge__X12_isRest gX12_judge_X12_isRest (ci := 11) rfl (lt_k c.hn (by decide)) hO6 rfl (Nat.le_of_ble_eq_true rfl) dX12_judge_5 ?_
    rintro _ h9 ⟨rfl, e9⟩
    have e9 := e9.symm
    subst e9
    rw [decide_eq_false h_x]
    show AX w M_X12_judge 0 0 8 [.ref 87, .int x] [.int (bI false)] _ _
    refine AX.if_neB (pc := 8) (tgt := 14) dX12_judge_8 (by decide) (fun q => absurd q (by decide)) (fun hc8 => ?_)
    refine AX.bipush (pc := 11) (v := (-2)) dX12_judge_11 (by decide) ?_
    refine AX.iret (pc := 13) dX12_judge_13 rfl rfl (by decide) (by decide) ?_
    have en : nJudge o (sT s) x = sT s := by unfold nJudge; rw [if_neg h_x]
    rw [en]
    exact ⟨by unfold aJudge; rw [if_neg h_x]; try rfl, Same.rf, c⟩
theorem l_mPlay (w : XW) (P : Option Value → XH → Prop) (h0 : XH) {s : SS} {o : Nat} {a b : Nat × Nat} {X : List Nat} {v f qf : Nat → Int32} {z0 : Int32} (hX : ∀ j, j < X.length → X.getD j 0 < 63) (hX2 : X.length ≤ 12) (hf : ∀ j, j < X.length → f j = nI (X.getD j 0)) (hP : ∀ h', Same mdS h0 h' → MS h' (wq s qf) → P (some (.int (qf 6 + qf 7 - z0))) h') : ∀ (g i n : Nat) (h : XH) (q : Nat → Int32), i + g = X.length → MS h (wq s q) → h.2 87 = .inr (11, [.ref 88, .ref 89, .ref 90, .int (v 0), .int (v 1), .ref 91, .ref 92, .ref 93, .ref 94, .ref 95, .ref 96, .ref 97, .ref 98, .ref 99, .ref 100, .ref 101, .int (v 2), .ref 102, .ref 103, .ref 104, .ref 105, .ref 106, .ref 107, .ref 108, .int (v 3), .ref 109, .int (v 4), .ref 110, .ref 111, .int (v 5), .ref 112, .int (v 6), .int (v 7), .int (v 8), .ref 113, .int (nI X.length), .ref 114, .ref 115, .ref 116, .ref 117]) → h.2 113 = .inl (0, 20, .inl f) → LV q n o a b → Same mdS h0 h → thI o (X.drop i) q = qf → AX w M_X12_play 0 0 19 [.ref 87, .int (q 6 + q 7 - z0), .int (nI i)] [] h P
  | 0, i, n, h, q, hg, c, hO, e113, l, hS, hq => by
    have e : i = X.length := by omega
    subst e
    rw [List.drop_length] at hq
    have hq : q = qf := hq
    subst hq
    refine AX.iload_n (pc := 19) dX12_play_19 rfl ?_
    refine AX.aload_n (pc := 20) dX12_play_20 rfl ?_
    refine AX.getf (pc := 21) fX12_play_332 (lt_k c.hn (by decide)) hO rfl dX12_play_21 ?_
    refine AX.icmp_geN (pc := 24) (tgt := 54) dX12_play_24 (by decide) (by omega) (by omega) (fun hc24 => ?_) (fun q => absurd q (Nat.lt_irrefl _))
    refine AX.iload_n (pc := 54) dX12_play_54 rfl ?_
    refine AX.iret (pc := 55) dX12_play_55 rfl rfl (by decide) (by decide) ?_
    exact hP h hS c
  | g + 1, i, n, h, q, hg, c, hO, e113, l, hS, hq => by
    have hi : i < X.length := by omega
    have hd : X.drop i = X.getD i 0 :: X.drop (i + 1) := by rw [List.drop_eq_getElem_cons hi, List.getD_eq_getElem?_getD, List.getElem?_eq_getElem hi]; rfl
    rw [hd] at hq
    have hnb : ∀ d, nxN o (qr q) (X.getD i 0) = some d → d ≤ 501 := fun d e => Nat.le_trans (nxN_le e) l.now.2.2.2.2.2.2
    by_cases hz : nxN o (qr q) (X.getD i 0) = some 0
    · refine AX.iload_n (pc := 19) dX12_play_19 rfl ?_
      refine AX.aload_n (pc := 20) dX12_play_20 rfl ?_
      refine AX.getf (pc := 21) fX12_play_332 (lt_k c.hn (by decide)) hO rfl dX12_play_21 ?_
      refine AX.icmp_geN (pc := 24) (tgt := 54) dX12_play_24 (by decide) (by omega) (by omega) (fun q => absurd q (by omega)) (fun hc24 => ?_)
      refine AX.iload_n (pc := 27) dX12_play_27 rfl ?_
      refine AX.aload_n (pc := 28) dX12_play_28 rfl ?_
      refine AX.aload_n (pc := 29) dX12_play_29 rfl ?_
      refine AX.getf (pc := 30) fX12_play_87 (lt_k c.hn (by decide)) hO rfl dX12_play_30 ?_
      refine AX.iload_n (pc := 33) dX12_play_33 rfl ?_
      refine AX.ialdN (pc := 34) (i := i) (v := (nI (X.getD i 0))) (lt_k c.hn (by decide)) e113 (by decide) (by omega) (hf i hi) dX12_play_34 ?_
      refine AX.callV (pc := 35) (M2 := M_X12_fallsUpon) (As := [.int (nI (X.getD i 0))]) (rest := [.int (q 6 + q 7 - z0)]) (c_mUponS w h c l (x := X.getD i 0) (hX i hi)) xc_X12_play__X12_fallsUpon gX12_play_X12_fallsUpon (ci := 11) rfl (lt_k c.hn (by decide)) hO rfl (Nat.le_of_ble_eq_true rfl) dX12_play_35 ?_
      rintro _ h3 ⟨rfl, s3, c3⟩
      have c3 : MS h3 (wq s (thN o q (X.getD i 0))) := c3
      show AX w M_X12_play 0 0 38 [.ref 87, .int (q 6 + q 7 - z0), .int (nI i)] [.int (oI (nxN o (qr q) (X.getD i 0))), .int (q 6 + q 7 - z0)] _ _
      refine AX.if_ne (pc := 38) (tgt := 45) dX12_play_38 (by decide) (fun q => absurd (by rw [hz]; rfl) q) (fun hc38 => ?_)
      refine AX.iconst (pc := 41) (v := nI 1) dX12_play_41 (by decide) ?_
      refine AX.goto (pc := 42) (tgt := 46) dX12_play_42 (by decide) ?_
      refine AX.iadd (pc := 46) dX12_play_46 ?_
      refine AX.istore_n (pc := 47) (L' := [.ref 87, .int ((q 6 + q 7 - z0) + (nI 1)), .int (nI i)]) dX12_play_47 (by decide) rfl ?_
      refine AX.iincN (c := i + 1) (pc := 48) (L' := [.ref 87, .int ((q 6 + q 7 - z0) + (nI 1)), .int (nI (i + 1))]) dX12_play_48 rfl (inc1 _) (by decide) rfl ?_
      refine AX.goto (pc := 51) (tgt := 19) dX12_play_51 (by decide) ?_
      have ew : (q 6 + q 7 - z0) + (nI 1) = thN o q (X.getD i 0) 6 + thN o q (X.getD i 0) 7 - z0 := th_hit l z0 hz
      refine AX.atL (L' := [.ref 87, .int (thN o q (X.getD i 0) 6 + thN o q (X.getD i 0) 7 - z0), .int (nI (i + 1))]) (by rw [ew]) ?_
      exact l_mPlay w P h0 hX hX2 hf hP g (i + 1) (n + 1) h3 _ (by omega) c3 (s3.at (by simp) hO) (s3.at (by simp) e113) l.th1 (hS.trans (mdS_lt s3 (by decide))) hq
    refine AX.iload_n (pc := 19) dX12_play_19 rfl ?_
    refine AX.aload_n (pc := 20) dX12_play_20 rfl ?_
    refine AX.getf (pc := 21) fX12_play_332 (lt_k c.hn (by decide)) hO rfl dX12_play_21 ?_
    refine AX.icmp_geN (pc := 24) (tgt := 54) dX12_play_24 (by decide) (by omega) (by omega) (fun q => absurd q (by omega)) (fun hc24 => ?_)
    refine AX.iload_n (pc := 27) dX12_play_27 rfl ?_
    refine AX.aload_n (pc := 28) dX12_play_28 rfl ?_
    refine AX.aload_n (pc := 29) dX12_play_29 rfl ?_
    refine AX.getf (pc := 30) fX12_play_87 (lt_k c.hn (by decide)) hO rfl dX12_play_30 ?_
    refine AX.iload_n (pc := 33) dX12_play_33 rfl ?_
    refine AX.ialdN (pc := 34) (i := i) (v := (nI (X.getD i 0))) (lt_k c.hn (by decide)) e113 (by decide) (by omega) (hf i hi) dX12_play_34 ?_
    refine AX.callV (pc := 35) (M2 := M_X12_fallsUpon) (As := [.int (nI (X.getD i 0))]) (rest := [.int (q 6 + q 7 - z0)]) (c_mUponS w h c l (x := X.getD i 0) (hX i hi)) xc_X12_play__X12_fallsUpon gX12_play_X12_fallsUpon (ci := 11) rfl (lt_k c.hn (by decide)) hO rfl (Nat.le_of_ble_eq_true rfl) dX12_play_35 ?_
    rintro _ h3 ⟨rfl, s3, c3⟩
    have c3 : MS h3 (wq s (thN o q (X.getD i 0))) := c3
    show AX w M_X12_play 0 0 38 [.ref 87, .int (q 6 + q 7 - z0), .int (nI i)] [.int (oI (nxN o (qr q) (X.getD i 0))), .int (q 6 + q 7 - z0)] _ _
    refine AX.if_ne (pc := 38) (tgt := 45) dX12_play_38 (by decide) (fun hc38 => ?_) (fun q => absurd q (oI_n0 hz hnb))
    refine AX.iconst (pc := 45) (v := nI 0) dX12_play_45 (by decide) ?_
    refine AX.iadd (pc := 46) dX12_play_46 ?_
    refine AX.istore_n (pc := 47) (L' := [.ref 87, .int ((q 6 + q 7 - z0) + (nI 0)), .int (nI i)]) dX12_play_47 (by decide) rfl ?_
    refine AX.iincN (c := i + 1) (pc := 48) (L' := [.ref 87, .int ((q 6 + q 7 - z0) + (nI 0)), .int (nI (i + 1))]) dX12_play_48 rfl (inc1 _) (by decide) rfl ?_
    refine AX.goto (pc := 51) (tgt := 19) dX12_play_51 (by decide) ?_
    have ew : (q 6 + q 7 - z0) + (nI 0) = thN o q (X.getD i 0) 6 + thN o q (X.getD i 0) 7 - z0 := th_no l z0 hz
    refine AX.atL (L' := [.ref 87, .int (thN o q (X.getD i 0) 6 + thN o q (X.getD i 0) 7 - z0), .int (nI (i + 1))]) (by rw [ew]) ?_
    exact l_mPlay w P h0 hX hX2 hf hP g (i + 1) (n + 1) h3 _ (by omega) c3 (s3.at (by simp) hO) (s3.at (by simp) e113) l.th1 (hS.trans (mdS_lt s3 (by decide))) hq
theorem c_mPlay (w : XW) (h : XH) {s : SS} {n o : Nat} {a b : Nat × Nat} (c : MS h s) (l : LV (sq s) n o a b) (tb : TB (sT s)) : CA w M_X12_play [.ref 87] h (fun v' h'' => v' = some (.int (aPlay o (sT s) (sq s))) ∧ Same mdS h h'' ∧ MS h'' (wq (wT s []) (nPlay o (sT s) (sq s)))) := by
  obtain ⟨v, hO, hv⟩ := id c.ob
  obtain ⟨f89, e89, q89⟩ := id c.nw
  have hO6 : h.2 87 = .inr (11, [.ref 88, .ref 89, .ref 90, .int (v 0), .int (v 1), .ref 91, .ref 92, .ref 93, .ref 94, .ref 95, .ref 96, .ref 97, .ref 98, .ref 99, .ref 100, .ref 101, .int (v 2), .ref 102, .ref 103, .ref 104, .ref 105, .ref 106, .ref 107, .ref 108, .int (v 3), .ref 109, .int (v 4), .ref 110, .ref 111, .int (v 5), .ref 112, .int (nI ((sT s).length)), .int (v 7), .int (v 8), .ref 113, .int (v 9), .ref 114, .ref 115, .ref 116, .ref 117]) := by rw [← hv.2.2]; exact hO
  obtain ⟨f113, e113⟩ := id c.td
  have l60 : (sT s).length ≤ 60 := by obtain ⟨_, _, _, z⟩ := c.tp; exact z
  cases hR : tpN (sT s) with
  | inl kf =>
    have hk := tp_inl hR
    have en : nPlay o (sT s) (sq s) = sq s := by unfold nPlay; rw [hR]
    rw [en]
    refine CA.of (by decide) rfl (fun _ => Nat.le_of_ble_eq_true rfl) ?_
    show AX w M_X12_play 0 0 0 [.ref 87, .null, .null] [] h _
    refine AX.aload_n (pc := 0) dX12_play_0 rfl ?_
    refine AX.callV (pc := 1) (M2 := M_X12_readPath) (As := []) (rest := []) (c_readPath w h (y := fun j => (sT s).getD j 0) l60 c.hn hO6 (c.ht tb) e113) xc_X12_play__X12_readPath gX12_play_X12_readPath (ci := 11) rfl (lt_k c.hn (by decide)) hO6 rfl (Nat.le_of_ble_eq_true rfl) dX12_play_1 ?_
    rintro v1 h1 ⟨s1, R1⟩
    rw [show ptN (fun j => (sT s).getD j 0) (sT s).length 12 0 [] = .inl kf from hR] at R1
    obtain ⟨rfl, ⟨kk, O1⟩, f2, y2⟩ := R1
    have c1 : MS h1 (wT s []) := c.text s1 ⟨hv.1, hv.2.1⟩ O1 ⟨f2, y2⟩
    have O1 : h1.2 87 = .inr (11, [.ref 88, .ref 89, .ref 90, .int (v 0), .int (v 1), .ref 91, .ref 92, .ref 93, .ref 94, .ref 95, .ref 96, .ref 97, .ref 98, .ref 99, .ref 100, .ref 101, .int (v 2), .ref 102, .ref 103, .ref 104, .ref 105, .ref 106, .ref 107, .ref 108, .int (v 3), .ref 109, .int (v 4), .ref 110, .ref 111, .int (v 5), .ref 112, .int (nI 0), .int (nI kf), .int (nI 1), .ref 113, .int (nI kk), .ref 114, .ref 115, .ref 116, .ref 117]) := O1
    show AX w M_X12_play 0 0 4 [.ref 87, .null, .null] [.int (nI 0)] _ _
    refine AX.if_neN (pc := 4) (tgt := 15) dX12_play_4 (by decide) (by decide) (fun q => absurd q (by decide)) (fun hc4 => ?_)
    refine AX.bipush (pc := 7) (v := (-100)) dX12_play_7 (by decide) ?_
    refine AX.aload_n (pc := 9) dX12_play_9 rfl ?_
    refine AX.getf (pc := 10) fX12_play_310 (lt_k (s1.le c.hn) (by decide)) O1 rfl dX12_play_10 ?_
    refine AX.isub (pc := 13) dX12_play_13 ?_
    refine AX.iret (pc := 14) dX12_play_14 rfl rfl (by decide) (by decide) ?_
    exact ⟨by unfold aPlay; rw [hR], mdS_lt s1 (by decide), c1⟩
  | inr XR =>
    have hX := tp_inr hR
    have en : nPlay o (sT s) (sq s) = thI o XR (sq s) := by unfold nPlay; rw [hR]
    have ea : aPlay o (sT s) (sq s) = thI o XR (sq s) 6 + thI o XR (sq s) 7 - (sq s 6 + sq s 7) := by unfold aPlay; rw [hR]
    rw [en, ea]
    refine CA.of (by decide) rfl (fun _ => Nat.le_of_ble_eq_true rfl) ?_
    show AX w M_X12_play 0 0 0 [.ref 87, .null, .null] [] h _
    refine AX.aload_n (pc := 0) dX12_play_0 rfl ?_
    refine AX.callV (pc := 1) (M2 := M_X12_readPath) (As := []) (rest := []) (c_readPath w h (y := fun j => (sT s).getD j 0) l60 c.hn hO6 (c.ht tb) e113) xc_X12_play__X12_readPath gX12_play_X12_readPath (ci := 11) rfl (lt_k c.hn (by decide)) hO6 rfl (Nat.le_of_ble_eq_true rfl) dX12_play_1 ?_
    rintro v1 h1 ⟨s1, R1⟩
    rw [show ptN (fun j => (sT s).getD j 0) (sT s).length 12 0 [] = .inr XR from hR] at R1
    obtain ⟨rfl, ⟨pp, O1⟩, f2, y2, q2⟩ := R1
    have c1 : MS h1 (wT s []) := c.text s1 ⟨hv.1, hv.2.1⟩ O1 ⟨f2, y2⟩
    have O1 : h1.2 87 = .inr (11, [.ref 88, .ref 89, .ref 90, .int (v 0), .int (v 1), .ref 91, .ref 92, .ref 93, .ref 94, .ref 95, .ref 96, .ref 97, .ref 98, .ref 99, .ref 100, .ref 101, .int (v 2), .ref 102, .ref 103, .ref 104, .ref 105, .ref 106, .ref 107, .ref 108, .int (v 3), .ref 109, .int (v 4), .ref 110, .ref 111, .int (v 5), .ref 112, .int (nI 0), .int (nI pp), .int (nI 0), .ref 113, .int (nI XR.length), .ref 114, .ref 115, .ref 116, .ref 117]) := O1
    show AX w M_X12_play 0 0 4 [.ref 87, .null, .null] [.int (nI 1)] _ _
    refine AX.if_neN (pc := 4) (tgt := 15) dX12_play_4 (by decide) (by decide) (fun hc4 => ?_) (fun q => absurd q (by decide))
    refine AX.iconst (pc := 15) (v := nI 0) dX12_play_15 (by decide) ?_
    refine AX.istore_n (pc := 16) (L' := [.ref 87, .int (nI 0), .null]) dX12_play_16 (by decide) rfl ?_
    refine AX.iconst (pc := 17) (v := nI 0) dX12_play_17 (by decide) ?_
    refine AX.istore_n (pc := 18) (L' := [.ref 87, .int (nI 0), .int (nI 0)]) dX12_play_18 (by decide) rfl ?_
    refine AX.atL (L' := [.ref 87, .int (sq s 6 + sq s 7 - (sq s 6 + sq s 7)), .int (nI 0)]) (by rw [← i32_self]) ?_
    exact l_mPlay w _ h (s := wT s []) (v := upd (upd (upd v 6 (nI 0)) 7 (nI pp)) 8 (nI 0)) hX.1 hX.2 q2 (fun h2 p1 p2 => ⟨rfl, p1, p2⟩) XR.length 0 n h1 (sq s) (Nat.zero_add _) c1 O1 y2 l (mdS_lt s1 (by decide)) rfl
