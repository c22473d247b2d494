/-! ===== RACKS: one becomes as another (System.arraycopy) ===== -/
theorem AX.copyi {w : XW} {M : MD} {k n pc idx a0 a n0 n1 N : Nat} {L rest : List Value} {h : XH} {P : Option Value → XH → Prop} {f g : Nat → Int32}
    (hl : Cond.methodLink (mY M).cls idx arraycopyName ∈ mW M) (h2 : Cond.native arraycopyName ∈ mW M) (h3 : Cond.static arraycopyName ∈ mW M) (h4 : Cond.initialized "java/lang/System" ∈ mW M)
    (ha0 : a0 < h.1) (ha : a < h.1) (e0 : h.2 a0 = .inl (0, n0, .inl f)) (e1 : h.2 a = .inl (0, n1, .inl g)) (hN0 : N ≤ n0) (hN1 : N ≤ n1) (hN : N < 2147483648) (hfr : 1 ≤ mfr M) (hlo : (rest.map fun v => v.category).sum + (nativeFrameWords "java/lang/System" "arraycopy" 5 + 11) ≤ mlo M) (d : decode (mC M) pc = .ok (.invokestatic idx, 3))
    (kk : AX w M k n (pc + 3) L rest (xset h a (.inl (0, n1, .inl (fun j => if j < N then f j else g j)))) P) : AX w M k n pc L (.int (nI N) :: .int (nI 0) :: .ref a :: .int (nI 0) :: .ref a0 :: rest) h P := by
  intro R p l e s m args below meth c H locs ls Q hR hX hH hS hL hw hE
  have hts := hX.2.2.2.2.1
  have hK := hX.2.2.2.2.2.2.2.2.1
  intro T hT X
  have hc0 : H[w.1 + a0]? = some (vp_cell (w.2.2.2.2 0) (n0, .inl f)) := by
    have := hH.2 a0 ha0
    rw [e0] at this
    exact this
  have hc1 : H[w.1 + a]? = some (vp_cell (w.2.2.2.2 0) (n1, .inl g)) := by
    have := hH.2 a ha
    rw [e1] at this
    exact this
  obtain ⟨-, k0, hk0, cm0, hkk0⟩ := (hK.2 0 _ rfl).1 n0 (fun j => .int (f j))
  obtain ⟨-, k1, hk1, cm1, hkk1⟩ := (hK.2 0 _ rfl).1 n1 (fun j => .int (g j))
  have zc : (nI 0).toNatClampNeg = 0 := rfl
  have zN : (nI N).toInt = (N : Int) := nI_toInt hN
  have zNc : (nI N).toNatClampNeg = N := by show (nI N).toInt.toNat = N; rw [zN]; rfl
  have z0 : ¬ nI 0 < 0 := by decide
  have zN0 : ¬ nI N < 0 := fun q => by
    have := Int32.lt_iff_toInt_lt.mp q
    rw [zN] at this
    have z : (0 : Int32).toInt = 0 := by decide
    omega
  obtain ⟨vm', X', step⟩ := X.arraycopy hX.1 hX.2.2.2.1 (hts _ hl) (hts _ h2) (hts _ h3) (hts _ h4) (src := w.1 + a0) (dst := w.1 + a) (cs := vp_cell (w.2.2.2.2 0) (n0, .inl f)) (cd := vp_cell (w.2.2.2.2 0) (n1, .inl g)) (srcPos := nI 0) (destPos := nI 0) (n := nI N) (by rw [hT]; exact hc0) (by rw [hT]; exact hc1)
    (fun _ h => by cases h) (fun _ h => by cases h) (fun h => by cases h) (fun h => by cases h) hk0 hk1 hkk0 hkk1 (by show (refKind FieldType.int != refKind FieldType.int || (!refKind FieldType.int && FieldType.int != FieldType.int)) = false; decide) z0 z0 zN0
    (by rw [zN, show (nI 0).toInt = 0 from by decide]; show ¬ _ > ((arrV (w.2.2.2.2 0) n0 (fun j => .int (f j))).slots.size : Int); rw [arrV_size]; omega)
    (by rw [zN, show (nI 0).toInt = 0 from by decide]; show ¬ _ > ((arrV (w.2.2.2.2 0) n1 (fun j => .int (g j))).slots.size : Int); rw [arrV_size]; omega)
    (fun vm₁ _ i hi => by
      rw [zNc] at hi
      have e : (vp_cell (w.2.2.2.2 0) (n0, .inl f)).slots.getD ((nI 0).toNatClampNeg + i) .null = .int (f i) := by
        rw [zc, Nat.zero_add]
        show (arrV (w.2.2.2.2 0) n0 (fun j => .int (f j))).slots.getD _ _ = _
        rw [Array.getD_eq_getD_getElem?, arrV_read _ _ (by omega)]
        rfl
      refine ⟨?_, ?_⟩
      · rw [e]
        rfl
      · rw [e]
        exact trivial)
    (g := F0 m pc ls ((.int (nI N) :: .int (nI 0) :: .ref a :: .int (nI 0) :: .ref a0 :: rest).map (xv w))) rfl (hL.1.trans hX.2.2.1.symm) (rest := rest.map (xv w)) rfl (by rw [hX.2.1]; exact d) (by rw [hR]; exact hfr) (by rw [hR, xcats]; show 2 * 0 + _ + _ ≤ mlo M; omega)
  have q1 : copied (vp_cell (w.2.2.2.2 0) (n0, .inl f)) (vp_cell (w.2.2.2.2 0) (n1, .inl g)) (nI 0) (nI 0) (nI N) = vp_cell (w.2.2.2.2 0) (n1, .inl (fun j => if j < N then f j else g j)) := by
    refine (va_copied (fun z => .int z) (w.2.2.2.2 0) (w.2.2.2.2 0) f g (by rw [zc, zNc]; omega)).trans ?_
    rw [zc, zNc]
    rw [vp_cell_i]
    congr 1
    funext j
    unfold va_cpy
    by_cases hj : j < N
    · rw [if_pos ⟨Nat.zero_le _, by omega⟩, if_pos hj, Nat.sub_zero, Nat.zero_add]
    · rw [if_neg (by omega), if_neg hj]
  rw [q1] at X' step
  have hl' : w.1 + a < H.size := hH.lt ha
  have hheap : ((T.setVm vm').setCell (w.1 + a) (vp_cell (w.2.2.2.2 0) (n1, .inl (fun j => if j < N then f j else g j)))).heap = H.setIfInBounds (w.1 + a) (vp_cell (w.2.2.2.2 0) (n1, .inl (fun j => if j < N then f j else g j))) := by rw [← hT]; rfl
  have oq : ∀ q : Nat, q ≠ w.1 + a → (H.setIfInBounds (w.1 + a) (vp_cell (w.2.2.2.2 0) (n1, .inl (fun j => if j < N then f j else g j))))[q]? = H[q]? := fun q hq => by simp [Array.getElem?_setIfInBounds, Ne.symm hq]
  obtain ⟨t, a1, b1⟩ := kk R p l e s m args below meth c _ _ ls Q hR hX (hH.set (e := .inl (0, n1, .inl (fun j => if j < N then f j else g j))) (by simp) (show (H.setIfInBounds (w.1 + a) _)[w.1 + a]? = some _ by simp [Array.getElem?_setIfInBounds, hl']; rfl) oq) ⟨by simp; exact hS.1, fun q g1 g2 => by
      rw [oq q (fun e => g2 (by rw [e]; exact Nat.le_add_right _ _))]
      exact hS.2.1 q g1 g2, fun q hq => by
      rcases List.mem_append.mp hq with h | h
      · exact hS.2.2 q h
      · obtain ⟨z, -, hz⟩ := List.mem_map.mp h
        rw [← hz]
        exact Nat.le_add_right _ _⟩ hL hw hE _ hheap X'
  exact ⟨t, step t a1, b1⟩
theorem c_rBecomeSelf (w : XW) (h : XH) {b : Nat} {kd sz : Int32} {f : Nat → Int32} (hn : 86 ≤ h.1) (hb : b + 2 ≤ 86) (hK : RK_ h b kd sz f) : CA w M_X8_become [.ref b, .ref b] h (fun v h' => v = none ∧ Same [b, b + 1] h h' ∧ ∃ g' : Nat → Int32, RK_ h' b kd sz g' ∧ ∀ j, j < 20 → g' j = f j) := by
  refine CA.of (by decide) rfl (fun _ => Nat.le_of_ble_eq_true rfl) ?_
  show AX w M_X8_become 0 0 0 [.ref b, .ref b] [] h _
  refine AX.aload_n (pc := 0) dX8_become_0 rfl ?_
  refine AX.aload_n (pc := 1) dX8_become_1 rfl ?_
  refine AX.getf (pc := 2) fX8_become_19 (lt_k hn (by omega)) hK.1 rfl dX8_become_2 ?_
  refine AX.putf (pc := 5) (fs' := [.ref (b + 1), .int kd, .int sz]) fX8_become_19 rfl (lt_k hn (by omega)) hK.1 (Nat.le_of_ble_eq_true rfl) rfl rfl rfl dX8_become_5 ?_
  refine AX.aload_n (pc := 8) dX8_become_8 rfl ?_
  refine AX.aload_n (pc := 9) dX8_become_9 rfl ?_
  refine AX.getf (pc := 10) fX8_become_15 (lt_k hn (by omega)) (xset_same _ _ _) rfl dX8_become_10 ?_
  refine AX.putf (pc := 13) (h := xset h b (.inr (7, [.ref (b + 1), .int kd, .int sz]))) (a := b) (fs' := [.ref (b + 1), .int kd, .int sz]) fX8_become_15 rfl (lt_k hn (by omega)) (xset_same _ _ _) (Nat.le_of_ble_eq_true rfl) rfl rfl rfl dX8_become_13 ?_
  refine AX.aload_n (pc := 16) dX8_become_16 rfl ?_
  refine AX.getf (pc := 17) fX8_become_9 (lt_k hn (by omega)) (xset_same _ _ _) rfl dX8_become_17 ?_
  refine AX.iconst (pc := 20) (v := nI 0) dX8_become_20 (by decide) ?_
  refine AX.aload_n (pc := 21) dX8_become_21 rfl ?_
  refine AX.getf (pc := 22) fX8_become_9 (lt_k hn (by omega)) (xset_same _ _ _) rfl dX8_become_22 ?_
  refine AX.iconst (pc := 25) (v := nI 0) dX8_become_25 (by decide) ?_
  refine AX.bipush (pc := 26) (v := nI 20) dX8_become_26 (by decide) ?_
  refine AX.copyi (pc := 28) (h := xset (xset h b (.inr (7, [.ref (b + 1), .int kd, .int sz]))) b (.inr (7, [.ref (b + 1), .int kd, .int sz]))) (a0 := b + 1) (a := b + 1) (N := 20) (f := f) (g := f) (by decide +kernel) (by decide +kernel) (by decide +kernel) (by decide +kernel) (lt_k hn (by omega)) (lt_k hn (by omega)) ((xset_ne (by omega)).trans ((xset_ne (by omega)).trans hK.2)) ((xset_ne (by omega)).trans ((xset_ne (by omega)).trans hK.2)) (by decide) (by decide) (by decide) (by decide) (Nat.le_of_ble_eq_true rfl) dX8_become_28 ?_
  refine AX.vret (pc := 31) dX8_become_31 rfl (by decide) (by decide) ?_
  have sx : Same [b, b + 1] h (xset (xset (xset h b (.inr (7, [.ref (b + 1), .int kd, .int sz]))) b (.inr (7, [.ref (b + 1), .int kd, .int sz]))) (b + 1) (.inl (0, 20, .inl (fun j => if j < 20 then f j else f j)))) := Same.set (Same.set (Same.set Same.rf (by simp)) (by simp)) (by simp)
  exact ⟨rfl, sx, _, ⟨((xset_ne (by omega)).trans (xset_same _ _ _)), (xset_same _ _ _)⟩, fun j hj => if_pos hj⟩
theorem c_rBecome (w : XW) (h : XH) {b d : Nat} {kd sz kd2 sz2 : Int32} {f g : Nat → Int32} (hne : d + 1 < b ∨ b + 1 < d) (hn : 86 ≤ h.1) (hb : b + 2 ≤ 86) (hd : d + 2 ≤ 86) (hK : RK_ h b kd sz f) (hK2 : RK_ h d kd2 sz2 g) : CA w M_X8_become [.ref b, .ref d] h (fun v h' => v = none ∧ Same [b, b + 1] h h' ∧ ∃ g' : Nat → Int32, RK_ h' b kd2 sz2 g' ∧ ∀ j, j < 20 → g' j = g j) := by
  refine CA.of (by decide) rfl (fun _ => Nat.le_of_ble_eq_true rfl) ?_
  show AX w M_X8_become 0 0 0 [.ref b, .ref d] [] h _
  refine AX.aload_n (pc := 0) dX8_become_0 rfl ?_
  refine AX.aload_n (pc := 1) dX8_become_1 rfl ?_
  refine AX.getf (pc := 2) fX8_become_19 (lt_k hn (by omega)) hK2.1 rfl dX8_become_2 ?_
  refine AX.putf (pc := 5) (fs' := [.ref (b + 1), .int kd2, .int sz]) fX8_become_19 rfl (lt_k hn (by omega)) hK.1 (Nat.le_of_ble_eq_true rfl) rfl rfl rfl dX8_become_5 ?_
  refine AX.aload_n (pc := 8) dX8_become_8 rfl ?_
  refine AX.aload_n (pc := 9) dX8_become_9 rfl ?_
  refine AX.getf (pc := 10) fX8_become_15 (lt_k hn (by omega)) ((xset_ne (by omega)).trans hK2.1) rfl dX8_become_10 ?_
  refine AX.putf (pc := 13) (h := xset h b (.inr (7, [.ref (b + 1), .int kd2, .int sz]))) (a := b) (fs' := [.ref (b + 1), .int kd2, .int sz2]) fX8_become_15 rfl (lt_k hn (by omega)) (xset_same _ _ _) (Nat.le_of_ble_eq_true rfl) rfl rfl rfl dX8_become_13 ?_
  refine AX.aload_n (pc := 16) dX8_become_16 rfl ?_
  refine AX.getf (pc := 17) fX8_become_9 (lt_k hn (by omega)) ((xset_ne (by omega)).trans ((xset_ne (by omega)).trans hK2.1)) rfl dX8_become_17 ?_
  refine AX.iconst (pc := 20) (v := nI 0) dX8_become_20 (by decide) ?_
  refine AX.aload_n (pc := 21) dX8_become_21 rfl ?_
  refine AX.getf (pc := 22) fX8_become_9 (lt_k hn (by omega)) (xset_same _ _ _) rfl dX8_become_22 ?_
  refine AX.iconst (pc := 25) (v := nI 0) dX8_become_25 (by decide) ?_
  refine AX.bipush (pc := 26) (v := nI 20) dX8_become_26 (by decide) ?_
  refine AX.copyi (pc := 28) (h := xset (xset h b (.inr (7, [.ref (b + 1), .int kd2, .int sz]))) b (.inr (7, [.ref (b + 1), .int kd2, .int sz2]))) (a0 := d + 1) (a := b + 1) (N := 20) (f := g) (g := f) (by decide +kernel) (by decide +kernel) (by decide +kernel) (by decide +kernel) (lt_k hn (by omega)) (lt_k hn (by omega)) ((xset_ne (by omega)).trans ((xset_ne (by omega)).trans hK2.2)) ((xset_ne (by omega)).trans ((xset_ne (by omega)).trans hK.2)) (by decide) (by decide) (by decide) (by decide) (Nat.le_of_ble_eq_true rfl) dX8_become_28 ?_
  refine AX.vret (pc := 31) dX8_become_31 rfl (by decide) (by decide) ?_
  have sx : Same [b, b + 1] h (xset (xset (xset h b (.inr (7, [.ref (b + 1), .int kd2, .int sz]))) b (.inr (7, [.ref (b + 1), .int kd2, .int sz2]))) (b + 1) (.inl (0, 20, .inl (fun j => if j < 20 then g j else f j)))) := Same.set (Same.set (Same.set Same.rf (by simp)) (by simp)) (by simp)
  exact ⟨rfl, sx, _, ⟨((xset_ne (by omega)).trans (xset_same _ _ _)), (xset_same _ _ _)⟩, fun j hj => if_pos hj⟩
