/-! ===== THE FACE: the TAPE as a PATH, JUDGED and PLAYED ===== -/
theorem paN_congr {y y' : Nat → Nat} {l a c s : Nat} (h : ∀ j, j < l → y j = y' j) : paN y l a c s = paN y' l a c s := by
  unfold paN
  by_cases e : a + 1 < l
  · rw [h _ e]
  · rw [if_neg (fun q => e q.1), if_neg (fun q => e q.1)]
theorem nmN_congr {y y' : Nat → Nat} {l b : Nat} (h : ∀ j, j < l → y j = y' j) : nmN y l b = nmN y' l b := by
  unfold nmN
  by_cases e : b < l
  · rw [h _ e]
    by_cases e2 : b + 1 < l
    · rw [h _ e2]
    · rw [if_neg (c := b + 1 < l ∧ 48 ≤ y (b + 1) ∧ y (b + 1) ≤ 57) (fun q => e2 q.1), if_neg (c := b + 1 < l ∧ 48 ≤ y' (b + 1) ∧ y' (b + 1) ≤ 57) (fun q => e2 q.1)]
  · rw [if_neg (fun q => e q.1), if_neg (fun q => e q.1)]
theorem psN_congr {y y' : Nat → Nat} {l a : Nat} (h : ∀ j, j < l → y j = y' j) : psN y l a = psN y' l a := by
  unfold psN
  by_cases e : l ≤ a
  · rw [if_pos e, if_pos e]
  · rw [if_neg e, if_neg e, h a (by omega), paN_congr h, paN_congr (c := 85) h]
    unfold nuN
    rw [nmN_congr h]
theorem ptN_congr {y y' : Nat → Nat} {l : Nat} (h : ∀ j, j < l → y j = y' j) : ∀ g a X, ptN y l g a X = ptN y' l g a X
  | 0, _, _ => rfl
  | g + 1, a, X => by
    unfold ptN
    rw [psN_congr h]
    cases psN y' l a with
    | inl k => rfl
    | inr p =>
      obtain ⟨n, s⟩ := p
      show (if l ≤ a + n then _ else if y (a + n) = 32 then _ else _) = (if l ≤ a + n then _ else if y' (a + n) = 32 then _ else _)
      by_cases e : l ≤ a + n
      · rw [if_pos e, if_pos e]
      · rw [if_neg e, if_neg e, h _ (by omega), ptN_congr h g (a + n + 1) (X ++ [s])]
theorem ptN_in {y : Nat → Nat} {l : Nat} : ∀ (g a : Nat) (X : List Nat), a ≤ l → (∀ s, s ∈ X → s < 63) → match ptN y l g a X with
    | .inl k => k ≤ l
    | .inr R => (∀ s, s ∈ R → s < 63) ∧ R.length ≤ X.length + g
  | 0, a, X, ha, hX => by show a - 1 ≤ l; omega
  | g + 1, a, X, ha, hX => by
    have hz : ptN y l (g + 1) a X = match psN y l a with
      | .inl k => .inl k
      | .inr (n, s) => if l ≤ a + n then .inr (X ++ [s]) else if y (a + n) = 32 then ptN y l g (a + n + 1) (X ++ [s]) else .inl (a + n) := rfl
    rw [hz]
    have hle := psN_le (y := y) (l := l) (a := a)
    cases hp : psN y l a with
    | inl k =>
      rw [hp] at hle
      have hle : k ≤ max l a := hle
      show k ≤ l
      omega
    | inr p =>
      obtain ⟨n, s⟩ := p
      rw [hp] at hle
      have hle : 1 ≤ n ∧ a + n ≤ l ∧ s < 63 := hle
      have hX2 : ∀ z, z ∈ X ++ [s] → z < 63 := fun z hz => by
        rcases List.mem_append.mp hz with q | q
        · exact hX z q
        · rw [List.mem_singleton.mp q]; exact hle.2.2
      show match (if l ≤ a + n then (.inr (X ++ [s]) : Nat ⊕ List Nat) else if y (a + n) = 32 then ptN y l g (a + n + 1) (X ++ [s]) else .inl (a + n)) with
        | .inl k => k ≤ l
        | .inr R => (∀ s, s ∈ R → s < 63) ∧ R.length ≤ X.length + (g + 1)
      by_cases e : l ≤ a + n
      · rw [if_pos e]
        exact ⟨hX2, by rw [List.length_append]; show X.length + 1 ≤ _; omega⟩
      · rw [if_neg e]
        by_cases e2 : y (a + n) = 32
        · rw [if_pos e2]
          have k := ptN_in (y := y) (l := l) g (a + n + 1) (X ++ [s]) (by omega) hX2
          cases hq : ptN y l g (a + n + 1) (X ++ [s]) with
          | inl j => rw [hq] at k; exact k
          | inr R =>
            rw [hq] at k
            have k : (∀ s, s ∈ R → s < 63) ∧ R.length ≤ (X ++ [s]).length + g := k
            rw [List.length_append] at k
            exact ⟨k.1, by have := k.2; simp at this; omega⟩
        · rw [if_neg e2]
          show a + n ≤ l
          omega
/-- the TAPE as a PATH: a FAULT's place, or its SPOTS -/
def tpN (T : List Nat) : Nat ⊕ List Nat := ptN (fun j => T.getD j 0) T.length 12 0 []
theorem tp_eq {T : List Nat} {y : Nat → Nat} (h : ∀ j, j < T.length → y j = T.getD j 0) : ptN y T.length 12 0 [] = tpN T := ptN_congr h 12 0 []
theorem tp_inl {T : List Nat} {k : Nat} (h : tpN T = .inl k) : k ≤ T.length := by
  have := ptN_in (y := fun j => T.getD j 0) (l := T.length) 12 0 [] (Nat.zero_le _) (fun s hs => by cases hs)
  rw [show ptN (fun j => T.getD j 0) T.length 12 0 [] = .inl k from h] at this
  exact this
theorem tp_inr {T X : List Nat} (h : tpN T = .inr X) : (∀ j, j < X.length → X.getD j 0 < 63) ∧ X.length ≤ 12 := by
  have := ptN_in (y := fun j => T.getD j 0) (l := T.length) 12 0 [] (Nat.zero_le _) (fun s hs => by cases hs)
  rw [show ptN (fun j => T.getD j 0) T.length 12 0 [] = .inr X from h] at this
  have this : (∀ s, s ∈ X → s < 63) ∧ X.length ≤ 0 + 12 := this
  refine ⟨fun j hj => this.1 _ ?_, by omega⟩
  rw [List.getD_eq_getElem?_getD, List.getElem?_eq_getElem hj]
  exact List.getElem_mem hj
def thI (o : Nat) : List Nat → (Nat → Int32) → Nat → Int32
  | [], q => q
  | s :: X, q => thI o X (thN o q s)
theorem LV.thI {o : Nat} {a b : Nat × Nat} : ∀ (X : List Nat) {q : Nat → Int32} {n : Nat}, LV q n o a b → LV (thI o X q) (n + X.length) o a b
  | [], _, _, l => l
  | s :: X, q, n, l => by
    have := LV.thI X (l.th1 (s := s))
    rw [show n + 1 + X.length = n + (s :: X).length by rw [List.length_cons]; omega] at this
    exact this
def aJudge (o : Nat) (T : List Nat) (x : Int32) : Int32 := if inR (leN o) 501 x then (match tpN T with
  | .inl k => -100 - nI k
  | .inr X => nI (vdN o (fun j => X.getD j 0) X.length 0 x.toNatClampNeg)) else -2
def nJudge (o : Nat) (T : List Nat) (x : Int32) : List Nat := if inR (leN o) 501 x then [] else T
def aPlay (o : Nat) (T : List Nat) (q : Nat → Int32) : Int32 := match tpN T with
  | .inl k => -100 - nI k
  | .inr X => thI o X q 6 + thI o X q 7 - (q 6 + q 7)
def nPlay (o : Nat) (T : List Nat) (q : Nat → Int32) : Nat → Int32 := match tpN T with
  | .inl _ => q
  | .inr X => thI o X q
theorem LV.play1 {q : Nat → Int32} {n o : Nat} {a b : Nat × Nat} {T : List Nat} (l : LV q n o a b) (hT : T.length ≤ 60) : LV (nPlay o T q) (n + 12) o a b := by
  unfold nPlay
  cases h : tpN T with
  | inl k => exact l.more (by omega)
  | inr X => exact (LV.thI X l).more (by have := (tp_inr h).2; omega)
theorem c_judge (w : XW) (h : XH) {s : SS} {o : Nat} {a b : Nat × Nat} (c : CSo h s o a b) (x : Int32) : CA w M_X11_judge [.ref 0, .int x] h (fun v' h'' => v' = some (.int (aJudge o (sT s) x)) ∧ Same clS h h'' ∧ CSo h'' (wT s (nJudge o (sT s) x)) o a b) := by
  obtain ⟨y72, a72, X72, t72, r72⟩ := id c.tp
  by_cases h_x : inR (leN o) 501 x
  · obtain ⟨xn, rfl, l_x, u_x⟩ := inR_nat (by decide) h_x
    have p_x := leN_pos o
    have en : nJudge o (sT s) (nI xn) = [] := by unfold nJudge; rw [if_pos h_x]
    rw [en]
    cases hR : tpN (sT s) with
    | inl kf =>
      have hk := tp_inl hR
      have hk2 := t72.2.1
      refine CA.of (by decide) rfl (fun _ => Nat.le_of_ble_eq_true rfl) ?_
      show AX w M_X11_judge 0 0 0 [.ref 0, .int (nI xn), .null] [] h _
      refine AX.aload_n (pc := 0) dX11_judge_0 rfl ?_
      refine AX.iload_n (pc := 1) dX11_judge_1 rfl ?_
      refine AX.sipush (pc := 2) (v := nI 501) dX11_judge_2 (by decide) ?_
      refine AX.callV (pc := 5) (M2 := M_X11_isRestUpTo) (As := [.int (nI xn), .int (nI 501)]) (rest := []) (c_isRestUpTo w h (nI xn) 501 c.hn c.dm c.ru) xc_X11_judge__X11_isRestUpTo gX11_judge_X11_isRestUpTo (ci := 10) rfl (lt_k c.hn (by omega)) c.dm rfl (Nat.le_of_ble_eq_true rfl) dX11_judge_5 ?_
      rintro _ h9 ⟨rfl, e9⟩
      have e9 := e9.symm
      subst e9
      rw [decide_eq_true ((rest_iff (by decide)).mpr h_x)]
      show AX w M_X11_judge 0 0 8 [.ref 0, .int (nI xn), .null] [.int (bI true)] _ _
      refine AX.if_neB (pc := 8) (tgt := 14) dX11_judge_8 (by decide) (fun hc8 => ?_) (fun q => absurd q (by decide))
      refine AX.aload_n (pc := 14) dX11_judge_14 rfl ?_
      refine AX.getf (pc := 15) fX11_judge_63 (lt_k c.hn (by omega)) c.dm rfl dX11_judge_15 ?_
      refine AX.callV (pc := 18) (M2 := M_X10_read) (As := []) (rest := []) (c_read w h (show 75 ≤ h.1 by have := c.hn; omega) t72) xc_X11_judge__X10_read gX11_judge_X10_read (ci := 9) rfl (lt_k c.hn (by omega)) t72.1 rfl (Nat.le_of_ble_eq_true rfl) dX11_judge_18 ?_
      rintro v1 h1 ⟨s1, R1⟩
      rw [tp_eq r72, hR] at R1
      obtain ⟨rfl, a1, X1, T1⟩ := R1
      have c1 : CSo h1 (wT s []) o a b := c.tape (s1.wide (by decide)) ⟨y72, a1, X1, T1, fun j hj => absurd hj (Nat.not_lt_zero _)⟩
      show AX w M_X11_judge 0 0 21 [.ref 0, .int (nI xn), .null] [.int (nI kf)] _ _
      refine AX.istore_n (pc := 21) (L' := [.ref 0, .int (nI xn), .int (nI kf)]) dX11_judge_21 (by decide) rfl ?_
      refine AX.iload_n (pc := 22) dX11_judge_22 rfl ?_
      refine AX.iconst (pc := 23) (v := (-1)) dX11_judge_23 (by decide) ?_
      refine AX.icmp_eq (pc := 24) (tgt := 32) dX11_judge_24 (by decide) (fun q => absurd q (neT (iN kf (by omega)) iM1 (by omega))) (fun hc24 => ?_)
      refine AX.bipush (pc := 27) (v := (-100)) dX11_judge_27 (by decide) ?_
      refine AX.iload_n (pc := 29) dX11_judge_29 rfl ?_
      refine AX.isub (pc := 30) dX11_judge_30 ?_
      refine AX.iret (pc := 31) dX11_judge_31 rfl rfl (by decide) (by decide) ?_
      exact ⟨by unfold aJudge; rw [if_pos h_x, hR], clS_in s1 (by decide), c1⟩
    | inr XR =>
      have hX := tp_inr hR
      refine CA.of (by decide) rfl (fun _ => Nat.le_of_ble_eq_true rfl) ?_
      show AX w M_X11_judge 0 0 0 [.ref 0, .int (nI xn), .null] [] h _
      refine AX.aload_n (pc := 0) dX11_judge_0 rfl ?_
      refine AX.iload_n (pc := 1) dX11_judge_1 rfl ?_
      refine AX.sipush (pc := 2) (v := nI 501) dX11_judge_2 (by decide) ?_
      refine AX.callV (pc := 5) (M2 := M_X11_isRestUpTo) (As := [.int (nI xn), .int (nI 501)]) (rest := []) (c_isRestUpTo w h (nI xn) 501 c.hn c.dm c.ru) xc_X11_judge__X11_isRestUpTo gX11_judge_X11_isRestUpTo (ci := 10) rfl (lt_k c.hn (by omega)) c.dm rfl (Nat.le_of_ble_eq_true rfl) dX11_judge_5 ?_
      rintro _ h9 ⟨rfl, e9⟩
      have e9 := e9.symm
      subst e9
      rw [decide_eq_true ((rest_iff (by decide)).mpr h_x)]
      show AX w M_X11_judge 0 0 8 [.ref 0, .int (nI xn), .null] [.int (bI true)] _ _
      refine AX.if_neB (pc := 8) (tgt := 14) dX11_judge_8 (by decide) (fun hc8 => ?_) (fun q => absurd q (by decide))
      refine AX.aload_n (pc := 14) dX11_judge_14 rfl ?_
      refine AX.getf (pc := 15) fX11_judge_63 (lt_k c.hn (by omega)) c.dm rfl dX11_judge_15 ?_
      refine AX.callV (pc := 18) (M2 := M_X10_read) (As := []) (rest := []) (c_read w h (show 75 ≤ h.1 by have := c.hn; omega) t72) xc_X11_judge__X10_read gX11_judge_X10_read (ci := 9) rfl (lt_k c.hn (by omega)) t72.1 rfl (Nat.le_of_ble_eq_true rfl) dX11_judge_18 ?_
      rintro v1 h1 ⟨s1, R1⟩
      rw [tp_eq r72, hR] at R1
      obtain ⟨rfl, a1, T1⟩ := R1
      have c1 : CSo h1 (wT s []) o a b := c.tape (s1.wide (by decide)) ⟨y72, a1, XR, T1, fun j hj => absurd hj (Nat.not_lt_zero _)⟩
      obtain ⟨s74, e74, q74⟩ := T1.2.2.2.2
      show AX w M_X11_judge 0 0 21 [.ref 0, .int (nI xn), .null] [.int (-1)] _ _
      refine AX.istore_n (pc := 21) (L' := [.ref 0, .int (nI xn), .int (-1)]) dX11_judge_21 (by decide) rfl ?_
      refine AX.iload_n (pc := 22) dX11_judge_22 rfl ?_
      refine AX.iconst (pc := 23) (v := (-1)) dX11_judge_23 (by decide) ?_
      refine AX.icmp_eq (pc := 24) (tgt := 32) dX11_judge_24 (by decide) (fun hc24 => ?_) (fun q => absurd rfl q)
      refine AX.aload_n (pc := 32) dX11_judge_32 rfl ?_
      refine AX.getf (pc := 33) fX11_judge_18 (lt_k (s1.le c.hn) (by omega)) (s1.at (by simp) c.dm) rfl dX11_judge_33 ?_
      refine AX.aload_n (pc := 36) dX11_judge_36 rfl ?_
      refine AX.getf (pc := 37) fX11_judge_63 (lt_k (s1.le c.hn) (by omega)) (s1.at (by simp) c.dm) rfl dX11_judge_37 ?_
      refine AX.getf (pc := 40) fX11_judge_272 (lt_k (s1.le c.hn) (by omega)) T1.1 rfl dX11_judge_40 ?_
      refine AX.aload_n (pc := 43) dX11_judge_43 rfl ?_
      refine AX.getf (pc := 44) fX11_judge_63 (lt_k (s1.le c.hn) (by omega)) (s1.at (by simp) c.dm) rfl dX11_judge_44 ?_
      refine AX.getf (pc := 47) fX11_judge_273 (lt_k (s1.le c.hn) (by omega)) T1.1 rfl dX11_judge_47 ?_
      refine AX.iload_n (pc := 50) dX11_judge_50 rfl ?_
      refine AX.callV (pc := 51) (M2 := M_X9_verdict) (As := [.ref 74, .int (nI XR.length), .int (nI xn)]) (rest := []) (c_verdict w h1 74 XR.length xn (show 4 ≤ h1.1 by have := c.hn; have := s1.1; omega) (lt_k (s1.le c.hn) (by decide)) (c.ru.same s1 (by simp) (by simp) (by simp)) e74 (by decide) hX.2 (fun j => XR.getD j 0) (fun j hj => ⟨q74 j hj, hX.1 j hj⟩) u_x (by omega)) xc_X11_judge__X9_verdict gX11_judge_X9_verdict (ci := 8) rfl (lt_k (s1.le c.hn) (by omega)) (s1.at (by simp) c.ru.2.1) rfl (Nat.le_of_ble_eq_true rfl) dX11_judge_51 ?_
      rintro _ h9 ⟨rfl, e9⟩
      have e9 := e9.symm
      subst e9
      show AX w M_X11_judge 0 0 54 [.ref 0, .int (nI xn), .int (-1)] [.int (nI (vdN o (fun j => XR.getD j 0) XR.length 0 xn))] _ _
      refine AX.iret (pc := 54) dX11_judge_54 rfl rfl (by decide) (by decide) ?_
      exact ⟨by unfold aJudge; rw [if_pos h_x, hR, nI_nat (by omega)], clS_in s1 (by decide), c1⟩
  · refine CA.of (by decide) rfl (fun _ => Nat.le_of_ble_eq_true rfl) ?_
    show AX w M_X11_judge 0 0 0 [.ref 0, .int x, .null] [] h _
    refine AX.aload_n (pc := 0) dX11_judge_0 rfl ?_
    refine AX.iload_n (pc := 1) dX11_judge_1 rfl ?_
    refine AX.sipush (pc := 2) (v := nI 501) dX11_judge_2 (by decide) ?_
    refine AX.callV (pc := 5) (M2 := M_X11_isRestUpTo) (As := [.int x, .int (nI 501)]) (rest := []) (c_isRestUpTo w h x 501 c.hn c.dm c.ru) xc_X11_judge__X11_isRestUpTo gX11_judge_X11_isRestUpTo (ci := 10) rfl (lt_k c.hn (by omega)) c.dm rfl (Nat.le_of_ble_eq_true rfl) dX11_judge_5 ?_
    rintro _ h9 ⟨rfl, e9⟩
    have e9 := e9.symm
    subst e9
    rw [decide_eq_false (fun q => h_x ((rest_iff (by decide)).mp q))]
    show AX w M_X11_judge 0 0 8 [.ref 0, .int x, .null] [.int (bI false)] _ _
    refine AX.if_neB (pc := 8) (tgt := 14) dX11_judge_8 (by decide) (fun q => absurd q (by decide)) (fun hc8 => ?_)
    refine AX.bipush (pc := 11) (v := (-2)) dX11_judge_11 (by decide) ?_
    refine AX.iret (pc := 13) dX11_judge_13 rfl rfl (by decide) (by decide) ?_
    have en : nJudge o (sT s) x = sT s := by unfold nJudge; rw [if_neg h_x]
    rw [en]
    exact ⟨by unfold aJudge; rw [if_neg h_x]; try rfl, Same.rf, c⟩
theorem l_play (w : XW) (P : Option Value → XH → Prop) (h0 : XH) {s : SS} {o : Nat} {a b : Nat × Nat} {X : List Nat} {y : Nat → Nat} {a1 : Nat} {qf : Nat → Int32} {z0 v0 : Int32} (hX : ∀ j, j < X.length → X.getD j 0 < 63) (hX2 : X.length ≤ 12) (hP : ∀ h', Same clS h0 h' → CSo h' (wq s qf) o a b → P (some (.int (qf 6 + qf 7 - z0))) h') : ∀ (g i n : Nat) (h : XH) (q : Nat → Int32), i + g = X.length → CSo h (wq s q) o a b → TP h 0 y a1 X → LV q n o a b → Same clS h0 h → thI o (X.drop i) q = qf → AX w M_X11_play 0 0 28 [.ref 0, .int v0, .int z0, .int (nI i)] [] h P
  | 0, i, n, h, q, hg, c, hT, l, hS, hq => by
    have e : i = X.length := by omega
    subst e
    rw [List.drop_length] at hq
    have hq : q = qf := hq
    subst hq
    obtain ⟨s74, e74, q74⟩ := hT.2.2.2.2
    refine AX.iload_n (pc := 28) dX11_play_28 rfl ?_
    refine AX.aload_n (pc := 29) dX11_play_29 rfl ?_
    refine AX.getf (pc := 30) fX11_play_63 (lt_k c.hn (by omega)) c.dm rfl dX11_play_30 ?_
    refine AX.getf (pc := 33) fX11_play_273 (lt_k c.hn (by omega)) hT.1 rfl dX11_play_33 ?_
    refine AX.icmp_geN (pc := 36) (tgt := 59) dX11_play_36 (by decide) (by omega) (by omega) (fun hc36 => ?_) (fun q => absurd q (Nat.lt_irrefl _))
    refine AX.aload_n (pc := 59) dX11_play_59 rfl ?_
    refine AX.getf (pc := 60) fX11_play_53 (lt_k c.hn (by omega)) c.dm rfl dX11_play_60 ?_
    refine AX.callV (pc := 63) (M2 := M_X3_legsOfBoth) (As := []) (rest := []) (c_legsOfBoth w h (show 72 ≤ h.1 by have := c.hn; omega) c.lg) xc_X11_play__X3_legsOfBoth gX11_play_X3_legsOfBoth (ci := 2) rfl (lt_k c.hn (by omega)) c.lg.1 rfl (Nat.le_of_ble_eq_true rfl) dX11_play_63 ?_
    rintro _ h9 ⟨rfl, e9⟩
    have e9 := e9.symm
    subst e9
    show AX w M_X11_play 0 0 66 [.ref 0, .int v0, .int z0, .int (nI X.length)] [.int (q 6 + q 7)] _ _
    refine AX.iload_n (pc := 66) dX11_play_66 rfl ?_
    refine AX.isub (pc := 67) dX11_play_67 ?_
    refine AX.iret (pc := 68) dX11_play_68 rfl rfl (by decide) (by decide) ?_
    exact hP h hS c
  | g + 1, i, n, h, q, hg, c, hT, l, hS, hq => by
    obtain ⟨s74, e74, q74⟩ := hT.2.2.2.2
    obtain ⟨t1, g1, e15, e14, e4, r1, r5⟩ := l.now
    have hi : i < X.length := by omega
    have hd : X.drop i = X.getD i 0 :: X.drop (i + 1) := by rw [List.drop_eq_getElem_cons hi, List.getD_eq_getElem?_getD, List.getElem?_eq_getElem hi]; rfl
    rw [hd] at hq
    refine AX.iload_n (pc := 28) dX11_play_28 rfl ?_
    refine AX.aload_n (pc := 29) dX11_play_29 rfl ?_
    refine AX.getf (pc := 30) fX11_play_63 (lt_k c.hn (by omega)) c.dm rfl dX11_play_30 ?_
    refine AX.getf (pc := 33) fX11_play_273 (lt_k c.hn (by omega)) hT.1 rfl dX11_play_33 ?_
    refine AX.icmp_geN (pc := 36) (tgt := 59) dX11_play_36 (by decide) (by omega) (by omega) (fun q => absurd q (by omega)) (fun hc36 => ?_)
    refine AX.aload_n (pc := 39) dX11_play_39 rfl ?_
    refine AX.aload_n (pc := 40) dX11_play_40 rfl ?_
    refine AX.getf (pc := 41) fX11_play_63 (lt_k c.hn (by omega)) c.dm rfl dX11_play_41 ?_
    refine AX.getf (pc := 44) fX11_play_272 (lt_k c.hn (by omega)) hT.1 rfl dX11_play_44 ?_
    refine AX.iload_n (pc := 47) dX11_play_47 rfl ?_
    refine AX.ialdN (pc := 48) (i := i) (v := (nI (X.getD i 0))) (lt_k c.hn (by omega)) e74 (by decide) (by omega) (q74 i hi) dX11_play_48 ?_
    refine AX.callV (pc := 49) (M2 := M_X11_throwUpon) (As := [.int (nI (X.getD i 0))]) (rest := []) (c_throwUpon w h c.hn c.dm c.ru c.lg t1 g1 e15 e14 e4 r5 (hX i hi)) xc_X11_play__X11_throwUpon gX11_play_X11_throwUpon (ci := 10) rfl (lt_k c.hn (by omega)) c.dm rfl (Nat.le_of_ble_eq_true rfl) dX11_play_49 ?_
    rintro _ h2 ⟨rfl, s2, l2⟩
    have c2 : CSo h2 (wq s (thN o q (X.getD i 0))) o a b := c.leg s2 l2
    show AX w M_X11_play 0 0 52 [.ref 0, .int v0, .int z0, .int (nI i)] [.int (oI (nxN o (qr q) (X.getD i 0)))] _ _
    refine AX.pop (pc := 52) dX11_play_52 rfl ?_
    refine AX.iincN (c := i + 1) (pc := 53) (L' := [.ref 0, .int v0, .int z0, .int (nI (i + 1))]) dX11_play_53 rfl (inc1 _) (by decide) rfl ?_
    refine AX.goto (pc := 56) (tgt := 28) dX11_play_56 (by decide) ?_
    exact l_play w P h0 hX hX2 hP g (i + 1) (n + 1) h2 _ (by omega) c2 (hT.same s2 (by simp) (by simp) (by simp)) l.th1 (hS.trans (clS_in s2 (by decide))) hq
theorem c_play (w : XW) (h : XH) {s : SS} {n o : Nat} {a b : Nat × Nat} (c : CSo h s o a b) (l : LV (sq s) n o a b) : CA w M_X11_play [.ref 0] h (fun v' h'' => v' = some (.int (aPlay o (sT s) (sq s))) ∧ Same clS h h'' ∧ CSo h'' (wq (wT s []) (nPlay o (sT s) (sq s))) o a b) := by
  obtain ⟨y72, a72, X72, t72, r72⟩ := id c.tp
  cases hR : tpN (sT s) with
  | inl kf =>
    have hk := tp_inl hR
    have hk2 := t72.2.1
    have en : nPlay o (sT s) (sq s) = sq s := by unfold nPlay; rw [hR]
    rw [en]
    refine CA.of (by decide) rfl (fun _ => Nat.le_of_ble_eq_true rfl) ?_
    show AX w M_X11_play 0 0 0 [.ref 0, .null, .null, .null] [] h _
    refine AX.aload_n (pc := 0) dX11_play_0 rfl ?_
    refine AX.getf (pc := 1) fX11_play_63 (lt_k c.hn (by omega)) c.dm rfl dX11_play_1 ?_
    refine AX.callV (pc := 4) (M2 := M_X10_read) (As := []) (rest := []) (c_read w h (show 75 ≤ h.1 by have := c.hn; omega) t72) xc_X11_play__X10_read gX11_play_X10_read (ci := 9) rfl (lt_k c.hn (by omega)) t72.1 rfl (Nat.le_of_ble_eq_true rfl) dX11_play_4 ?_
    rintro v1 h1 ⟨s1, R1⟩
    rw [tp_eq r72, hR] at R1
    obtain ⟨rfl, a1, X1, T1⟩ := R1
    have c1 : CSo h1 (wT s []) o a b := c.tape (s1.wide (by decide)) ⟨y72, a1, X1, T1, fun j hj => absurd hj (Nat.not_lt_zero _)⟩
    show AX w M_X11_play 0 0 7 [.ref 0, .null, .null, .null] [.int (nI kf)] _ _
    refine AX.istore_n (pc := 7) (L' := [.ref 0, .int (nI kf), .null, .null]) dX11_play_7 (by decide) rfl ?_
    refine AX.iload_n (pc := 8) dX11_play_8 rfl ?_
    refine AX.iconst (pc := 9) (v := (-1)) dX11_play_9 (by decide) ?_
    refine AX.icmp_eq (pc := 10) (tgt := 18) dX11_play_10 (by decide) (fun q => absurd q (neT (iN kf (by omega)) iM1 (by omega))) (fun hc10 => ?_)
    refine AX.bipush (pc := 13) (v := (-100)) dX11_play_13 (by decide) ?_
    refine AX.iload_n (pc := 15) dX11_play_15 rfl ?_
    refine AX.isub (pc := 16) dX11_play_16 ?_
    refine AX.iret (pc := 17) dX11_play_17 rfl rfl (by decide) (by decide) ?_
    exact ⟨by unfold aPlay; rw [hR], clS_in s1 (by decide), c1⟩
  | inr XR =>
    have hX := tp_inr hR
    have en : nPlay o (sT s) (sq s) = thI o XR (sq s) := by unfold nPlay; rw [hR]
    have ea : aPlay o (sT s) (sq s) = thI o XR (sq s) 6 + thI o XR (sq s) 7 - (sq s 6 + sq s 7) := by unfold aPlay; rw [hR]
    rw [en, ea]
    refine CA.of (by decide) rfl (fun _ => Nat.le_of_ble_eq_true rfl) ?_
    show AX w M_X11_play 0 0 0 [.ref 0, .null, .null, .null] [] h _
    refine AX.aload_n (pc := 0) dX11_play_0 rfl ?_
    refine AX.getf (pc := 1) fX11_play_63 (lt_k c.hn (by omega)) c.dm rfl dX11_play_1 ?_
    refine AX.callV (pc := 4) (M2 := M_X10_read) (As := []) (rest := []) (c_read w h (show 75 ≤ h.1 by have := c.hn; omega) t72) xc_X11_play__X10_read gX11_play_X10_read (ci := 9) rfl (lt_k c.hn (by omega)) t72.1 rfl (Nat.le_of_ble_eq_true rfl) dX11_play_4 ?_
    rintro v1 h1 ⟨s1, R1⟩
    rw [tp_eq r72, hR] at R1
    obtain ⟨rfl, a1, T1⟩ := R1
    have c1 : CSo h1 (wT s []) o a b := c.tape (s1.wide (by decide)) ⟨y72, a1, XR, T1, fun j hj => absurd hj (Nat.not_lt_zero _)⟩
    obtain ⟨s74, e74, q74⟩ := T1.2.2.2.2
    show AX w M_X11_play 0 0 7 [.ref 0, .null, .null, .null] [.int (-1)] _ _
    refine AX.istore_n (pc := 7) (L' := [.ref 0, .int (-1), .null, .null]) dX11_play_7 (by decide) rfl ?_
    refine AX.iload_n (pc := 8) dX11_play_8 rfl ?_
    refine AX.iconst (pc := 9) (v := (-1)) dX11_play_9 (by decide) ?_
    refine AX.icmp_eq (pc := 10) (tgt := 18) dX11_play_10 (by decide) (fun hc10 => ?_) (fun q => absurd rfl q)
    refine AX.aload_n (pc := 18) dX11_play_18 rfl ?_
    refine AX.getf (pc := 19) fX11_play_53 (lt_k (s1.le c.hn) (by omega)) (s1.at (by simp) c.dm) rfl dX11_play_19 ?_
    refine AX.callV (pc := 22) (M2 := M_X3_legsOfBoth) (As := []) (rest := []) (c_legsOfBoth w h1 (show 72 ≤ h1.1 by have := c.hn; have := s1.1; omega) (q := sq s) c1.lg) xc_X11_play__X3_legsOfBoth gX11_play_X3_legsOfBoth (ci := 2) rfl (lt_k (s1.le c.hn) (by omega)) (s1.at (by simp) c.lg.1) rfl (Nat.le_of_ble_eq_true rfl) dX11_play_22 ?_
    rintro _ h9 ⟨rfl, e9⟩
    have e9 := e9.symm
    subst e9
    show AX w M_X11_play 0 0 25 [.ref 0, .int (-1), .null, .null] [.int (sq s 6 + sq s 7)] _ _
    refine AX.istore_n (pc := 25) (L' := [.ref 0, .int (-1), .int (sq s 6 + sq s 7), .null]) dX11_play_25 (by decide) rfl ?_
    refine AX.iconst (pc := 26) (v := nI 0) dX11_play_26 (by decide) ?_
    refine AX.istore_n (pc := 27) (L' := [.ref 0, .int (-1), .int (sq s 6 + sq s 7), .int (nI 0)]) dX11_play_27 (by decide) rfl ?_
    exact l_play w _ h (s := wT s []) hX.1 hX.2 (fun h2 p1 p2 => ⟨rfl, p1, p2⟩) XR.length 0 n h1 (sq s) (by omega) c1 T1 l (clS_in s1 (by decide)) rfl
