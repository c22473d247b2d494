/-! ===== THE REFERENCE: the FALLS of an AIM ===== -/
theorem fS_at (a i : Nat) (h : i < 5) : fS (5 * a + i) = ((fLs a).getD i (0, 0, 0)).1 := by
  unfold fS
  rw [show (5 * a + i) / 5 = a by omega, show (5 * a + i) % 5 = i by omega]
theorem fTS_at (a i : Nat) (h : i < 5) : fTS (5 * a + i) = ((fLs a).getD i (0, 0, 0)).2.1 := by
  unfold fTS
  rw [show (5 * a + i) / 5 = a by omega, show (5 * a + i) % 5 = i by omega]
theorem fTR_at (a i : Nat) (h : i < 5) : fTR (5 * a + i) = ((fLs a).getD i (0, 0, 0)).2.2 := by
  unfold fTR
  rw [show (5 * a + i) / 5 = a by omega, show (5 * a + i) % 5 = i by omega]
theorem wtq_at (sd rg a i : Nat) (h : i < 5) : wtN sd rg (5 * a + i) = if fC a ≤ i then 0 else if i = 0 then 1000 - wSm sd rg a (fC a - 1) else ((fLs a).getD i (0, 0, 0)).2.1 * sd + ((fLs a).getD i (0, 0, 0)).2.2 * rg := by
  unfold wtN
  rw [fTS_at a i h, fTR_at a i h, show (5 * a + i) / 5 = a by omega, show (5 * a + i) % 5 = i by omega]
/-- the FALLS of AIM a lie in cells 91, 92 -/
def FL (h : XH) (a sd rg : Nat) : Prop := (∃ f : Nat → Int32, h.2 91 = .inl (0, 5, .inl f) ∧ ∀ i, i < fC a → f i = nI (fS (5 * a + i))) ∧ (∃ f : Nat → Int32, h.2 92 = .inl (0, 5, .inl f) ∧ ∀ i, i < fC a → f i = nI (wtN sd rg (5 * a + i)))
theorem FL.same {S : List Nat} {h h' : XH} {a sd rg : Nat} (H : FL h a sd rg) (hs : Same S h h') (h1 : 91 ∉ S) (h2 : 92 ∉ S) : FL h' a sd rg := by
  obtain ⟨⟨f, e, q⟩, ⟨g, e2, q2⟩⟩ := H
  exact ⟨⟨f, hs.at h1 e, q⟩, ⟨g, hs.at h2 e2, q2⟩⟩
theorem PQ.fl {h : XH} {v : Nat → Int32} {L : List (Nat × Nat)} {a sd rg : Nat} (H : PQ h v L) (hl : L.length = fC a) (hq : ∀ i, i < L.length → (L.getD i (0, 0)).1 = fS (5 * a + i) ∧ (L.getD i (0, 0)).2 = wtN sd rg (5 * a + i)) : FL h a sd rg ∧ MO h (upd v 1 (nI (fC a))) := by
  obtain ⟨hO, f, g, e91, e92, hfg⟩ := H
  refine ⟨⟨⟨f, e91, fun i hi => ?_⟩, ⟨g, e92, fun i hi => ?_⟩⟩, by rw [← hl]; exact hO⟩
  · rw [(hfg i (by omega)).1, (hq i (by omega)).1]
  · rw [(hfg i (by omega)).2, (hq i (by omega)).2]
theorem fl_1 {a sd rg : Nat} (h : 1 ≤ a ∧ a ≤ 20) (h1 : sd ≤ 200) (h2 : rg ≤ 200) : ([(a, 1000 - sd - sd - rg - rg), (bsN a 19, sd), (bsN a 1, sd), (40 + a, rg), (20 + a, rg)] : List (Nat × Nat)).length = fC a ∧ ∀ i, i < ([(a, 1000 - sd - sd - rg - rg), (bsN a 19, sd), (bsN a 1, sd), (40 + a, rg), (20 + a, rg)] : List (Nat × Nat)).length → (([(a, 1000 - sd - sd - rg - rg), (bsN a 19, sd), (bsN a 1, sd), (40 + a, rg), (20 + a, rg)] : List (Nat × Nat)).getD i (0, 0)).1 = fS (5 * a + i) ∧ (([(a, 1000 - sd - sd - rg - rg), (bsN a 19, sd), (bsN a 1, sd), (40 + a, rg), (20 + a, rg)] : List (Nat × Nat)).getD i (0, 0)).2 = wtN sd rg (5 * a + i) := by
  have e : fLs a = [(a, 0, 0), (bsN a 19, 1, 0), (bsN a 1, 1, 0), (a + 40, 0, 1), (a + 20, 0, 1)] := by unfold fLs; rw [if_neg (by omega), if_pos (by omega)]
  have c : fC a = 5 := by unfold fC; rw [e]; rfl
  refine ⟨c.symm, fun i hi => ?_⟩
  have hi : i < 5 := hi
  rw [fS_at a i (by omega), wtq_at sd rg a i (by omega), c]
  have t1 : fTS (5 * a + 1) = _ ∧ fTR (5 * a + 1) = _ := ⟨fTS_at a 1 (by omega), fTR_at a 1 (by omega)⟩
  have t2 : fTS (5 * a + 2) = _ ∧ fTR (5 * a + 2) = _ := ⟨fTS_at a 2 (by omega), fTR_at a 2 (by omega)⟩
  have t3 : fTS (5 * a + 3) = _ ∧ fTR (5 * a + 3) = _ := ⟨fTS_at a 3 (by omega), fTR_at a 3 (by omega)⟩
  have t4 : fTS (5 * a + 4) = _ ∧ fTR (5 * a + 4) = _ := ⟨fTS_at a 4 (by omega), fTR_at a 4 (by omega)⟩
  rw [e]
  rcases (show i = 0 ∨ i = 1 ∨ i = 2 ∨ i = 3 ∨ i = 4 by omega) with rfl | rfl | rfl | rfl | rfl
  · refine ⟨by show (a : Nat) = a; omega, ?_⟩
    show _ = (if 5 ≤ 0 then 0 else if 0 = 0 then 1000 - wSm sd rg a 4 else _)
    rw [if_neg (by omega), if_pos rfl]
    simp only [wSm, Nat.zero_add, t1.1, t1.2, t2.1, t2.2, t3.1, t3.2, t4.1, t4.2, e, List.getD_cons_succ, List.getD_cons_zero]
    all_goals omega
  · refine ⟨by show (bsN a 19 : Nat) = bsN a 19; omega, ?_⟩
    rw [if_neg (by omega), if_neg (by omega)]
    simp only [List.getD_cons_succ, List.getD_cons_zero]
    all_goals omega
  · refine ⟨by show (bsN a 1 : Nat) = bsN a 1; omega, ?_⟩
    rw [if_neg (by omega), if_neg (by omega)]
    simp only [List.getD_cons_succ, List.getD_cons_zero]
    all_goals omega
  · refine ⟨by show (40 + a : Nat) = a + 40; omega, ?_⟩
    rw [if_neg (by omega), if_neg (by omega)]
    simp only [List.getD_cons_succ, List.getD_cons_zero]
    all_goals omega
  · refine ⟨by show (20 + a : Nat) = a + 20; omega, ?_⟩
    rw [if_neg (by omega), if_neg (by omega)]
    simp only [List.getD_cons_succ, List.getD_cons_zero]
    all_goals omega
theorem fl_2 {a sd rg : Nat} (h : 21 ≤ a ∧ a ≤ 40) (h1 : sd ≤ 200) (h2 : rg ≤ 200) : ([(a, 1000 - sd - sd - rg - rg), (20 + bsN (a - 20) 19, sd), (20 + bsN (a - 20) 1, sd), (a - 20, rg), (0, rg)] : List (Nat × Nat)).length = fC a ∧ ∀ i, i < ([(a, 1000 - sd - sd - rg - rg), (20 + bsN (a - 20) 19, sd), (20 + bsN (a - 20) 1, sd), (a - 20, rg), (0, rg)] : List (Nat × Nat)).length → (([(a, 1000 - sd - sd - rg - rg), (20 + bsN (a - 20) 19, sd), (20 + bsN (a - 20) 1, sd), (a - 20, rg), (0, rg)] : List (Nat × Nat)).getD i (0, 0)).1 = fS (5 * a + i) ∧ (([(a, 1000 - sd - sd - rg - rg), (20 + bsN (a - 20) 19, sd), (20 + bsN (a - 20) 1, sd), (a - 20, rg), (0, rg)] : List (Nat × Nat)).getD i (0, 0)).2 = wtN sd rg (5 * a + i) := by
  have e : fLs a = [(a, 0, 0), (bsN (a - 20) 19 + 20, 1, 0), (bsN (a - 20) 1 + 20, 1, 0), (a - 20, 0, 1), (0, 0, 1)] := by unfold fLs; rw [if_neg (by omega), if_neg (by omega), if_pos (by omega)]
  have c : fC a = 5 := by unfold fC; rw [e]; rfl
  refine ⟨c.symm, fun i hi => ?_⟩
  have hi : i < 5 := hi
  rw [fS_at a i (by omega), wtq_at sd rg a i (by omega), c]
  have t1 : fTS (5 * a + 1) = _ ∧ fTR (5 * a + 1) = _ := ⟨fTS_at a 1 (by omega), fTR_at a 1 (by omega)⟩
  have t2 : fTS (5 * a + 2) = _ ∧ fTR (5 * a + 2) = _ := ⟨fTS_at a 2 (by omega), fTR_at a 2 (by omega)⟩
  have t3 : fTS (5 * a + 3) = _ ∧ fTR (5 * a + 3) = _ := ⟨fTS_at a 3 (by omega), fTR_at a 3 (by omega)⟩
  have t4 : fTS (5 * a + 4) = _ ∧ fTR (5 * a + 4) = _ := ⟨fTS_at a 4 (by omega), fTR_at a 4 (by omega)⟩
  rw [e]
  rcases (show i = 0 ∨ i = 1 ∨ i = 2 ∨ i = 3 ∨ i = 4 by omega) with rfl | rfl | rfl | rfl | rfl
  · refine ⟨by show (a : Nat) = a; omega, ?_⟩
    show _ = (if 5 ≤ 0 then 0 else if 0 = 0 then 1000 - wSm sd rg a 4 else _)
    rw [if_neg (by omega), if_pos rfl]
    simp only [wSm, Nat.zero_add, t1.1, t1.2, t2.1, t2.2, t3.1, t3.2, t4.1, t4.2, e, List.getD_cons_succ, List.getD_cons_zero]
    all_goals omega
  · refine ⟨by show (20 + bsN (a - 20) 19 : Nat) = bsN (a - 20) 19 + 20; omega, ?_⟩
    rw [if_neg (by omega), if_neg (by omega)]
    simp only [List.getD_cons_succ, List.getD_cons_zero]
    all_goals omega
  · refine ⟨by show (20 + bsN (a - 20) 1 : Nat) = bsN (a - 20) 1 + 20; omega, ?_⟩
    rw [if_neg (by omega), if_neg (by omega)]
    simp only [List.getD_cons_succ, List.getD_cons_zero]
    all_goals omega
  · refine ⟨by show (a - 20 : Nat) = a - 20; omega, ?_⟩
    rw [if_neg (by omega), if_neg (by omega)]
    simp only [List.getD_cons_succ, List.getD_cons_zero]
    all_goals omega
  · refine ⟨by show (0 : Nat) = 0; omega, ?_⟩
    rw [if_neg (by omega), if_neg (by omega)]
    simp only [List.getD_cons_succ, List.getD_cons_zero]
    all_goals omega
theorem fl_3 {a sd rg : Nat} (h : 41 ≤ a ∧ a ≤ 60) (h1 : sd ≤ 200) (h2 : rg ≤ 200) : ([(a, 1000 - sd - sd - 2 * rg), (40 + bsN (a - 40) 19, sd), (40 + bsN (a - 40) 1, sd), (a - 40, 2 * rg)] : List (Nat × Nat)).length = fC a ∧ ∀ i, i < ([(a, 1000 - sd - sd - 2 * rg), (40 + bsN (a - 40) 19, sd), (40 + bsN (a - 40) 1, sd), (a - 40, 2 * rg)] : List (Nat × Nat)).length → (([(a, 1000 - sd - sd - 2 * rg), (40 + bsN (a - 40) 19, sd), (40 + bsN (a - 40) 1, sd), (a - 40, 2 * rg)] : List (Nat × Nat)).getD i (0, 0)).1 = fS (5 * a + i) ∧ (([(a, 1000 - sd - sd - 2 * rg), (40 + bsN (a - 40) 19, sd), (40 + bsN (a - 40) 1, sd), (a - 40, 2 * rg)] : List (Nat × Nat)).getD i (0, 0)).2 = wtN sd rg (5 * a + i) := by
  have e : fLs a = [(a, 0, 0), (bsN (a - 40) 19 + 40, 1, 0), (bsN (a - 40) 1 + 40, 1, 0), (a - 40, 0, 2)] := by unfold fLs; rw [if_neg (by omega), if_neg (by omega), if_neg (by omega), if_pos (by omega)]
  have c : fC a = 4 := by unfold fC; rw [e]; rfl
  refine ⟨c.symm, fun i hi => ?_⟩
  have hi : i < 4 := hi
  rw [fS_at a i (by omega), wtq_at sd rg a i (by omega), c]
  have t1 : fTS (5 * a + 1) = _ ∧ fTR (5 * a + 1) = _ := ⟨fTS_at a 1 (by omega), fTR_at a 1 (by omega)⟩
  have t2 : fTS (5 * a + 2) = _ ∧ fTR (5 * a + 2) = _ := ⟨fTS_at a 2 (by omega), fTR_at a 2 (by omega)⟩
  have t3 : fTS (5 * a + 3) = _ ∧ fTR (5 * a + 3) = _ := ⟨fTS_at a 3 (by omega), fTR_at a 3 (by omega)⟩
  rw [e]
  rcases (show i = 0 ∨ i = 1 ∨ i = 2 ∨ i = 3 by omega) with rfl | rfl | rfl | rfl
  · refine ⟨by show (a : Nat) = a; omega, ?_⟩
    show _ = (if 4 ≤ 0 then 0 else if 0 = 0 then 1000 - wSm sd rg a 3 else _)
    rw [if_neg (by omega), if_pos rfl]
    simp only [wSm, Nat.zero_add, t1.1, t1.2, t2.1, t2.2, t3.1, t3.2, e, List.getD_cons_succ, List.getD_cons_zero]
    all_goals omega
  · refine ⟨by show (40 + bsN (a - 40) 19 : Nat) = bsN (a - 40) 19 + 40; omega, ?_⟩
    rw [if_neg (by omega), if_neg (by omega)]
    simp only [List.getD_cons_succ, List.getD_cons_zero]
    all_goals omega
  · refine ⟨by show (40 + bsN (a - 40) 1 : Nat) = bsN (a - 40) 1 + 40; omega, ?_⟩
    rw [if_neg (by omega), if_neg (by omega)]
    simp only [List.getD_cons_succ, List.getD_cons_zero]
    all_goals omega
  · refine ⟨by show (a - 40 : Nat) = a - 40; omega, ?_⟩
    rw [if_neg (by omega), if_neg (by omega)]
    simp only [List.getD_cons_succ, List.getD_cons_zero]
    all_goals omega
theorem fl_4 {a sd rg : Nat} (h : a = 61) (h1 : sd ≤ 200) (h2 : rg ≤ 200) : ([(61, 1000 - rg - sd - sd - rg), (62, rg), (6, sd), (11, sd), (20, rg)] : List (Nat × Nat)).length = fC a ∧ ∀ i, i < ([(61, 1000 - rg - sd - sd - rg), (62, rg), (6, sd), (11, sd), (20, rg)] : List (Nat × Nat)).length → (([(61, 1000 - rg - sd - sd - rg), (62, rg), (6, sd), (11, sd), (20, rg)] : List (Nat × Nat)).getD i (0, 0)).1 = fS (5 * a + i) ∧ (([(61, 1000 - rg - sd - sd - rg), (62, rg), (6, sd), (11, sd), (20, rg)] : List (Nat × Nat)).getD i (0, 0)).2 = wtN sd rg (5 * a + i) := by
  have e : fLs a = [(61, 0, 0), (62, 0, 1), (6, 1, 0), (11, 1, 0), (20, 0, 1)] := by unfold fLs; rw [if_neg (by omega), if_neg (by omega), if_neg (by omega), if_neg (by omega), if_pos (by omega)]
  have c : fC a = 5 := by unfold fC; rw [e]; rfl
  refine ⟨c.symm, fun i hi => ?_⟩
  have hi : i < 5 := hi
  rw [fS_at a i (by omega), wtq_at sd rg a i (by omega), c]
  have t1 : fTS (5 * a + 1) = _ ∧ fTR (5 * a + 1) = _ := ⟨fTS_at a 1 (by omega), fTR_at a 1 (by omega)⟩
  have t2 : fTS (5 * a + 2) = _ ∧ fTR (5 * a + 2) = _ := ⟨fTS_at a 2 (by omega), fTR_at a 2 (by omega)⟩
  have t3 : fTS (5 * a + 3) = _ ∧ fTR (5 * a + 3) = _ := ⟨fTS_at a 3 (by omega), fTR_at a 3 (by omega)⟩
  have t4 : fTS (5 * a + 4) = _ ∧ fTR (5 * a + 4) = _ := ⟨fTS_at a 4 (by omega), fTR_at a 4 (by omega)⟩
  rw [e]
  rcases (show i = 0 ∨ i = 1 ∨ i = 2 ∨ i = 3 ∨ i = 4 by omega) with rfl | rfl | rfl | rfl | rfl
  · refine ⟨by show (61 : Nat) = 61; omega, ?_⟩
    show _ = (if 5 ≤ 0 then 0 else if 0 = 0 then 1000 - wSm sd rg a 4 else _)
    rw [if_neg (by omega), if_pos rfl]
    simp only [wSm, Nat.zero_add, t1.1, t1.2, t2.1, t2.2, t3.1, t3.2, t4.1, t4.2, e, List.getD_cons_succ, List.getD_cons_zero]
    all_goals omega
  · refine ⟨by show (62 : Nat) = 62; omega, ?_⟩
    rw [if_neg (by omega), if_neg (by omega)]
    simp only [List.getD_cons_succ, List.getD_cons_zero]
    all_goals omega
  · refine ⟨by show (6 : Nat) = 6; omega, ?_⟩
    rw [if_neg (by omega), if_neg (by omega)]
    simp only [List.getD_cons_succ, List.getD_cons_zero]
    all_goals omega
  · refine ⟨by show (11 : Nat) = 11; omega, ?_⟩
    rw [if_neg (by omega), if_neg (by omega)]
    simp only [List.getD_cons_succ, List.getD_cons_zero]
    all_goals omega
  · refine ⟨by show (20 : Nat) = 20; omega, ?_⟩
    rw [if_neg (by omega), if_neg (by omega)]
    simp only [List.getD_cons_succ, List.getD_cons_zero]
    all_goals omega
theorem fl_5 {a sd rg : Nat} (h : a = 62) (h1 : sd ≤ 200) (h2 : rg ≤ 200) : ([(62, 1000 - (2 * sd + 2 * rg)), (61, 2 * sd + 2 * rg)] : List (Nat × Nat)).length = fC a ∧ ∀ i, i < ([(62, 1000 - (2 * sd + 2 * rg)), (61, 2 * sd + 2 * rg)] : List (Nat × Nat)).length → (([(62, 1000 - (2 * sd + 2 * rg)), (61, 2 * sd + 2 * rg)] : List (Nat × Nat)).getD i (0, 0)).1 = fS (5 * a + i) ∧ (([(62, 1000 - (2 * sd + 2 * rg)), (61, 2 * sd + 2 * rg)] : List (Nat × Nat)).getD i (0, 0)).2 = wtN sd rg (5 * a + i) := by
  have e : fLs a = [(62, 0, 0), (61, 2, 2)] := by unfold fLs; rw [if_neg (by omega), if_neg (by omega), if_neg (by omega), if_neg (by omega), if_neg (by omega), if_pos (by omega)]
  have c : fC a = 2 := by unfold fC; rw [e]; rfl
  refine ⟨c.symm, fun i hi => ?_⟩
  have hi : i < 2 := hi
  rw [fS_at a i (by omega), wtq_at sd rg a i (by omega), c]
  have t1 : fTS (5 * a + 1) = _ ∧ fTR (5 * a + 1) = _ := ⟨fTS_at a 1 (by omega), fTR_at a 1 (by omega)⟩
  rw [e]
  rcases (show i = 0 ∨ i = 1 by omega) with rfl | rfl
  · refine ⟨by show (62 : Nat) = 62; omega, ?_⟩
    show _ = (if 2 ≤ 0 then 0 else if 0 = 0 then 1000 - wSm sd rg a 1 else _)
    rw [if_neg (by omega), if_pos rfl]
    simp only [wSm, Nat.zero_add, t1.1, t1.2, e, List.getD_cons_succ, List.getD_cons_zero]
    all_goals omega
  · refine ⟨by show (61 : Nat) = 61; omega, ?_⟩
    rw [if_neg (by omega), if_neg (by omega)]
    simp only [List.getD_cons_succ, List.getD_cons_zero]
    all_goals omega
theorem c_layFalls (w : XW) (h : XH) {v q : Nat → Int32} {u a sd rg : Nat} (hn : 118 ≤ h.1) (hO : MO h v) (hN : iA h 89 19 q) (hR : iA h 88 20 (fun k => nI (rgN k))) {f91_ f92_ : Nat → Int32} (e91 : h.2 91 = .inl (0, 5, .inl f91_)) (e92 : h.2 92 = .inl (0, 5, .inl f92_)) (hu : u ≤ 1) (hs : q u = nI sd) (hr : q (2 + u) = nI rg) (hs2 : sd ≤ 200) (hr2 : rg ≤ 200) (ha1 : 1 ≤ a) (ha2 : a ≤ 62) : CA w M_X12_layFalls [.ref 87, .int (nI u), .int (nI a)] h (fun v' h' => v' = none ∧ Same [87, 91, 92] h h' ∧ FL h' a sd rg ∧ MO h' (upd v 1 (nI (fC a)))) := by
  obtain ⟨f89, e89, q89⟩ := id hN
  have hu2 : u < 19 ∧ 2 + u < 19 := by omega
  rcases (show (1 ≤ a ∧ a ≤ 20) ∨ (21 ≤ a ∧ a ≤ 40) ∨ (41 ≤ a ∧ a ≤ 60) ∨ a = 61 ∨ a = 62 by omega) with hc | hc | hc | hc | hc
  · have hnb : nbN a = a := by unfold nbN; rw [if_neg (by omega), if_neg (by omega)]; omega
    have hl := fl_1 (a := a) (sd := sd) (rg := rg) hc hs2 hr2
    refine CA.of (by decide) rfl (fun _ => Nat.le_of_ble_eq_true rfl) ?_
    show AX w M_X12_layFalls 0 0 0 [.ref 87, .int (nI u), .int (nI a), .null, .null, .null, .null] [] h _
    refine AX.aload_n (pc := 0) dX12_layFalls_0 rfl ?_
    refine AX.getf (pc := 1) fX12_layFalls_13 (lt_k hn (by omega)) hO rfl dX12_layFalls_1 ?_
    refine AX.iload_n (pc := 4) dX12_layFalls_4 rfl ?_
    refine AX.ialdN (pc := 5) (i := u) (v := (nI sd)) (lt_k hn (by omega)) e89 (by decide) hu2.1 ((q89 u hu2.1).trans hs) dX12_layFalls_5 ?_
    refine AX.istore_n (pc := 6) (L' := [.ref 87, .int (nI u), .int (nI a), .int (nI sd), .null, .null, .null]) dX12_layFalls_6 (by decide) rfl ?_
    refine AX.aload_n (pc := 7) dX12_layFalls_7 rfl ?_
    refine AX.getf (pc := 8) fX12_layFalls_13 (lt_k hn (by omega)) hO rfl dX12_layFalls_8 ?_
    refine AX.iconst (pc := 11) (v := nI 2) dX12_layFalls_11 (by decide) ?_
    refine AX.iload_n (pc := 12) dX12_layFalls_12 rfl ?_
    refine AX.iaddN (pc := 13) (c := 2 + u) dX12_layFalls_13 rfl ?_
    refine AX.ialdN (pc := 14) (i := 2 + u) (v := (nI rg)) (lt_k hn (by omega)) e89 (by decide) hu2.2 ((q89 (2 + u) hu2.2).trans hr) dX12_layFalls_14 ?_
    refine AX.istore (pc := 15) (L' := [.ref 87, .int (nI u), .int (nI a), .int (nI sd), .int (nI rg), .null, .null]) dX12_layFalls_15 (by decide) rfl ?_
    refine AX.iload_n (pc := 17) dX12_layFalls_17 rfl ?_
    refine AX.callS (pc := 18) (M2 := M_X12_numberOf) (As := [.int (nI a)]) (rest := []) (c_mNumber w h a (by omega)) xc_X12_layFalls__X12_numberOf gX12_layFalls_X12_numberOf rfl (Nat.le_of_ble_eq_true rfl) dX12_layFalls_18 ?_
    rintro _ h9 ⟨rfl, e9⟩
    have e9 := e9.symm
    subst e9
    rw [hnb]
    show AX w M_X12_layFalls 0 0 21 [.ref 87, .int (nI u), .int (nI a), .int (nI sd), .int (nI rg), .null, .null] [.int (nI a)] _ _
    refine AX.istore (pc := 21) (L' := [.ref 87, .int (nI u), .int (nI a), .int (nI sd), .int (nI rg), .int (nI a), .null]) dX12_layFalls_21 (by decide) rfl ?_
    refine AX.aload_n (pc := 23) dX12_layFalls_23 rfl ?_
    refine AX.iconst (pc := 24) (v := nI 0) dX12_layFalls_24 (by decide) ?_
    refine AX.putf (pc := 25) (fs' := [.ref 88, .ref 89, .ref 90, .int (v 0), .int (nI 0), .ref 91, .ref 92, .ref 93, .ref 94, .ref 95, .ref 96, .ref 97, .ref 98, .ref 99, .ref 100, .ref 101, .int (v 2), .ref 102, .ref 103, .ref 104, .ref 105, .ref 106, .ref 107, .ref 108, .int (v 3), .ref 109, .int (v 4), .ref 110, .ref 111, .int (v 5), .ref 112, .int (v 6), .int (v 7), .int (v 8), .ref 113, .int (v 9), .ref 114, .ref 115, .ref 116, .ref 117]) fX12_layFalls_132 rfl (lt_k hn (by omega)) hO (Nat.le_of_ble_eq_true rfl) rfl rfl rfl dX12_layFalls_25 ?_
    have u0 : Same [87, 91, 92] h (xset h 87 (.inr (11, [.ref 88, .ref 89, .ref 90, .int (v 0), .int (nI 0), .ref 91, .ref 92, .ref 93, .ref 94, .ref 95, .ref 96, .ref 97, .ref 98, .ref 99, .ref 100, .ref 101, .int (v 2), .ref 102, .ref 103, .ref 104, .ref 105, .ref 106, .ref 107, .ref 108, .int (v 3), .ref 109, .int (v 4), .ref 110, .ref 111, .int (v 5), .ref 112, .int (v 6), .int (v 7), .int (v 8), .ref 113, .int (v 9), .ref 114, .ref 115, .ref 116, .ref 117]))) := Same.set Same.rf (by simp)
    have P0 : PQ (xset h 87 (.inr (11, [.ref 88, .ref 89, .ref 90, .int (v 0), .int (nI 0), .ref 91, .ref 92, .ref 93, .ref 94, .ref 95, .ref 96, .ref 97, .ref 98, .ref 99, .ref 100, .ref 101, .int (v 2), .ref 102, .ref 103, .ref 104, .ref 105, .ref 106, .ref 107, .ref 108, .int (v 3), .ref 109, .int (v 4), .ref 110, .ref 111, .int (v 5), .ref 112, .int (v 6), .int (v 7), .int (v 8), .ref 113, .int (v 9), .ref 114, .ref 115, .ref 116, .ref 117]))) v [] := PQ.zero e91 e92 Same.rest (xset_same _ _ _)
    refine AX.aload_n (pc := 28) dX12_layFalls_28 rfl ?_
    refine AX.iload_n (pc := 29) dX12_layFalls_29 rfl ?_
    refine AX.sipush (pc := 30) (v := nI 1000) dX12_layFalls_30 (by decide) ?_
    refine AX.callV (pc := 33) (M2 := M_X12_putFall) (As := [.int (nI a), .int (nI 1000)]) (rest := []) (c_putFall w (xset h 87 (.inr (11, [.ref 88, .ref 89, .ref 90, .int (v 0), .int (nI 0), .ref 91, .ref 92, .ref 93, .ref 94, .ref 95, .ref 96, .ref 97, .ref 98, .ref 99, .ref 100, .ref 101, .int (v 2), .ref 102, .ref 103, .ref 104, .ref 105, .ref 106, .ref 107, .ref 108, .int (v 3), .ref 109, .int (v 4), .ref 110, .ref 111, .int (v 5), .ref 112, .int (v 6), .int (v 7), .int (v 8), .ref 113, .int (v 9), .ref 114, .ref 115, .ref 116, .ref 117]))) a 1000 (L := []) (u0.le hn) P0 (show 0 < 5 by decide) (fun p r e => by cases e)) xc_X12_layFalls__X12_putFall gX12_layFalls_X12_putFall (ci := 11) rfl (lt_k hn (by omega)) (xset_same _ _ _) rfl (Nat.le_of_ble_eq_true rfl) dX12_layFalls_33 ?_
    rintro _ h1 ⟨rfl, s1, P1⟩
    have P1 : PQ h1 v [(a, 1000)] := P1
    have u1 : Same [87, 91, 92] h h1 := u0.trans s1
    show AX w M_X12_layFalls 0 0 36 [.ref 87, .int (nI u), .int (nI a), .int (nI sd), .int (nI rg), .int (nI a), .null] [] _ _
    refine AX.iload (pc := 36) dX12_layFalls_36 rfl ?_
    refine AX.if_leN (pc := 38) (tgt := 146) dX12_layFalls_38 (by decide) (by omega) (fun q => absurd q (by omega)) (fun hc38 => ?_)
    refine AX.iload_n (pc := 41) dX12_layFalls_41 rfl ?_
    refine AX.iload (pc := 42) dX12_layFalls_42 rfl ?_
    refine AX.isubN (pc := 44) (c := 0) dX12_layFalls_44 (Nat.zero_add _) ?_
    refine AX.istore (pc := 45) (L' := [.ref 87, .int (nI u), .int (nI a), .int (nI sd), .int (nI rg), .int (nI a), .int (nI 0)]) dX12_layFalls_45 (by decide) rfl ?_
    refine AX.aload_n (pc := 47) dX12_layFalls_47 rfl ?_
    refine AX.iload (pc := 48) dX12_layFalls_48 rfl ?_
    refine AX.aload_n (pc := 50) dX12_layFalls_50 rfl ?_
    refine AX.iload (pc := 51) dX12_layFalls_51 rfl ?_
    refine AX.bipush (pc := 53) (v := nI 19) dX12_layFalls_53 (by decide) ?_
    refine AX.callV (pc := 55) (M2 := M_X12_besides) (As := [.int (nI a), .int (nI 19)]) (rest := [.int (nI 0), .ref 87]) (c_mBesides w h1 (u1.le hn) P1.1 (hR.same u1 (by simp)) (show a ≤ 20 by omega) (by decide)) xc_X12_layFalls__X12_besides gX12_layFalls_X12_besides (ci := 11) rfl (lt_k (u1.le hn) (by omega)) P1.1 rfl (Nat.le_of_ble_eq_true rfl) dX12_layFalls_55 ?_
    rintro _ h9 ⟨rfl, e9⟩
    have e9 := e9.symm
    subst e9
    show AX w M_X12_layFalls 0 0 58 [.ref 87, .int (nI u), .int (nI a), .int (nI sd), .int (nI rg), .int (nI a), .int (nI 0)] [.int (nI (bsN a 19)), .int (nI 0), .ref 87] _ _
    refine AX.iaddN (pc := 58) (c := bsN a 19) dX12_layFalls_58 (Nat.zero_add _) ?_
    refine AX.iload_n (pc := 59) dX12_layFalls_59 rfl ?_
    refine AX.callV (pc := 60) (M2 := M_X12_putFall) (As := [.int (nI (bsN a 19)), .int (nI sd)]) (rest := []) (c_putFall w (h1) (bsN a 19) sd (L := [(a, 1000)]) (u1.le hn) P1 (show 1 < 5 by decide) (fun p r e => by injection e with e1 e2; subst e1; show sd ≤ 1000; omega)) xc_X12_layFalls__X12_putFall gX12_layFalls_X12_putFall (ci := 11) rfl (lt_k (u1.le hn) (by omega)) P1.1 rfl (Nat.le_of_ble_eq_true rfl) dX12_layFalls_60 ?_
    rintro _ h2 ⟨rfl, s2, P2⟩
    have P2 : PQ h2 v [(a, 1000 - sd), (bsN a 19, sd)] := P2
    have u2 : Same [87, 91, 92] h h2 := u1.trans s2
    show AX w M_X12_layFalls 0 0 63 [.ref 87, .int (nI u), .int (nI a), .int (nI sd), .int (nI rg), .int (nI a), .int (nI 0)] [] _ _
    refine AX.aload_n (pc := 63) dX12_layFalls_63 rfl ?_
    refine AX.iload (pc := 64) dX12_layFalls_64 rfl ?_
    refine AX.aload_n (pc := 66) dX12_layFalls_66 rfl ?_
    refine AX.iload (pc := 67) dX12_layFalls_67 rfl ?_
    refine AX.iconst (pc := 69) (v := nI 1) dX12_layFalls_69 (by decide) ?_
    refine AX.callV (pc := 70) (M2 := M_X12_besides) (As := [.int (nI a), .int (nI 1)]) (rest := [.int (nI 0), .ref 87]) (c_mBesides w h2 (u2.le hn) P2.1 (hR.same u2 (by simp)) (show a ≤ 20 by omega) (by decide)) xc_X12_layFalls__X12_besides gX12_layFalls_X12_besides (ci := 11) rfl (lt_k (u2.le hn) (by omega)) P2.1 rfl (Nat.le_of_ble_eq_true rfl) dX12_layFalls_70 ?_
    rintro _ h9 ⟨rfl, e9⟩
    have e9 := e9.symm
    subst e9
    show AX w M_X12_layFalls 0 0 73 [.ref 87, .int (nI u), .int (nI a), .int (nI sd), .int (nI rg), .int (nI a), .int (nI 0)] [.int (nI (bsN a 1)), .int (nI 0), .ref 87] _ _
    refine AX.iaddN (pc := 73) (c := bsN a 1) dX12_layFalls_73 (Nat.zero_add _) ?_
    refine AX.iload_n (pc := 74) dX12_layFalls_74 rfl ?_
    refine AX.callV (pc := 75) (M2 := M_X12_putFall) (As := [.int (nI (bsN a 1)), .int (nI sd)]) (rest := []) (c_putFall w (h2) (bsN a 1) sd (L := [(a, 1000 - sd), (bsN a 19, sd)]) (u2.le hn) P2 (show 2 < 5 by decide) (fun p r e => by injection e with e1 e2; subst e1; show sd ≤ 1000 - sd; omega)) xc_X12_layFalls__X12_putFall gX12_layFalls_X12_putFall (ci := 11) rfl (lt_k (u2.le hn) (by omega)) P2.1 rfl (Nat.le_of_ble_eq_true rfl) dX12_layFalls_75 ?_
    rintro _ h3 ⟨rfl, s3, P3⟩
    have P3 : PQ h3 v [(a, 1000 - sd - sd), (bsN a 19, sd), (bsN a 1, sd)] := P3
    have u3 : Same [87, 91, 92] h h3 := u2.trans s3
    show AX w M_X12_layFalls 0 0 78 [.ref 87, .int (nI u), .int (nI a), .int (nI sd), .int (nI rg), .int (nI a), .int (nI 0)] [] _ _
    refine AX.iload (pc := 78) dX12_layFalls_78 rfl ?_
    refine AX.if_neN (pc := 80) (tgt := 108) dX12_layFalls_80 (by decide) (by decide) (fun q => absurd q (by decide)) (fun hc80 => ?_)
    refine AX.aload_n (pc := 83) dX12_layFalls_83 rfl ?_
    refine AX.bipush (pc := 84) (v := nI 40) dX12_layFalls_84 (by decide) ?_
    refine AX.iload (pc := 86) dX12_layFalls_86 rfl ?_
    refine AX.iaddN (pc := 88) (c := 40 + a) dX12_layFalls_88 rfl ?_
    refine AX.iload (pc := 89) dX12_layFalls_89 rfl ?_
    refine AX.callV (pc := 91) (M2 := M_X12_putFall) (As := [.int (nI (40 + a)), .int (nI rg)]) (rest := []) (c_putFall w (h3) (40 + a) rg (L := [(a, 1000 - sd - sd), (bsN a 19, sd), (bsN a 1, sd)]) (u3.le hn) P3 (show 3 < 5 by decide) (fun p r e => by injection e with e1 e2; subst e1; show rg ≤ 1000 - sd - sd; omega)) xc_X12_layFalls__X12_putFall gX12_layFalls_X12_putFall (ci := 11) rfl (lt_k (u3.le hn) (by omega)) P3.1 rfl (Nat.le_of_ble_eq_true rfl) dX12_layFalls_91 ?_
    rintro _ h4 ⟨rfl, s4, P4⟩
    have P4 : PQ h4 v [(a, 1000 - sd - sd - rg), (bsN a 19, sd), (bsN a 1, sd), (40 + a, rg)] := P4
    have u4 : Same [87, 91, 92] h h4 := u3.trans s4
    show AX w M_X12_layFalls 0 0 94 [.ref 87, .int (nI u), .int (nI a), .int (nI sd), .int (nI rg), .int (nI a), .int (nI 0)] [] _ _
    refine AX.aload_n (pc := 94) dX12_layFalls_94 rfl ?_
    refine AX.bipush (pc := 95) (v := nI 20) dX12_layFalls_95 (by decide) ?_
    refine AX.iload (pc := 97) dX12_layFalls_97 rfl ?_
    refine AX.iaddN (pc := 99) (c := 20 + a) dX12_layFalls_99 rfl ?_
    refine AX.iload (pc := 100) dX12_layFalls_100 rfl ?_
    refine AX.callV (pc := 102) (M2 := M_X12_putFall) (As := [.int (nI (20 + a)), .int (nI rg)]) (rest := []) (c_putFall w (h4) (20 + a) rg (L := [(a, 1000 - sd - sd - rg), (bsN a 19, sd), (bsN a 1, sd), (40 + a, rg)]) (u4.le hn) P4 (show 4 < 5 by decide) (fun p r e => by injection e with e1 e2; subst e1; show rg ≤ 1000 - sd - sd - rg; omega)) xc_X12_layFalls__X12_putFall gX12_layFalls_X12_putFall (ci := 11) rfl (lt_k (u4.le hn) (by omega)) P4.1 rfl (Nat.le_of_ble_eq_true rfl) dX12_layFalls_102 ?_
    rintro _ h5 ⟨rfl, s5, P5⟩
    have P5 : PQ h5 v [(a, 1000 - sd - sd - rg - rg), (bsN a 19, sd), (bsN a 1, sd), (40 + a, rg), (20 + a, rg)] := P5
    have u5 : Same [87, 91, 92] h h5 := u4.trans s5
    show AX w M_X12_layFalls 0 0 105 [.ref 87, .int (nI u), .int (nI a), .int (nI sd), .int (nI rg), .int (nI a), .int (nI 0)] [] _ _
    refine AX.goto (pc := 105) (tgt := 143) dX12_layFalls_105 (by decide) ?_
    refine AX.goto (pc := 143) (tgt := 199) dX12_layFalls_143 (by decide) ?_
    refine AX.vret (pc := 199) dX12_layFalls_199 rfl (by decide) (by decide) ?_
    have hf := P5.fl hl.1 hl.2
    exact ⟨rfl, u5, hf.1, hf.2⟩
  · have hnb : nbN a = a - 20 := by unfold nbN; rw [if_neg (by omega), if_neg (by omega)]; omega
    have hl := fl_2 (a := a) (sd := sd) (rg := rg) hc hs2 hr2
    refine CA.of (by decide) rfl (fun _ => Nat.le_of_ble_eq_true rfl) ?_
    show AX w M_X12_layFalls 0 0 0 [.ref 87, .int (nI u), .int (nI a), .null, .null, .null, .null] [] h _
    refine AX.aload_n (pc := 0) dX12_layFalls_0 rfl ?_
    refine AX.getf (pc := 1) fX12_layFalls_13 (lt_k hn (by omega)) hO rfl dX12_layFalls_1 ?_
    refine AX.iload_n (pc := 4) dX12_layFalls_4 rfl ?_
    refine AX.ialdN (pc := 5) (i := u) (v := (nI sd)) (lt_k hn (by omega)) e89 (by decide) hu2.1 ((q89 u hu2.1).trans hs) dX12_layFalls_5 ?_
    refine AX.istore_n (pc := 6) (L' := [.ref 87, .int (nI u), .int (nI a), .int (nI sd), .null, .null, .null]) dX12_layFalls_6 (by decide) rfl ?_
    refine AX.aload_n (pc := 7) dX12_layFalls_7 rfl ?_
    refine AX.getf (pc := 8) fX12_layFalls_13 (lt_k hn (by omega)) hO rfl dX12_layFalls_8 ?_
    refine AX.iconst (pc := 11) (v := nI 2) dX12_layFalls_11 (by decide) ?_
    refine AX.iload_n (pc := 12) dX12_layFalls_12 rfl ?_
    refine AX.iaddN (pc := 13) (c := 2 + u) dX12_layFalls_13 rfl ?_
    refine AX.ialdN (pc := 14) (i := 2 + u) (v := (nI rg)) (lt_k hn (by omega)) e89 (by decide) hu2.2 ((q89 (2 + u) hu2.2).trans hr) dX12_layFalls_14 ?_
    refine AX.istore (pc := 15) (L' := [.ref 87, .int (nI u), .int (nI a), .int (nI sd), .int (nI rg), .null, .null]) dX12_layFalls_15 (by decide) rfl ?_
    refine AX.iload_n (pc := 17) dX12_layFalls_17 rfl ?_
    refine AX.callS (pc := 18) (M2 := M_X12_numberOf) (As := [.int (nI a)]) (rest := []) (c_mNumber w h a (by omega)) xc_X12_layFalls__X12_numberOf gX12_layFalls_X12_numberOf rfl (Nat.le_of_ble_eq_true rfl) dX12_layFalls_18 ?_
    rintro _ h9 ⟨rfl, e9⟩
    have e9 := e9.symm
    subst e9
    rw [hnb]
    show AX w M_X12_layFalls 0 0 21 [.ref 87, .int (nI u), .int (nI a), .int (nI sd), .int (nI rg), .null, .null] [.int (nI (a - 20))] _ _
    refine AX.istore (pc := 21) (L' := [.ref 87, .int (nI u), .int (nI a), .int (nI sd), .int (nI rg), .int (nI (a - 20)), .null]) dX12_layFalls_21 (by decide) rfl ?_
    refine AX.aload_n (pc := 23) dX12_layFalls_23 rfl ?_
    refine AX.iconst (pc := 24) (v := nI 0) dX12_layFalls_24 (by decide) ?_
    refine AX.putf (pc := 25) (fs' := [.ref 88, .ref 89, .ref 90, .int (v 0), .int (nI 0), .ref 91, .ref 92, .ref 93, .ref 94, .ref 95, .ref 96, .ref 97, .ref 98, .ref 99, .ref 100, .ref 101, .int (v 2), .ref 102, .ref 103, .ref 104, .ref 105, .ref 106, .ref 107, .ref 108, .int (v 3), .ref 109, .int (v 4), .ref 110, .ref 111, .int (v 5), .ref 112, .int (v 6), .int (v 7), .int (v 8), .ref 113, .int (v 9), .ref 114, .ref 115, .ref 116, .ref 117]) fX12_layFalls_132 rfl (lt_k hn (by omega)) hO (Nat.le_of_ble_eq_true rfl) rfl rfl rfl dX12_layFalls_25 ?_
    have u0 : Same [87, 91, 92] h (xset h 87 (.inr (11, [.ref 88, .ref 89, .ref 90, .int (v 0), .int (nI 0), .ref 91, .ref 92, .ref 93, .ref 94, .ref 95, .ref 96, .ref 97, .ref 98, .ref 99, .ref 100, .ref 101, .int (v 2), .ref 102, .ref 103, .ref 104, .ref 105, .ref 106, .ref 107, .ref 108, .int (v 3), .ref 109, .int (v 4), .ref 110, .ref 111, .int (v 5), .ref 112, .int (v 6), .int (v 7), .int (v 8), .ref 113, .int (v 9), .ref 114, .ref 115, .ref 116, .ref 117]))) := Same.set Same.rf (by simp)
    have P0 : PQ (xset h 87 (.inr (11, [.ref 88, .ref 89, .ref 90, .int (v 0), .int (nI 0), .ref 91, .ref 92, .ref 93, .ref 94, .ref 95, .ref 96, .ref 97, .ref 98, .ref 99, .ref 100, .ref 101, .int (v 2), .ref 102, .ref 103, .ref 104, .ref 105, .ref 106, .ref 107, .ref 108, .int (v 3), .ref 109, .int (v 4), .ref 110, .ref 111, .int (v 5), .ref 112, .int (v 6), .int (v 7), .int (v 8), .ref 113, .int (v 9), .ref 114, .ref 115, .ref 116, .ref 117]))) v [] := PQ.zero e91 e92 Same.rest (xset_same _ _ _)
    refine AX.aload_n (pc := 28) dX12_layFalls_28 rfl ?_
    refine AX.iload_n (pc := 29) dX12_layFalls_29 rfl ?_
    refine AX.sipush (pc := 30) (v := nI 1000) dX12_layFalls_30 (by decide) ?_
    refine AX.callV (pc := 33) (M2 := M_X12_putFall) (As := [.int (nI a), .int (nI 1000)]) (rest := []) (c_putFall w (xset h 87 (.inr (11, [.ref 88, .ref 89, .ref 90, .int (v 0), .int (nI 0), .ref 91, .ref 92, .ref 93, .ref 94, .ref 95, .ref 96, .ref 97, .ref 98, .ref 99, .ref 100, .ref 101, .int (v 2), .ref 102, .ref 103, .ref 104, .ref 105, .ref 106, .ref 107, .ref 108, .int (v 3), .ref 109, .int (v 4), .ref 110, .ref 111, .int (v 5), .ref 112, .int (v 6), .int (v 7), .int (v 8), .ref 113, .int (v 9), .ref 114, .ref 115, .ref 116, .ref 117]))) a 1000 (L := []) (u0.le hn) P0 (show 0 < 5 by decide) (fun p r e => by cases e)) xc_X12_layFalls__X12_putFall gX12_layFalls_X12_putFall (ci := 11) rfl (lt_k hn (by omega)) (xset_same _ _ _) rfl (Nat.le_of_ble_eq_true rfl) dX12_layFalls_33 ?_
    rintro _ h1 ⟨rfl, s1, P1⟩
    have P1 : PQ h1 v [(a, 1000)] := P1
    have u1 : Same [87, 91, 92] h h1 := u0.trans s1
    show AX w M_X12_layFalls 0 0 36 [.ref 87, .int (nI u), .int (nI a), .int (nI sd), .int (nI rg), .int (nI (a - 20)), .null] [] _ _
    refine AX.iload (pc := 36) dX12_layFalls_36 rfl ?_
    refine AX.if_leN (pc := 38) (tgt := 146) dX12_layFalls_38 (by decide) (by omega) (fun q => absurd q (by omega)) (fun hc38 => ?_)
    refine AX.iload_n (pc := 41) dX12_layFalls_41 rfl ?_
    refine AX.iload (pc := 42) dX12_layFalls_42 rfl ?_
    refine AX.isubN (pc := 44) (c := 20) dX12_layFalls_44 (by omega) ?_
    refine AX.istore (pc := 45) (L' := [.ref 87, .int (nI u), .int (nI a), .int (nI sd), .int (nI rg), .int (nI (a - 20)), .int (nI 20)]) dX12_layFalls_45 (by decide) rfl ?_
    refine AX.aload_n (pc := 47) dX12_layFalls_47 rfl ?_
    refine AX.iload (pc := 48) dX12_layFalls_48 rfl ?_
    refine AX.aload_n (pc := 50) dX12_layFalls_50 rfl ?_
    refine AX.iload (pc := 51) dX12_layFalls_51 rfl ?_
    refine AX.bipush (pc := 53) (v := nI 19) dX12_layFalls_53 (by decide) ?_
    refine AX.callV (pc := 55) (M2 := M_X12_besides) (As := [.int (nI (a - 20)), .int (nI 19)]) (rest := [.int (nI 20), .ref 87]) (c_mBesides w h1 (u1.le hn) P1.1 (hR.same u1 (by simp)) (show a - 20 ≤ 20 by omega) (by decide)) xc_X12_layFalls__X12_besides gX12_layFalls_X12_besides (ci := 11) rfl (lt_k (u1.le hn) (by omega)) P1.1 rfl (Nat.le_of_ble_eq_true rfl) dX12_layFalls_55 ?_
    rintro _ h9 ⟨rfl, e9⟩
    have e9 := e9.symm
    subst e9
    show AX w M_X12_layFalls 0 0 58 [.ref 87, .int (nI u), .int (nI a), .int (nI sd), .int (nI rg), .int (nI (a - 20)), .int (nI 20)] [.int (nI (bsN (a - 20) 19)), .int (nI 20), .ref 87] _ _
    refine AX.iaddN (pc := 58) (c := 20 + (bsN (a - 20) 19)) dX12_layFalls_58 rfl ?_
    refine AX.iload_n (pc := 59) dX12_layFalls_59 rfl ?_
    refine AX.callV (pc := 60) (M2 := M_X12_putFall) (As := [.int (nI (20 + (bsN (a - 20) 19))), .int (nI sd)]) (rest := []) (c_putFall w (h1) (20 + (bsN (a - 20) 19)) sd (L := [(a, 1000)]) (u1.le hn) P1 (show 1 < 5 by decide) (fun p r e => by injection e with e1 e2; subst e1; show sd ≤ 1000; omega)) xc_X12_layFalls__X12_putFall gX12_layFalls_X12_putFall (ci := 11) rfl (lt_k (u1.le hn) (by omega)) P1.1 rfl (Nat.le_of_ble_eq_true rfl) dX12_layFalls_60 ?_
    rintro _ h2 ⟨rfl, s2, P2⟩
    have P2 : PQ h2 v [(a, 1000 - sd), (20 + (bsN (a - 20) 19), sd)] := P2
    have u2 : Same [87, 91, 92] h h2 := u1.trans s2
    show AX w M_X12_layFalls 0 0 63 [.ref 87, .int (nI u), .int (nI a), .int (nI sd), .int (nI rg), .int (nI (a - 20)), .int (nI 20)] [] _ _
    refine AX.aload_n (pc := 63) dX12_layFalls_63 rfl ?_
    refine AX.iload (pc := 64) dX12_layFalls_64 rfl ?_
    refine AX.aload_n (pc := 66) dX12_layFalls_66 rfl ?_
    refine AX.iload (pc := 67) dX12_layFalls_67 rfl ?_
    refine AX.iconst (pc := 69) (v := nI 1) dX12_layFalls_69 (by decide) ?_
    refine AX.callV (pc := 70) (M2 := M_X12_besides) (As := [.int (nI (a - 20)), .int (nI 1)]) (rest := [.int (nI 20), .ref 87]) (c_mBesides w h2 (u2.le hn) P2.1 (hR.same u2 (by simp)) (show a - 20 ≤ 20 by omega) (by decide)) xc_X12_layFalls__X12_besides gX12_layFalls_X12_besides (ci := 11) rfl (lt_k (u2.le hn) (by omega)) P2.1 rfl (Nat.le_of_ble_eq_true rfl) dX12_layFalls_70 ?_
    rintro _ h9 ⟨rfl, e9⟩
    have e9 := e9.symm
    subst e9
    show AX w M_X12_layFalls 0 0 73 [.ref 87, .int (nI u), .int (nI a), .int (nI sd), .int (nI rg), .int (nI (a - 20)), .int (nI 20)] [.int (nI (bsN (a - 20) 1)), .int (nI 20), .ref 87] _ _
    refine AX.iaddN (pc := 73) (c := 20 + (bsN (a - 20) 1)) dX12_layFalls_73 rfl ?_
    refine AX.iload_n (pc := 74) dX12_layFalls_74 rfl ?_
    refine AX.callV (pc := 75) (M2 := M_X12_putFall) (As := [.int (nI (20 + (bsN (a - 20) 1))), .int (nI sd)]) (rest := []) (c_putFall w (h2) (20 + (bsN (a - 20) 1)) sd (L := [(a, 1000 - sd), (20 + (bsN (a - 20) 19), sd)]) (u2.le hn) P2 (show 2 < 5 by decide) (fun p r e => by injection e with e1 e2; subst e1; show sd ≤ 1000 - sd; omega)) xc_X12_layFalls__X12_putFall gX12_layFalls_X12_putFall (ci := 11) rfl (lt_k (u2.le hn) (by omega)) P2.1 rfl (Nat.le_of_ble_eq_true rfl) dX12_layFalls_75 ?_
    rintro _ h3 ⟨rfl, s3, P3⟩
    have P3 : PQ h3 v [(a, 1000 - sd - sd), (20 + (bsN (a - 20) 19), sd), (20 + (bsN (a - 20) 1), sd)] := P3
    have u3 : Same [87, 91, 92] h h3 := u2.trans s3
    show AX w M_X12_layFalls 0 0 78 [.ref 87, .int (nI u), .int (nI a), .int (nI sd), .int (nI rg), .int (nI (a - 20)), .int (nI 20)] [] _ _
    refine AX.iload (pc := 78) dX12_layFalls_78 rfl ?_
    refine AX.if_neN (pc := 80) (tgt := 108) dX12_layFalls_80 (by decide) (by decide) (fun hc80 => ?_) (fun q => absurd q (by decide))
    refine AX.iload (pc := 108) dX12_layFalls_108 rfl ?_
    refine AX.bipush (pc := 110) (v := nI 20) dX12_layFalls_110 (by decide) ?_
    refine AX.icmp_neN (pc := 112) (tgt := 133) dX12_layFalls_112 (by decide) (by decide) (by decide) (fun q => absurd q (by decide)) (fun hc112 => ?_)
    refine AX.aload_n (pc := 115) dX12_layFalls_115 rfl ?_
    refine AX.iload (pc := 116) dX12_layFalls_116 rfl ?_
    refine AX.iload (pc := 118) dX12_layFalls_118 rfl ?_
    refine AX.callV (pc := 120) (M2 := M_X12_putFall) (As := [.int (nI (a - 20)), .int (nI rg)]) (rest := []) (c_putFall w (h3) (a - 20) rg (L := [(a, 1000 - sd - sd), (20 + (bsN (a - 20) 19), sd), (20 + (bsN (a - 20) 1), sd)]) (u3.le hn) P3 (show 3 < 5 by decide) (fun p r e => by injection e with e1 e2; subst e1; show rg ≤ 1000 - sd - sd; omega)) xc_X12_layFalls__X12_putFall gX12_layFalls_X12_putFall (ci := 11) rfl (lt_k (u3.le hn) (by omega)) P3.1 rfl (Nat.le_of_ble_eq_true rfl) dX12_layFalls_120 ?_
    rintro _ h4 ⟨rfl, s4, P4⟩
    have P4 : PQ h4 v [(a, 1000 - sd - sd - rg), (20 + (bsN (a - 20) 19), sd), (20 + (bsN (a - 20) 1), sd), (a - 20, rg)] := P4
    have u4 : Same [87, 91, 92] h h4 := u3.trans s4
    show AX w M_X12_layFalls 0 0 123 [.ref 87, .int (nI u), .int (nI a), .int (nI sd), .int (nI rg), .int (nI (a - 20)), .int (nI 20)] [] _ _
    refine AX.aload_n (pc := 123) dX12_layFalls_123 rfl ?_
    refine AX.iconst (pc := 124) (v := nI 0) dX12_layFalls_124 (by decide) ?_
    refine AX.iload (pc := 125) dX12_layFalls_125 rfl ?_
    refine AX.callV (pc := 127) (M2 := M_X12_putFall) (As := [.int (nI 0), .int (nI rg)]) (rest := []) (c_putFall w (h4) 0 rg (L := [(a, 1000 - sd - sd - rg), (20 + (bsN (a - 20) 19), sd), (20 + (bsN (a - 20) 1), sd), (a - 20, rg)]) (u4.le hn) P4 (show 4 < 5 by decide) (fun p r e => by injection e with e1 e2; subst e1; show rg ≤ 1000 - sd - sd - rg; omega)) xc_X12_layFalls__X12_putFall gX12_layFalls_X12_putFall (ci := 11) rfl (lt_k (u4.le hn) (by omega)) P4.1 rfl (Nat.le_of_ble_eq_true rfl) dX12_layFalls_127 ?_
    rintro _ h5 ⟨rfl, s5, P5⟩
    have P5 : PQ h5 v [(a, 1000 - sd - sd - rg - rg), (20 + (bsN (a - 20) 19), sd), (20 + (bsN (a - 20) 1), sd), (a - 20, rg), (0, rg)] := P5
    have u5 : Same [87, 91, 92] h h5 := u4.trans s5
    show AX w M_X12_layFalls 0 0 130 [.ref 87, .int (nI u), .int (nI a), .int (nI sd), .int (nI rg), .int (nI (a - 20)), .int (nI 20)] [] _ _
    refine AX.goto (pc := 130) (tgt := 143) dX12_layFalls_130 (by decide) ?_
    refine AX.goto (pc := 143) (tgt := 199) dX12_layFalls_143 (by decide) ?_
    refine AX.vret (pc := 199) dX12_layFalls_199 rfl (by decide) (by decide) ?_
    have hf := P5.fl hl.1 hl.2
    exact ⟨rfl, u5, hf.1, hf.2⟩
  · have hnb : nbN a = a - 40 := by unfold nbN; rw [if_neg (by omega), if_neg (by omega)]; omega
    have hl := fl_3 (a := a) (sd := sd) (rg := rg) hc hs2 hr2
    refine CA.of (by decide) rfl (fun _ => Nat.le_of_ble_eq_true rfl) ?_
    show AX w M_X12_layFalls 0 0 0 [.ref 87, .int (nI u), .int (nI a), .null, .null, .null, .null] [] h _
    refine AX.aload_n (pc := 0) dX12_layFalls_0 rfl ?_
    refine AX.getf (pc := 1) fX12_layFalls_13 (lt_k hn (by omega)) hO rfl dX12_layFalls_1 ?_
    refine AX.iload_n (pc := 4) dX12_layFalls_4 rfl ?_
    refine AX.ialdN (pc := 5) (i := u) (v := (nI sd)) (lt_k hn (by omega)) e89 (by decide) hu2.1 ((q89 u hu2.1).trans hs) dX12_layFalls_5 ?_
    refine AX.istore_n (pc := 6) (L' := [.ref 87, .int (nI u), .int (nI a), .int (nI sd), .null, .null, .null]) dX12_layFalls_6 (by decide) rfl ?_
    refine AX.aload_n (pc := 7) dX12_layFalls_7 rfl ?_
    refine AX.getf (pc := 8) fX12_layFalls_13 (lt_k hn (by omega)) hO rfl dX12_layFalls_8 ?_
    refine AX.iconst (pc := 11) (v := nI 2) dX12_layFalls_11 (by decide) ?_
    refine AX.iload_n (pc := 12) dX12_layFalls_12 rfl ?_
    refine AX.iaddN (pc := 13) (c := 2 + u) dX12_layFalls_13 rfl ?_
    refine AX.ialdN (pc := 14) (i := 2 + u) (v := (nI rg)) (lt_k hn (by omega)) e89 (by decide) hu2.2 ((q89 (2 + u) hu2.2).trans hr) dX12_layFalls_14 ?_
    refine AX.istore (pc := 15) (L' := [.ref 87, .int (nI u), .int (nI a), .int (nI sd), .int (nI rg), .null, .null]) dX12_layFalls_15 (by decide) rfl ?_
    refine AX.iload_n (pc := 17) dX12_layFalls_17 rfl ?_
    refine AX.callS (pc := 18) (M2 := M_X12_numberOf) (As := [.int (nI a)]) (rest := []) (c_mNumber w h a (by omega)) xc_X12_layFalls__X12_numberOf gX12_layFalls_X12_numberOf rfl (Nat.le_of_ble_eq_true rfl) dX12_layFalls_18 ?_
    rintro _ h9 ⟨rfl, e9⟩
    have e9 := e9.symm
    subst e9
    rw [hnb]
    show AX w M_X12_layFalls 0 0 21 [.ref 87, .int (nI u), .int (nI a), .int (nI sd), .int (nI rg), .null, .null] [.int (nI (a - 40))] _ _
    refine AX.istore (pc := 21) (L' := [.ref 87, .int (nI u), .int (nI a), .int (nI sd), .int (nI rg), .int (nI (a - 40)), .null]) dX12_layFalls_21 (by decide) rfl ?_
    refine AX.aload_n (pc := 23) dX12_layFalls_23 rfl ?_
    refine AX.iconst (pc := 24) (v := nI 0) dX12_layFalls_24 (by decide) ?_
    refine AX.putf (pc := 25) (fs' := [.ref 88, .ref 89, .ref 90, .int (v 0), .int (nI 0), .ref 91, .ref 92, .ref 93, .ref 94, .ref 95, .ref 96, .ref 97, .ref 98, .ref 99, .ref 100, .ref 101, .int (v 2), .ref 102, .ref 103, .ref 104, .ref 105, .ref 106, .ref 107, .ref 108, .int (v 3), .ref 109, .int (v 4), .ref 110, .ref 111, .int (v 5), .ref 112, .int (v 6), .int (v 7), .int (v 8), .ref 113, .int (v 9), .ref 114, .ref 115, .ref 116, .ref 117]) fX12_layFalls_132 rfl (lt_k hn (by omega)) hO (Nat.le_of_ble_eq_true rfl) rfl rfl rfl dX12_layFalls_25 ?_
    have u0 : Same [87, 91, 92] h (xset h 87 (.inr (11, [.ref 88, .ref 89, .ref 90, .int (v 0), .int (nI 0), .ref 91, .ref 92, .ref 93, .ref 94, .ref 95, .ref 96, .ref 97, .ref 98, .ref 99, .ref 100, .ref 101, .int (v 2), .ref 102, .ref 103, .ref 104, .ref 105, .ref 106, .ref 107, .ref 108, .int (v 3), .ref 109, .int (v 4), .ref 110, .ref 111, .int (v 5), .ref 112, .int (v 6), .int (v 7), .int (v 8), .ref 113, .int (v 9), .ref 114, .ref 115, .ref 116, .ref 117]))) := Same.set Same.rf (by simp)
    have P0 : PQ (xset h 87 (.inr (11, [.ref 88, .ref 89, .ref 90, .int (v 0), .int (nI 0), .ref 91, .ref 92, .ref 93, .ref 94, .ref 95, .ref 96, .ref 97, .ref 98, .ref 99, .ref 100, .ref 101, .int (v 2), .ref 102, .ref 103, .ref 104, .ref 105, .ref 106, .ref 107, .ref 108, .int (v 3), .ref 109, .int (v 4), .ref 110, .ref 111, .int (v 5), .ref 112, .int (v 6), .int (v 7), .int (v 8), .ref 113, .int (v 9), .ref 114, .ref 115, .ref 116, .ref 117]))) v [] := PQ.zero e91 e92 Same.rest (xset_same _ _ _)
    refine AX.aload_n (pc := 28) dX12_layFalls_28 rfl ?_
    refine AX.iload_n (pc := 29) dX12_layFalls_29 rfl ?_
    refine AX.sipush (pc := 30) (v := nI 1000) dX12_layFalls_30 (by decide) ?_
    refine AX.callV (pc := 33) (M2 := M_X12_putFall) (As := [.int (nI a), .int (nI 1000)]) (rest := []) (c_putFall w (xset h 87 (.inr (11, [.ref 88, .ref 89, .ref 90, .int (v 0), .int (nI 0), .ref 91, .ref 92, .ref 93, .ref 94, .ref 95, .ref 96, .ref 97, .ref 98, .ref 99, .ref 100, .ref 101, .int (v 2), .ref 102, .ref 103, .ref 104, .ref 105, .ref 106, .ref 107, .ref 108, .int (v 3), .ref 109, .int (v 4), .ref 110, .ref 111, .int (v 5), .ref 112, .int (v 6), .int (v 7), .int (v 8), .ref 113, .int (v 9), .ref 114, .ref 115, .ref 116, .ref 117]))) a 1000 (L := []) (u0.le hn) P0 (show 0 < 5 by decide) (fun p r e => by cases e)) xc_X12_layFalls__X12_putFall gX12_layFalls_X12_putFall (ci := 11) rfl (lt_k hn (by omega)) (xset_same _ _ _) rfl (Nat.le_of_ble_eq_true rfl) dX12_layFalls_33 ?_
    rintro _ h1 ⟨rfl, s1, P1⟩
    have P1 : PQ h1 v [(a, 1000)] := P1
    have u1 : Same [87, 91, 92] h h1 := u0.trans s1
    show AX w M_X12_layFalls 0 0 36 [.ref 87, .int (nI u), .int (nI a), .int (nI sd), .int (nI rg), .int (nI (a - 40)), .null] [] _ _
    refine AX.iload (pc := 36) dX12_layFalls_36 rfl ?_
    refine AX.if_leN (pc := 38) (tgt := 146) dX12_layFalls_38 (by decide) (by omega) (fun q => absurd q (by omega)) (fun hc38 => ?_)
    refine AX.iload_n (pc := 41) dX12_layFalls_41 rfl ?_
    refine AX.iload (pc := 42) dX12_layFalls_42 rfl ?_
    refine AX.isubN (pc := 44) (c := 40) dX12_layFalls_44 (by omega) ?_
    refine AX.istore (pc := 45) (L' := [.ref 87, .int (nI u), .int (nI a), .int (nI sd), .int (nI rg), .int (nI (a - 40)), .int (nI 40)]) dX12_layFalls_45 (by decide) rfl ?_
    refine AX.aload_n (pc := 47) dX12_layFalls_47 rfl ?_
    refine AX.iload (pc := 48) dX12_layFalls_48 rfl ?_
    refine AX.aload_n (pc := 50) dX12_layFalls_50 rfl ?_
    refine AX.iload (pc := 51) dX12_layFalls_51 rfl ?_
    refine AX.bipush (pc := 53) (v := nI 19) dX12_layFalls_53 (by decide) ?_
    refine AX.callV (pc := 55) (M2 := M_X12_besides) (As := [.int (nI (a - 40)), .int (nI 19)]) (rest := [.int (nI 40), .ref 87]) (c_mBesides w h1 (u1.le hn) P1.1 (hR.same u1 (by simp)) (show a - 40 ≤ 20 by omega) (by decide)) xc_X12_layFalls__X12_besides gX12_layFalls_X12_besides (ci := 11) rfl (lt_k (u1.le hn) (by omega)) P1.1 rfl (Nat.le_of_ble_eq_true rfl) dX12_layFalls_55 ?_
    rintro _ h9 ⟨rfl, e9⟩
    have e9 := e9.symm
    subst e9
    show AX w M_X12_layFalls 0 0 58 [.ref 87, .int (nI u), .int (nI a), .int (nI sd), .int (nI rg), .int (nI (a - 40)), .int (nI 40)] [.int (nI (bsN (a - 40) 19)), .int (nI 40), .ref 87] _ _
    refine AX.iaddN (pc := 58) (c := 40 + (bsN (a - 40) 19)) dX12_layFalls_58 rfl ?_
    refine AX.iload_n (pc := 59) dX12_layFalls_59 rfl ?_
    refine AX.callV (pc := 60) (M2 := M_X12_putFall) (As := [.int (nI (40 + (bsN (a - 40) 19))), .int (nI sd)]) (rest := []) (c_putFall w (h1) (40 + (bsN (a - 40) 19)) sd (L := [(a, 1000)]) (u1.le hn) P1 (show 1 < 5 by decide) (fun p r e => by injection e with e1 e2; subst e1; show sd ≤ 1000; omega)) xc_X12_layFalls__X12_putFall gX12_layFalls_X12_putFall (ci := 11) rfl (lt_k (u1.le hn) (by omega)) P1.1 rfl (Nat.le_of_ble_eq_true rfl) dX12_layFalls_60 ?_
    rintro _ h2 ⟨rfl, s2, P2⟩
    have P2 : PQ h2 v [(a, 1000 - sd), (40 + (bsN (a - 40) 19), sd)] := P2
    have u2 : Same [87, 91, 92] h h2 := u1.trans s2
    show AX w M_X12_layFalls 0 0 63 [.ref 87, .int (nI u), .int (nI a), .int (nI sd), .int (nI rg), .int (nI (a - 40)), .int (nI 40)] [] _ _
    refine AX.aload_n (pc := 63) dX12_layFalls_63 rfl ?_
    refine AX.iload (pc := 64) dX12_layFalls_64 rfl ?_
    refine AX.aload_n (pc := 66) dX12_layFalls_66 rfl ?_
    refine AX.iload (pc := 67) dX12_layFalls_67 rfl ?_
    refine AX.iconst (pc := 69) (v := nI 1) dX12_layFalls_69 (by decide) ?_
    refine AX.callV (pc := 70) (M2 := M_X12_besides) (As := [.int (nI (a - 40)), .int (nI 1)]) (rest := [.int (nI 40), .ref 87]) (c_mBesides w h2 (u2.le hn) P2.1 (hR.same u2 (by simp)) (show a - 40 ≤ 20 by omega) (by decide)) xc_X12_layFalls__X12_besides gX12_layFalls_X12_besides (ci := 11) rfl (lt_k (u2.le hn) (by omega)) P2.1 rfl (Nat.le_of_ble_eq_true rfl) dX12_layFalls_70 ?_
    rintro _ h9 ⟨rfl, e9⟩
    have e9 := e9.symm
    subst e9
    show AX w M_X12_layFalls 0 0 73 [.ref 87, .int (nI u), .int (nI a), .int (nI sd), .int (nI rg), .int (nI (a - 40)), .int (nI 40)] [.int (nI (bsN (a - 40) 1)), .int (nI 40), .ref 87] _ _
    refine AX.iaddN (pc := 73) (c := 40 + (bsN (a - 40) 1)) dX12_layFalls_73 rfl ?_
    refine AX.iload_n (pc := 74) dX12_layFalls_74 rfl ?_
    refine AX.callV (pc := 75) (M2 := M_X12_putFall) (As := [.int (nI (40 + (bsN (a - 40) 1))), .int (nI sd)]) (rest := []) (c_putFall w (h2) (40 + (bsN (a - 40) 1)) sd (L := [(a, 1000 - sd), (40 + (bsN (a - 40) 19), sd)]) (u2.le hn) P2 (show 2 < 5 by decide) (fun p r e => by injection e with e1 e2; subst e1; show sd ≤ 1000 - sd; omega)) xc_X12_layFalls__X12_putFall gX12_layFalls_X12_putFall (ci := 11) rfl (lt_k (u2.le hn) (by omega)) P2.1 rfl (Nat.le_of_ble_eq_true rfl) dX12_layFalls_75 ?_
    rintro _ h3 ⟨rfl, s3, P3⟩
    have P3 : PQ h3 v [(a, 1000 - sd - sd), (40 + (bsN (a - 40) 19), sd), (40 + (bsN (a - 40) 1), sd)] := P3
    have u3 : Same [87, 91, 92] h h3 := u2.trans s3
    show AX w M_X12_layFalls 0 0 78 [.ref 87, .int (nI u), .int (nI a), .int (nI sd), .int (nI rg), .int (nI (a - 40)), .int (nI 40)] [] _ _
    refine AX.iload (pc := 78) dX12_layFalls_78 rfl ?_
    refine AX.if_neN (pc := 80) (tgt := 108) dX12_layFalls_80 (by decide) (by decide) (fun hc80 => ?_) (fun q => absurd q (by decide))
    refine AX.iload (pc := 108) dX12_layFalls_108 rfl ?_
    refine AX.bipush (pc := 110) (v := nI 20) dX12_layFalls_110 (by decide) ?_
    refine AX.icmp_neN (pc := 112) (tgt := 133) dX12_layFalls_112 (by decide) (by decide) (by decide) (fun hc112 => ?_) (fun q => absurd q (by decide))
    refine AX.aload_n (pc := 133) dX12_layFalls_133 rfl ?_
    refine AX.iload (pc := 134) dX12_layFalls_134 rfl ?_
    refine AX.iconst (pc := 136) (v := nI 2) dX12_layFalls_136 (by decide) ?_
    refine AX.iload (pc := 137) dX12_layFalls_137 rfl ?_
    refine AX.imulN (pc := 139) (c := 2 * rg) dX12_layFalls_139 rfl ?_
    refine AX.callV (pc := 140) (M2 := M_X12_putFall) (As := [.int (nI (a - 40)), .int (nI (2 * rg))]) (rest := []) (c_putFall w (h3) (a - 40) (2 * rg) (L := [(a, 1000 - sd - sd), (40 + (bsN (a - 40) 19), sd), (40 + (bsN (a - 40) 1), sd)]) (u3.le hn) P3 (show 3 < 5 by decide) (fun p r e => by injection e with e1 e2; subst e1; show 2 * rg ≤ 1000 - sd - sd; omega)) xc_X12_layFalls__X12_putFall gX12_layFalls_X12_putFall (ci := 11) rfl (lt_k (u3.le hn) (by omega)) P3.1 rfl (Nat.le_of_ble_eq_true rfl) dX12_layFalls_140 ?_
    rintro _ h4 ⟨rfl, s4, P4⟩
    have P4 : PQ h4 v [(a, 1000 - sd - sd - (2 * rg)), (40 + (bsN (a - 40) 19), sd), (40 + (bsN (a - 40) 1), sd), (a - 40, 2 * rg)] := P4
    have u4 : Same [87, 91, 92] h h4 := u3.trans s4
    show AX w M_X12_layFalls 0 0 143 [.ref 87, .int (nI u), .int (nI a), .int (nI sd), .int (nI rg), .int (nI (a - 40)), .int (nI 40)] [] _ _
    refine AX.goto (pc := 143) (tgt := 199) dX12_layFalls_143 (by decide) ?_
    refine AX.vret (pc := 199) dX12_layFalls_199 rfl (by decide) (by decide) ?_
    have hf := P4.fl hl.1 hl.2
    exact ⟨rfl, u4, hf.1, hf.2⟩
  · subst hc
    have hnb : nbN 61 = 0 := by decide
    have hl := fl_4 (a := 61) (sd := sd) (rg := rg) rfl hs2 hr2
    refine CA.of (by decide) rfl (fun _ => Nat.le_of_ble_eq_true rfl) ?_
    show AX w M_X12_layFalls 0 0 0 [.ref 87, .int (nI u), .int (nI 61), .null, .null, .null, .null] [] h _
    refine AX.aload_n (pc := 0) dX12_layFalls_0 rfl ?_
    refine AX.getf (pc := 1) fX12_layFalls_13 (lt_k hn (by omega)) hO rfl dX12_layFalls_1 ?_
    refine AX.iload_n (pc := 4) dX12_layFalls_4 rfl ?_
    refine AX.ialdN (pc := 5) (i := u) (v := (nI sd)) (lt_k hn (by omega)) e89 (by decide) hu2.1 ((q89 u hu2.1).trans hs) dX12_layFalls_5 ?_
    refine AX.istore_n (pc := 6) (L' := [.ref 87, .int (nI u), .int (nI 61), .int (nI sd), .null, .null, .null]) dX12_layFalls_6 (by decide) rfl ?_
    refine AX.aload_n (pc := 7) dX12_layFalls_7 rfl ?_
    refine AX.getf (pc := 8) fX12_layFalls_13 (lt_k hn (by omega)) hO rfl dX12_layFalls_8 ?_
    refine AX.iconst (pc := 11) (v := nI 2) dX12_layFalls_11 (by decide) ?_
    refine AX.iload_n (pc := 12) dX12_layFalls_12 rfl ?_
    refine AX.iaddN (pc := 13) (c := 2 + u) dX12_layFalls_13 rfl ?_
    refine AX.ialdN (pc := 14) (i := 2 + u) (v := (nI rg)) (lt_k hn (by omega)) e89 (by decide) hu2.2 ((q89 (2 + u) hu2.2).trans hr) dX12_layFalls_14 ?_
    refine AX.istore (pc := 15) (L' := [.ref 87, .int (nI u), .int (nI 61), .int (nI sd), .int (nI rg), .null, .null]) dX12_layFalls_15 (by decide) rfl ?_
    refine AX.iload_n (pc := 17) dX12_layFalls_17 rfl ?_
    refine AX.callS (pc := 18) (M2 := M_X12_numberOf) (As := [.int (nI 61)]) (rest := []) (c_mNumber w h 61 (by omega)) xc_X12_layFalls__X12_numberOf gX12_layFalls_X12_numberOf rfl (Nat.le_of_ble_eq_true rfl) dX12_layFalls_18 ?_
    rintro _ h9 ⟨rfl, e9⟩
    have e9 := e9.symm
    subst e9
    rw [hnb]
    show AX w M_X12_layFalls 0 0 21 [.ref 87, .int (nI u), .int (nI 61), .int (nI sd), .int (nI rg), .null, .null] [.int (nI 0)] _ _
    refine AX.istore (pc := 21) (L' := [.ref 87, .int (nI u), .int (nI 61), .int (nI sd), .int (nI rg), .int (nI 0), .null]) dX12_layFalls_21 (by decide) rfl ?_
    refine AX.aload_n (pc := 23) dX12_layFalls_23 rfl ?_
    refine AX.iconst (pc := 24) (v := nI 0) dX12_layFalls_24 (by decide) ?_
    refine AX.putf (pc := 25) (fs' := [.ref 88, .ref 89, .ref 90, .int (v 0), .int (nI 0), .ref 91, .ref 92, .ref 93, .ref 94, .ref 95, .ref 96, .ref 97, .ref 98, .ref 99, .ref 100, .ref 101, .int (v 2), .ref 102, .ref 103, .ref 104, .ref 105, .ref 106, .ref 107, .ref 108, .int (v 3), .ref 109, .int (v 4), .ref 110, .ref 111, .int (v 5), .ref 112, .int (v 6), .int (v 7), .int (v 8), .ref 113, .int (v 9), .ref 114, .ref 115, .ref 116, .ref 117]) fX12_layFalls_132 rfl (lt_k hn (by omega)) hO (Nat.le_of_ble_eq_true rfl) rfl rfl rfl dX12_layFalls_25 ?_
    have u0 : Same [87, 91, 92] h (xset h 87 (.inr (11, [.ref 88, .ref 89, .ref 90, .int (v 0), .int (nI 0), .ref 91, .ref 92, .ref 93, .ref 94, .ref 95, .ref 96, .ref 97, .ref 98, .ref 99, .ref 100, .ref 101, .int (v 2), .ref 102, .ref 103, .ref 104, .ref 105, .ref 106, .ref 107, .ref 108, .int (v 3), .ref 109, .int (v 4), .ref 110, .ref 111, .int (v 5), .ref 112, .int (v 6), .int (v 7), .int (v 8), .ref 113, .int (v 9), .ref 114, .ref 115, .ref 116, .ref 117]))) := Same.set Same.rf (by simp)
    have P0 : PQ (xset h 87 (.inr (11, [.ref 88, .ref 89, .ref 90, .int (v 0), .int (nI 0), .ref 91, .ref 92, .ref 93, .ref 94, .ref 95, .ref 96, .ref 97, .ref 98, .ref 99, .ref 100, .ref 101, .int (v 2), .ref 102, .ref 103, .ref 104, .ref 105, .ref 106, .ref 107, .ref 108, .int (v 3), .ref 109, .int (v 4), .ref 110, .ref 111, .int (v 5), .ref 112, .int (v 6), .int (v 7), .int (v 8), .ref 113, .int (v 9), .ref 114, .ref 115, .ref 116, .ref 117]))) v [] := PQ.zero e91 e92 Same.rest (xset_same _ _ _)
    refine AX.aload_n (pc := 28) dX12_layFalls_28 rfl ?_
    refine AX.iload_n (pc := 29) dX12_layFalls_29 rfl ?_
    refine AX.sipush (pc := 30) (v := nI 1000) dX12_layFalls_30 (by decide) ?_
    refine AX.callV (pc := 33) (M2 := M_X12_putFall) (As := [.int (nI 61), .int (nI 1000)]) (rest := []) (c_putFall w (xset h 87 (.inr (11, [.ref 88, .ref 89, .ref 90, .int (v 0), .int (nI 0), .ref 91, .ref 92, .ref 93, .ref 94, .ref 95, .ref 96, .ref 97, .ref 98, .ref 99, .ref 100, .ref 101, .int (v 2), .ref 102, .ref 103, .ref 104, .ref 105, .ref 106, .ref 107, .ref 108, .int (v 3), .ref 109, .int (v 4), .ref 110, .ref 111, .int (v 5), .ref 112, .int (v 6), .int (v 7), .int (v 8), .ref 113, .int (v 9), .ref 114, .ref 115, .ref 116, .ref 117]))) 61 1000 (L := []) (u0.le hn) P0 (show 0 < 5 by decide) (fun p r e => by cases e)) xc_X12_layFalls__X12_putFall gX12_layFalls_X12_putFall (ci := 11) rfl (lt_k hn (by omega)) (xset_same _ _ _) rfl (Nat.le_of_ble_eq_true rfl) dX12_layFalls_33 ?_
    rintro _ h1 ⟨rfl, s1, P1⟩
    have P1 : PQ h1 v [(61, 1000)] := P1
    have u1 : Same [87, 91, 92] h h1 := u0.trans s1
    show AX w M_X12_layFalls 0 0 36 [.ref 87, .int (nI u), .int (nI 61), .int (nI sd), .int (nI rg), .int (nI 0), .null] [] _ _
    refine AX.iload (pc := 36) dX12_layFalls_36 rfl ?_
    refine AX.if_leN (pc := 38) (tgt := 146) dX12_layFalls_38 (by decide) (by decide) (fun hc38 => ?_) (fun q => absurd q (by decide))
    refine AX.iload_n (pc := 146) dX12_layFalls_146 rfl ?_
    refine AX.bipush (pc := 147) (v := nI 61) dX12_layFalls_147 (by decide) ?_
    refine AX.icmp_neN (pc := 149) (tgt := 185) dX12_layFalls_149 (by decide) (by decide) (by decide) (fun q => absurd q (by decide)) (fun hc149 => ?_)
    refine AX.aload_n (pc := 152) dX12_layFalls_152 rfl ?_
    refine AX.bipush (pc := 153) (v := nI 62) dX12_layFalls_153 (by decide) ?_
    refine AX.iload (pc := 155) dX12_layFalls_155 rfl ?_
    refine AX.callV (pc := 157) (M2 := M_X12_putFall) (As := [.int (nI 62), .int (nI rg)]) (rest := []) (c_putFall w (h1) 62 rg (L := [(61, 1000)]) (u1.le hn) P1 (show 1 < 5 by decide) (fun p r e => by injection e with e1 e2; subst e1; show rg ≤ 1000; omega)) xc_X12_layFalls__X12_putFall gX12_layFalls_X12_putFall (ci := 11) rfl (lt_k (u1.le hn) (by omega)) P1.1 rfl (Nat.le_of_ble_eq_true rfl) dX12_layFalls_157 ?_
    rintro _ h2 ⟨rfl, s2, P2⟩
    have P2 : PQ h2 v [(61, 1000 - rg), (62, rg)] := P2
    have u2 : Same [87, 91, 92] h h2 := u1.trans s2
    show AX w M_X12_layFalls 0 0 160 [.ref 87, .int (nI u), .int (nI 61), .int (nI sd), .int (nI rg), .int (nI 0), .null] [] _ _
    refine AX.aload_n (pc := 160) dX12_layFalls_160 rfl ?_
    refine AX.bipush (pc := 161) (v := nI 6) dX12_layFalls_161 (by decide) ?_
    refine AX.iload_n (pc := 163) dX12_layFalls_163 rfl ?_
    refine AX.callV (pc := 164) (M2 := M_X12_putFall) (As := [.int (nI 6), .int (nI sd)]) (rest := []) (c_putFall w (h2) 6 sd (L := [(61, 1000 - rg), (62, rg)]) (u2.le hn) P2 (show 2 < 5 by decide) (fun p r e => by injection e with e1 e2; subst e1; show sd ≤ 1000 - rg; omega)) xc_X12_layFalls__X12_putFall gX12_layFalls_X12_putFall (ci := 11) rfl (lt_k (u2.le hn) (by omega)) P2.1 rfl (Nat.le_of_ble_eq_true rfl) dX12_layFalls_164 ?_
    rintro _ h3 ⟨rfl, s3, P3⟩
    have P3 : PQ h3 v [(61, 1000 - rg - sd), (62, rg), (6, sd)] := P3
    have u3 : Same [87, 91, 92] h h3 := u2.trans s3
    show AX w M_X12_layFalls 0 0 167 [.ref 87, .int (nI u), .int (nI 61), .int (nI sd), .int (nI rg), .int (nI 0), .null] [] _ _
    refine AX.aload_n (pc := 167) dX12_layFalls_167 rfl ?_
    refine AX.bipush (pc := 168) (v := nI 11) dX12_layFalls_168 (by decide) ?_
    refine AX.iload_n (pc := 170) dX12_layFalls_170 rfl ?_
    refine AX.callV (pc := 171) (M2 := M_X12_putFall) (As := [.int (nI 11), .int (nI sd)]) (rest := []) (c_putFall w (h3) 11 sd (L := [(61, 1000 - rg - sd), (62, rg), (6, sd)]) (u3.le hn) P3 (show 3 < 5 by decide) (fun p r e => by injection e with e1 e2; subst e1; show sd ≤ 1000 - rg - sd; omega)) xc_X12_layFalls__X12_putFall gX12_layFalls_X12_putFall (ci := 11) rfl (lt_k (u3.le hn) (by omega)) P3.1 rfl (Nat.le_of_ble_eq_true rfl) dX12_layFalls_171 ?_
    rintro _ h4 ⟨rfl, s4, P4⟩
    have P4 : PQ h4 v [(61, 1000 - rg - sd - sd), (62, rg), (6, sd), (11, sd)] := P4
    have u4 : Same [87, 91, 92] h h4 := u3.trans s4
    show AX w M_X12_layFalls 0 0 174 [.ref 87, .int (nI u), .int (nI 61), .int (nI sd), .int (nI rg), .int (nI 0), .null] [] _ _
    refine AX.aload_n (pc := 174) dX12_layFalls_174 rfl ?_
    refine AX.bipush (pc := 175) (v := nI 20) dX12_layFalls_175 (by decide) ?_
    refine AX.iload (pc := 177) dX12_layFalls_177 rfl ?_
    refine AX.callV (pc := 179) (M2 := M_X12_putFall) (As := [.int (nI 20), .int (nI rg)]) (rest := []) (c_putFall w (h4) 20 rg (L := [(61, 1000 - rg - sd - sd), (62, rg), (6, sd), (11, sd)]) (u4.le hn) P4 (show 4 < 5 by decide) (fun p r e => by injection e with e1 e2; subst e1; show rg ≤ 1000 - rg - sd - sd; omega)) xc_X12_layFalls__X12_putFall gX12_layFalls_X12_putFall (ci := 11) rfl (lt_k (u4.le hn) (by omega)) P4.1 rfl (Nat.le_of_ble_eq_true rfl) dX12_layFalls_179 ?_
    rintro _ h5 ⟨rfl, s5, P5⟩
    have P5 : PQ h5 v [(61, 1000 - rg - sd - sd - rg), (62, rg), (6, sd), (11, sd), (20, rg)] := P5
    have u5 : Same [87, 91, 92] h h5 := u4.trans s5
    show AX w M_X12_layFalls 0 0 182 [.ref 87, .int (nI u), .int (nI 61), .int (nI sd), .int (nI rg), .int (nI 0), .null] [] _ _
    refine AX.goto (pc := 182) (tgt := 199) dX12_layFalls_182 (by decide) ?_
    refine AX.vret (pc := 199) dX12_layFalls_199 rfl (by decide) (by decide) ?_
    have hf := P5.fl hl.1 hl.2
    exact ⟨rfl, u5, hf.1, hf.2⟩
  · subst hc
    have hnb : nbN 62 = 0 := by decide
    have hl := fl_5 (a := 62) (sd := sd) (rg := rg) rfl hs2 hr2
    refine CA.of (by decide) rfl (fun _ => Nat.le_of_ble_eq_true rfl) ?_
    show AX w M_X12_layFalls 0 0 0 [.ref 87, .int (nI u), .int (nI 62), .null, .null, .null, .null] [] h _
    refine AX.aload_n (pc := 0) dX12_layFalls_0 rfl ?_
    refine AX.getf (pc := 1) fX12_layFalls_13 (lt_k hn (by omega)) hO rfl dX12_layFalls_1 ?_
    refine AX.iload_n (pc := 4) dX12_layFalls_4 rfl ?_
    refine AX.ialdN (pc := 5) (i := u) (v := (nI sd)) (lt_k hn (by omega)) e89 (by decide) hu2.1 ((q89 u hu2.1).trans hs) dX12_layFalls_5 ?_
    refine AX.istore_n (pc := 6) (L' := [.ref 87, .int (nI u), .int (nI 62), .int (nI sd), .null, .null, .null]) dX12_layFalls_6 (by decide) rfl ?_
    refine AX.aload_n (pc := 7) dX12_layFalls_7 rfl ?_
    refine AX.getf (pc := 8) fX12_layFalls_13 (lt_k hn (by omega)) hO rfl dX12_layFalls_8 ?_
    refine AX.iconst (pc := 11) (v := nI 2) dX12_layFalls_11 (by decide) ?_
    refine AX.iload_n (pc := 12) dX12_layFalls_12 rfl ?_
    refine AX.iaddN (pc := 13) (c := 2 + u) dX12_layFalls_13 rfl ?_
    refine AX.ialdN (pc := 14) (i := 2 + u) (v := (nI rg)) (lt_k hn (by omega)) e89 (by decide) hu2.2 ((q89 (2 + u) hu2.2).trans hr) dX12_layFalls_14 ?_
    refine AX.istore (pc := 15) (L' := [.ref 87, .int (nI u), .int (nI 62), .int (nI sd), .int (nI rg), .null, .null]) dX12_layFalls_15 (by decide) rfl ?_
    refine AX.iload_n (pc := 17) dX12_layFalls_17 rfl ?_
    refine AX.callS (pc := 18) (M2 := M_X12_numberOf) (As := [.int (nI 62)]) (rest := []) (c_mNumber w h 62 (by omega)) xc_X12_layFalls__X12_numberOf gX12_layFalls_X12_numberOf rfl (Nat.le_of_ble_eq_true rfl) dX12_layFalls_18 ?_
    rintro _ h9 ⟨rfl, e9⟩
    have e9 := e9.symm
    subst e9
    rw [hnb]
    show AX w M_X12_layFalls 0 0 21 [.ref 87, .int (nI u), .int (nI 62), .int (nI sd), .int (nI rg), .null, .null] [.int (nI 0)] _ _
    refine AX.istore (pc := 21) (L' := [.ref 87, .int (nI u), .int (nI 62), .int (nI sd), .int (nI rg), .int (nI 0), .null]) dX12_layFalls_21 (by decide) rfl ?_
    refine AX.aload_n (pc := 23) dX12_layFalls_23 rfl ?_
    refine AX.iconst (pc := 24) (v := nI 0) dX12_layFalls_24 (by decide) ?_
    refine AX.putf (pc := 25) (fs' := [.ref 88, .ref 89, .ref 90, .int (v 0), .int (nI 0), .ref 91, .ref 92, .ref 93, .ref 94, .ref 95, .ref 96, .ref 97, .ref 98, .ref 99, .ref 100, .ref 101, .int (v 2), .ref 102, .ref 103, .ref 104, .ref 105, .ref 106, .ref 107, .ref 108, .int (v 3), .ref 109, .int (v 4), .ref 110, .ref 111, .int (v 5), .ref 112, .int (v 6), .int (v 7), .int (v 8), .ref 113, .int (v 9), .ref 114, .ref 115, .ref 116, .ref 117]) fX12_layFalls_132 rfl (lt_k hn (by omega)) hO (Nat.le_of_ble_eq_true rfl) rfl rfl rfl dX12_layFalls_25 ?_
    have u0 : Same [87, 91, 92] h (xset h 87 (.inr (11, [.ref 88, .ref 89, .ref 90, .int (v 0), .int (nI 0), .ref 91, .ref 92, .ref 93, .ref 94, .ref 95, .ref 96, .ref 97, .ref 98, .ref 99, .ref 100, .ref 101, .int (v 2), .ref 102, .ref 103, .ref 104, .ref 105, .ref 106, .ref 107, .ref 108, .int (v 3), .ref 109, .int (v 4), .ref 110, .ref 111, .int (v 5), .ref 112, .int (v 6), .int (v 7), .int (v 8), .ref 113, .int (v 9), .ref 114, .ref 115, .ref 116, .ref 117]))) := Same.set Same.rf (by simp)
    have P0 : PQ (xset h 87 (.inr (11, [.ref 88, .ref 89, .ref 90, .int (v 0), .int (nI 0), .ref 91, .ref 92, .ref 93, .ref 94, .ref 95, .ref 96, .ref 97, .ref 98, .ref 99, .ref 100, .ref 101, .int (v 2), .ref 102, .ref 103, .ref 104, .ref 105, .ref 106, .ref 107, .ref 108, .int (v 3), .ref 109, .int (v 4), .ref 110, .ref 111, .int (v 5), .ref 112, .int (v 6), .int (v 7), .int (v 8), .ref 113, .int (v 9), .ref 114, .ref 115, .ref 116, .ref 117]))) v [] := PQ.zero e91 e92 Same.rest (xset_same _ _ _)
    refine AX.aload_n (pc := 28) dX12_layFalls_28 rfl ?_
    refine AX.iload_n (pc := 29) dX12_layFalls_29 rfl ?_
    refine AX.sipush (pc := 30) (v := nI 1000) dX12_layFalls_30 (by decide) ?_
    refine AX.callV (pc := 33) (M2 := M_X12_putFall) (As := [.int (nI 62), .int (nI 1000)]) (rest := []) (c_putFall w (xset h 87 (.inr (11, [.ref 88, .ref 89, .ref 90, .int (v 0), .int (nI 0), .ref 91, .ref 92, .ref 93, .ref 94, .ref 95, .ref 96, .ref 97, .ref 98, .ref 99, .ref 100, .ref 101, .int (v 2), .ref 102, .ref 103, .ref 104, .ref 105, .ref 106, .ref 107, .ref 108, .int (v 3), .ref 109, .int (v 4), .ref 110, .ref 111, .int (v 5), .ref 112, .int (v 6), .int (v 7), .int (v 8), .ref 113, .int (v 9), .ref 114, .ref 115, .ref 116, .ref 117]))) 62 1000 (L := []) (u0.le hn) P0 (show 0 < 5 by decide) (fun p r e => by cases e)) xc_X12_layFalls__X12_putFall gX12_layFalls_X12_putFall (ci := 11) rfl (lt_k hn (by omega)) (xset_same _ _ _) rfl (Nat.le_of_ble_eq_true rfl) dX12_layFalls_33 ?_
    rintro _ h1 ⟨rfl, s1, P1⟩
    have P1 : PQ h1 v [(62, 1000)] := P1
    have u1 : Same [87, 91, 92] h h1 := u0.trans s1
    show AX w M_X12_layFalls 0 0 36 [.ref 87, .int (nI u), .int (nI 62), .int (nI sd), .int (nI rg), .int (nI 0), .null] [] _ _
    refine AX.iload (pc := 36) dX12_layFalls_36 rfl ?_
    refine AX.if_leN (pc := 38) (tgt := 146) dX12_layFalls_38 (by decide) (by decide) (fun hc38 => ?_) (fun q => absurd q (by decide))
    refine AX.iload_n (pc := 146) dX12_layFalls_146 rfl ?_
    refine AX.bipush (pc := 147) (v := nI 61) dX12_layFalls_147 (by decide) ?_
    refine AX.icmp_neN (pc := 149) (tgt := 185) dX12_layFalls_149 (by decide) (by decide) (by decide) (fun hc149 => ?_) (fun q => absurd q (by decide))
    refine AX.aload_n (pc := 185) dX12_layFalls_185 rfl ?_
    refine AX.bipush (pc := 186) (v := nI 61) dX12_layFalls_186 (by decide) ?_
    refine AX.iconst (pc := 188) (v := nI 2) dX12_layFalls_188 (by decide) ?_
    refine AX.iload_n (pc := 189) dX12_layFalls_189 rfl ?_
    refine AX.imulN (pc := 190) (c := 2 * sd) dX12_layFalls_190 rfl ?_
    refine AX.iconst (pc := 191) (v := nI 2) dX12_layFalls_191 (by decide) ?_
    refine AX.iload (pc := 192) dX12_layFalls_192 rfl ?_
    refine AX.imulN (pc := 194) (c := 2 * rg) dX12_layFalls_194 rfl ?_
    refine AX.iaddN (pc := 195) (c := 2 * sd + (2 * rg)) dX12_layFalls_195 rfl ?_
    refine AX.callV (pc := 196) (M2 := M_X12_putFall) (As := [.int (nI 61), .int (nI (2 * sd + (2 * rg)))]) (rest := []) (c_putFall w (h1) 61 (2 * sd + (2 * rg)) (L := [(62, 1000)]) (u1.le hn) P1 (show 1 < 5 by decide) (fun p r e => by injection e with e1 e2; subst e1; show 2 * sd + (2 * rg) ≤ 1000; omega)) xc_X12_layFalls__X12_putFall gX12_layFalls_X12_putFall (ci := 11) rfl (lt_k (u1.le hn) (by omega)) P1.1 rfl (Nat.le_of_ble_eq_true rfl) dX12_layFalls_196 ?_
    rintro _ h2 ⟨rfl, s2, P2⟩
    have P2 : PQ h2 v [(62, 1000 - (2 * sd + (2 * rg))), (61, 2 * sd + (2 * rg))] := P2
    have u2 : Same [87, 91, 92] h h2 := u1.trans s2
    show AX w M_X12_layFalls 0 0 199 [.ref 87, .int (nI u), .int (nI 62), .int (nI sd), .int (nI rg), .int (nI 0), .null] [] _ _
    refine AX.vret (pc := 199) dX12_layFalls_199 rfl (by decide) (by decide) ?_
    have hf := P2.fl hl.1 hl.2
    exact ⟨rfl, u2, hf.1, hf.2⟩
