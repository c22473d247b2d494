/-! ===== THE REFERENCE: all that its cells hold ===== -/
def RT (h : XH) : Prop := ∃ (f1 f2 : Nat → UInt64) (st rf : Nat → Int32), h.2 102 = .inl (2, 625, .inr (.inr (.inr (.inl f1)))) ∧ h.2 103 = .inl (2, 625, .inr (.inr (.inr (.inl f2)))) ∧ h.2 104 = .inl (1, 625, .inl st) ∧ h.2 105 = .inl (0, 5, .inl rf) ∧
  ∀ (o : Nat) (a b : Nat × Nat), o ≤ 2 → a.1 ≤ 200 → a.2 ≤ 200 → b.1 ≤ 200 → b.2 ≤ 200 → rf 0 = nI a.1 → rf 1 = nI b.1 → rf 2 = nI a.2 → rf 3 = nI b.2 → rf 4 = nI o →
    ∀ r q, leN o ≤ r → r ≤ 24 → leN o ≤ q → q ≤ 24 → f1 (25 * r + q) = (rcV o (hh a b) r q).1 ∧ f2 (25 * r + q) = (rcV o (hh a b) r q).2.1 ∧ st (25 * r + q) = bI (rcV o (hh a b) r q).2.2.2.2
theorem RT.same {S : List Nat} {h h' : XH} (H : RT h) (hs : Same S h h') (h1 : 102 ∉ S) (h2 : 103 ∉ S) (h3 : 104 ∉ S) (h4 : 105 ∉ S) : RT h' := by
  obtain ⟨f1, f2, st, rf, e1, e2, e3, e4, q⟩ := H
  exact ⟨f1, f2, st, rf, hs.at h1 e1, hs.at h2 e2, hs.at h3 e3, hs.at h4 e4, q⟩
def RMq (h : XH) (k : RKs) : Prop := ∃ f1 f2 f3 f4 : Nat → Int32, h.2 114 = .inl (1, 4, .inl f1) ∧ h.2 115 = .inl (0, 4, .inl f2) ∧ h.2 116 = .inl (0, 4, .inl f3) ∧ h.2 117 = .inl (0, 80, .inl f4) ∧
  ∀ x, x < 4 → match k x with
    | none => f1 x = bI false
    | some (kd, n, g) => f1 x = bI true ∧ f2 x = nI kd ∧ f3 x = nI n ∧ ∀ j, j < 20 → f4 (20 * x + j) = g j
theorem RMq.same {S : List Nat} {h h' : XH} {k : RKs} (H : RMq h k) (hs : Same S h h') (h1 : 114 ∉ S) (h2 : 115 ∉ S) (h3 : 116 ∉ S) (h4 : 117 ∉ S) : RMq h' k := by
  obtain ⟨f1, f2, st, rf, e1, e2, e3, e4, q⟩ := H
  exact ⟨f1, f2, st, rf, hs.at h1 e1, hs.at h2 e2, hs.at h3 e3, hs.at h4 e4, q⟩
/-- the reference's cells -/
def mdS : List Nat := (List.range 31).map (fun k => 87 + k)
theorem mdS_in {S : List Nat} {h h' : XH} (hs : Same S h h') (hS : ∀ k, k ∈ S → 87 ≤ k ∧ k < 118) : Same mdS h h' := hs.wide (fun k hk => by
  obtain ⟨h1, h2⟩ := hS k hk
  exact List.mem_map.mpr ⟨k - 87, List.mem_range.mpr (by omega), by omega⟩)
def MS (h : XH) (s : SS) : Prop := 118 ≤ h.1 ∧ (∃ v, MO h v ∧ v 0 = bI (sb s) ∧ v 5 = nI (sX s).length ∧ v 6 = nI (sT s).length) ∧ iA h 88 20 (fun k => nI (rgN k)) ∧ iA h 89 19 (sq s) ∧ (∃ f : Nat → Int32, h.2 90 = .inl (0, 19, .inl f) ∧ (sb s = true → ∀ j, j < 19 → f j = sp_ s j)) ∧ FX h ∧ DT h ∧ (∃ f : Nat → UInt64, h.2 101 = .inl (2, 724, .inr (.inr (.inr (.inl f))))) ∧ RT h ∧ (∃ f : Nat → Int32, h.2 106 = .inl (0, 126, .inl f)) ∧ (∃ f : Nat → Int32, h.2 107 = .inl (0, 630, .inl f)) ∧ (∃ f : Nat → Int32, h.2 108 = .inl (0, 630, .inl f)) ∧ (∃ f : Nat → Int32, h.2 109 = .inl (0, 3, .inl f)) ∧ (∃ f : Nat → Int32, h.2 110 = .inl (0, 181, .inl f)) ∧ (∃ f : Nat → Int32, h.2 111 = .inl (0, 20, .inl f) ∧ (∀ j, j < (sX s).length → f j = nI ((sX s).getD j 0)) ∧ (sX s).length ≤ 12) ∧ (∃ f : Nat → Int32, h.2 112 = .inl (0, 60, .inl f) ∧ (∀ j, j < (sT s).length → f j = nI ((sT s).getD j 0)) ∧ (sT s).length ≤ 60) ∧ (∃ f : Nat → Int32, h.2 113 = .inl (0, 20, .inl f)) ∧ RMq h (sk s)
theorem MS.hn {h : XH} {s : SS} (c : MS h s) : 118 ≤ h.1 := c.1
theorem MS.ob {h : XH} {s : SS} (c : MS h s) : (∃ v, MO h v ∧ v 0 = bI (sb s) ∧ v 5 = nI (sX s).length ∧ v 6 = nI (sT s).length) := c.2.1
theorem MS.rg {h : XH} {s : SS} (c : MS h s) : iA h 88 20 (fun k => nI (rgN k)) := c.2.2.1
theorem MS.nw {h : XH} {s : SS} (c : MS h s) : iA h 89 19 (sq s) := c.2.2.2.1
theorem MS.im {h : XH} {s : SS} (c : MS h s) : (∃ f : Nat → Int32, h.2 90 = .inl (0, 19, .inl f) ∧ (sb s = true → ∀ j, j < 19 → f j = sp_ s j)) := c.2.2.2.2.1
theorem MS.fx {h : XH} {s : SS} (c : MS h s) : FX h := c.2.2.2.2.2.1
theorem MS.dt {h : XH} {s : SS} (c : MS h s) : DT h := c.2.2.2.2.2.2.1
theorem MS.ch {h : XH} {s : SS} (c : MS h s) : (∃ f : Nat → UInt64, h.2 101 = .inl (2, 724, .inr (.inr (.inr (.inl f))))) := c.2.2.2.2.2.2.2.1
theorem MS.rt {h : XH} {s : SS} (c : MS h s) : RT h := c.2.2.2.2.2.2.2.2.1
theorem MS.b1 {h : XH} {s : SS} (c : MS h s) : (∃ f : Nat → Int32, h.2 106 = .inl (0, 126, .inl f)) := c.2.2.2.2.2.2.2.2.2.1
theorem MS.b2 {h : XH} {s : SS} (c : MS h s) : (∃ f : Nat → Int32, h.2 107 = .inl (0, 630, .inl f)) := c.2.2.2.2.2.2.2.2.2.2.1
theorem MS.b3 {h : XH} {s : SS} (c : MS h s) : (∃ f : Nat → Int32, h.2 108 = .inl (0, 630, .inl f)) := c.2.2.2.2.2.2.2.2.2.2.2.1
theorem MS.pa {h : XH} {s : SS} (c : MS h s) : (∃ f : Nat → Int32, h.2 109 = .inl (0, 3, .inl f)) := c.2.2.2.2.2.2.2.2.2.2.2.2.1
theorem MS.en {h : XH} {s : SS} (c : MS h s) : (∃ f : Nat → Int32, h.2 110 = .inl (0, 181, .inl f)) := c.2.2.2.2.2.2.2.2.2.2.2.2.2.1
theorem MS.pp {h : XH} {s : SS} (c : MS h s) : (∃ f : Nat → Int32, h.2 111 = .inl (0, 20, .inl f) ∧ (∀ j, j < (sX s).length → f j = nI ((sX s).getD j 0)) ∧ (sX s).length ≤ 12) := c.2.2.2.2.2.2.2.2.2.2.2.2.2.2.1
theorem MS.tp {h : XH} {s : SS} (c : MS h s) : (∃ f : Nat → Int32, h.2 112 = .inl (0, 60, .inl f) ∧ (∀ j, j < (sT s).length → f j = nI ((sT s).getD j 0)) ∧ (sT s).length ≤ 60) := c.2.2.2.2.2.2.2.2.2.2.2.2.2.2.2.1
theorem MS.td {h : XH} {s : SS} (c : MS h s) : (∃ f : Nat → Int32, h.2 113 = .inl (0, 20, .inl f)) := c.2.2.2.2.2.2.2.2.2.2.2.2.2.2.2.2.1
theorem MS.rk {h : XH} {s : SS} (c : MS h s) : RMq h (sk s) := c.2.2.2.2.2.2.2.2.2.2.2.2.2.2.2.2.2
theorem MS.far {h h' : XH} {s : SS} (c : MS h s) {S : List Nat} (hs : Same S h h') (hS : ∀ k, k ∈ S → k < 87 ∨ 118 ≤ k) : MS h' s := by
  have n : ∀ k, (87 ≤ k ∧ k < 118) → k ∉ S := fun k z q => by have := hS k q; omega
  have x_hn : 118 ≤ h'.1 := hs.le c.hn
  have x_ob : (∃ v, MO h' v ∧ v 0 = bI (sb s) ∧ v 5 = nI (sX s).length ∧ v 6 = nI (sT s).length) := c.ob.imp (fun _ z => ⟨z.1.same hs (n _ (by omega)), z.2⟩)
  have x_rg : iA h' 88 20 (fun k => nI (rgN k)) := c.rg.same hs (n _ (by omega))
  have x_nw : iA h' 89 19 (sq s) := c.nw.same hs (n _ (by omega))
  have x_im : (∃ f : Nat → Int32, h'.2 90 = .inl (0, 19, .inl f) ∧ (sb s = true → ∀ j, j < 19 → f j = sp_ s j)) := c.im.imp (fun _ z => ⟨hs.at (n _ (by omega)) z.1, z.2⟩)
  have x_fx : FX h' := c.fx.same hs (n _ (by omega)) (n _ (by omega)) (n _ (by omega)) (n _ (by omega)) (n _ (by omega))
  have x_dt : DT h' := c.dt.same hs (n _ (by omega)) (n _ (by omega)) (n _ (by omega)) (n _ (by omega)) (n _ (by omega))
  have x_ch : (∃ f : Nat → UInt64, h'.2 101 = .inl (2, 724, .inr (.inr (.inr (.inl f))))) := c.ch.imp (fun _ z => hs.at (n _ (by omega)) z)
  have x_rt : RT h' := c.rt.same hs (n _ (by omega)) (n _ (by omega)) (n _ (by omega)) (n _ (by omega))
  have x_b1 : (∃ f : Nat → Int32, h'.2 106 = .inl (0, 126, .inl f)) := c.b1.imp (fun _ z => hs.at (n _ (by omega)) z)
  have x_b2 : (∃ f : Nat → Int32, h'.2 107 = .inl (0, 630, .inl f)) := c.b2.imp (fun _ z => hs.at (n _ (by omega)) z)
  have x_b3 : (∃ f : Nat → Int32, h'.2 108 = .inl (0, 630, .inl f)) := c.b3.imp (fun _ z => hs.at (n _ (by omega)) z)
  have x_pa : (∃ f : Nat → Int32, h'.2 109 = .inl (0, 3, .inl f)) := c.pa.imp (fun _ z => hs.at (n _ (by omega)) z)
  have x_en : (∃ f : Nat → Int32, h'.2 110 = .inl (0, 181, .inl f)) := c.en.imp (fun _ z => hs.at (n _ (by omega)) z)
  have x_pp : (∃ f : Nat → Int32, h'.2 111 = .inl (0, 20, .inl f) ∧ (∀ j, j < (sX s).length → f j = nI ((sX s).getD j 0)) ∧ (sX s).length ≤ 12) := c.pp.imp (fun _ z => ⟨hs.at (n _ (by omega)) z.1, z.2⟩)
  have x_tp : (∃ f : Nat → Int32, h'.2 112 = .inl (0, 60, .inl f) ∧ (∀ j, j < (sT s).length → f j = nI ((sT s).getD j 0)) ∧ (sT s).length ≤ 60) := c.tp.imp (fun _ z => ⟨hs.at (n _ (by omega)) z.1, z.2⟩)
  have x_td : (∃ f : Nat → Int32, h'.2 113 = .inl (0, 20, .inl f)) := c.td.imp (fun _ z => hs.at (n _ (by omega)) z)
  have x_rk : RMq h' (sk s) := c.rk.same hs (n _ (by omega)) (n _ (by omega)) (n _ (by omega)) (n _ (by omega))
  exact ⟨x_hn, x_ob, x_rg, x_nw, x_im, x_fx, x_dt, x_ch, x_rt, x_b1, x_b2, x_b3, x_pa, x_en, x_pp, x_tp, x_td, x_rk⟩
theorem MS.fall {h h' : XH} {s : SS} (c : MS h s) (hs : Same [87, 91, 92] h h') (ob : (∃ v, MO h' v ∧ v 0 = bI (sb s) ∧ v 5 = nI (sX s).length ∧ v 6 = nI (sT s).length)) (fx : FX h') : MS h' s := by
  have x_hn : 118 ≤ h'.1 := hs.le c.hn
  have x_rg : iA h' 88 20 (fun k => nI (rgN k)) := c.rg.same hs (by simp)
  have x_nw : iA h' 89 19 (sq s) := c.nw.same hs (by simp)
  have x_im : (∃ f : Nat → Int32, h'.2 90 = .inl (0, 19, .inl f) ∧ (sb s = true → ∀ j, j < 19 → f j = sp_ s j)) := c.im.imp (fun _ z => ⟨hs.at (by simp) z.1, z.2⟩)
  have x_dt : DT h' := c.dt.same hs (by simp) (by simp) (by simp) (by simp) (by simp)
  have x_ch : (∃ f : Nat → UInt64, h'.2 101 = .inl (2, 724, .inr (.inr (.inr (.inl f))))) := c.ch.imp (fun _ z => hs.at (by simp) z)
  have x_rt : RT h' := c.rt.same hs (by simp) (by simp) (by simp) (by simp)
  have x_b1 : (∃ f : Nat → Int32, h'.2 106 = .inl (0, 126, .inl f)) := c.b1.imp (fun _ z => hs.at (by simp) z)
  have x_b2 : (∃ f : Nat → Int32, h'.2 107 = .inl (0, 630, .inl f)) := c.b2.imp (fun _ z => hs.at (by simp) z)
  have x_b3 : (∃ f : Nat → Int32, h'.2 108 = .inl (0, 630, .inl f)) := c.b3.imp (fun _ z => hs.at (by simp) z)
  have x_pa : (∃ f : Nat → Int32, h'.2 109 = .inl (0, 3, .inl f)) := c.pa.imp (fun _ z => hs.at (by simp) z)
  have x_en : (∃ f : Nat → Int32, h'.2 110 = .inl (0, 181, .inl f)) := c.en.imp (fun _ z => hs.at (by simp) z)
  have x_pp : (∃ f : Nat → Int32, h'.2 111 = .inl (0, 20, .inl f) ∧ (∀ j, j < (sX s).length → f j = nI ((sX s).getD j 0)) ∧ (sX s).length ≤ 12) := c.pp.imp (fun _ z => ⟨hs.at (by simp) z.1, z.2⟩)
  have x_tp : (∃ f : Nat → Int32, h'.2 112 = .inl (0, 60, .inl f) ∧ (∀ j, j < (sT s).length → f j = nI ((sT s).getD j 0)) ∧ (sT s).length ≤ 60) := c.tp.imp (fun _ z => ⟨hs.at (by simp) z.1, z.2⟩)
  have x_td : (∃ f : Nat → Int32, h'.2 113 = .inl (0, 20, .inl f)) := c.td.imp (fun _ z => hs.at (by simp) z)
  have x_rk : RMq h' (sk s) := c.rk.same hs (by simp) (by simp) (by simp) (by simp)
  exact ⟨x_hn, ob, x_rg, x_nw, x_im, fx, x_dt, x_ch, x_rt, x_b1, x_b2, x_b3, x_pa, x_en, x_pp, x_tp, x_td, x_rk⟩
theorem MS.darts {h h' : XH} {s : SS} (c : MS h s) (hs : Same [87, 91, 92, 93, 94, 95, 96, 97, 98, 99, 100] h h') (ob : (∃ v, MO h' v ∧ v 0 = bI (sb s) ∧ v 5 = nI (sX s).length ∧ v 6 = nI (sT s).length)) (fx : FX h') (dt : DT h') : MS h' s := by
  have x_hn : 118 ≤ h'.1 := hs.le c.hn
  have x_rg : iA h' 88 20 (fun k => nI (rgN k)) := c.rg.same hs (by simp)
  have x_nw : iA h' 89 19 (sq s) := c.nw.same hs (by simp)
  have x_im : (∃ f : Nat → Int32, h'.2 90 = .inl (0, 19, .inl f) ∧ (sb s = true → ∀ j, j < 19 → f j = sp_ s j)) := c.im.imp (fun _ z => ⟨hs.at (by simp) z.1, z.2⟩)
  have x_ch : (∃ f : Nat → UInt64, h'.2 101 = .inl (2, 724, .inr (.inr (.inr (.inl f))))) := c.ch.imp (fun _ z => hs.at (by simp) z)
  have x_rt : RT h' := c.rt.same hs (by simp) (by simp) (by simp) (by simp)
  have x_b1 : (∃ f : Nat → Int32, h'.2 106 = .inl (0, 126, .inl f)) := c.b1.imp (fun _ z => hs.at (by simp) z)
  have x_b2 : (∃ f : Nat → Int32, h'.2 107 = .inl (0, 630, .inl f)) := c.b2.imp (fun _ z => hs.at (by simp) z)
  have x_b3 : (∃ f : Nat → Int32, h'.2 108 = .inl (0, 630, .inl f)) := c.b3.imp (fun _ z => hs.at (by simp) z)
  have x_pa : (∃ f : Nat → Int32, h'.2 109 = .inl (0, 3, .inl f)) := c.pa.imp (fun _ z => hs.at (by simp) z)
  have x_en : (∃ f : Nat → Int32, h'.2 110 = .inl (0, 181, .inl f)) := c.en.imp (fun _ z => hs.at (by simp) z)
  have x_pp : (∃ f : Nat → Int32, h'.2 111 = .inl (0, 20, .inl f) ∧ (∀ j, j < (sX s).length → f j = nI ((sX s).getD j 0)) ∧ (sX s).length ≤ 12) := c.pp.imp (fun _ z => ⟨hs.at (by simp) z.1, z.2⟩)
  have x_tp : (∃ f : Nat → Int32, h'.2 112 = .inl (0, 60, .inl f) ∧ (∀ j, j < (sT s).length → f j = nI ((sT s).getD j 0)) ∧ (sT s).length ≤ 60) := c.tp.imp (fun _ z => ⟨hs.at (by simp) z.1, z.2⟩)
  have x_td : (∃ f : Nat → Int32, h'.2 113 = .inl (0, 20, .inl f)) := c.td.imp (fun _ z => hs.at (by simp) z)
  have x_rk : RMq h' (sk s) := c.rk.same hs (by simp) (by simp) (by simp) (by simp)
  exact ⟨x_hn, ob, x_rg, x_nw, x_im, fx, dt, x_ch, x_rt, x_b1, x_b2, x_b3, x_pa, x_en, x_pp, x_tp, x_td, x_rk⟩
theorem MS.chan {h h' : XH} {s : SS} (c : MS h s) (hs : Same [87, 91, 92, 98, 99, 100, 101] h h') (ob : (∃ v, MO h' v ∧ v 0 = bI (sb s) ∧ v 5 = nI (sX s).length ∧ v 6 = nI (sT s).length)) (fx : FX h') (ch : ∃ f : Nat → UInt64, h'.2 101 = .inl (2, 724, .inr (.inr (.inr (.inl f))))) : MS h' s := by
  have x_hn : 118 ≤ h'.1 := hs.le c.hn
  have x_rg : iA h' 88 20 (fun k => nI (rgN k)) := c.rg.same hs (by simp)
  have x_nw : iA h' 89 19 (sq s) := c.nw.same hs (by simp)
  have x_im : (∃ f : Nat → Int32, h'.2 90 = .inl (0, 19, .inl f) ∧ (sb s = true → ∀ j, j < 19 → f j = sp_ s j)) := c.im.imp (fun _ z => ⟨hs.at (by simp) z.1, z.2⟩)
  have x_dt : DT h' := c.dt.same hs (by simp) (by simp) (by simp) (by simp) (by simp)
  have x_rt : RT h' := c.rt.same hs (by simp) (by simp) (by simp) (by simp)
  have x_b1 : (∃ f : Nat → Int32, h'.2 106 = .inl (0, 126, .inl f)) := c.b1.imp (fun _ z => hs.at (by simp) z)
  have x_b2 : (∃ f : Nat → Int32, h'.2 107 = .inl (0, 630, .inl f)) := c.b2.imp (fun _ z => hs.at (by simp) z)
  have x_b3 : (∃ f : Nat → Int32, h'.2 108 = .inl (0, 630, .inl f)) := c.b3.imp (fun _ z => hs.at (by simp) z)
  have x_pa : (∃ f : Nat → Int32, h'.2 109 = .inl (0, 3, .inl f)) := c.pa.imp (fun _ z => hs.at (by simp) z)
  have x_en : (∃ f : Nat → Int32, h'.2 110 = .inl (0, 181, .inl f)) := c.en.imp (fun _ z => hs.at (by simp) z)
  have x_pp : (∃ f : Nat → Int32, h'.2 111 = .inl (0, 20, .inl f) ∧ (∀ j, j < (sX s).length → f j = nI ((sX s).getD j 0)) ∧ (sX s).length ≤ 12) := c.pp.imp (fun _ z => ⟨hs.at (by simp) z.1, z.2⟩)
  have x_tp : (∃ f : Nat → Int32, h'.2 112 = .inl (0, 60, .inl f) ∧ (∀ j, j < (sT s).length → f j = nI ((sT s).getD j 0)) ∧ (sT s).length ≤ 60) := c.tp.imp (fun _ z => ⟨hs.at (by simp) z.1, z.2⟩)
  have x_td : (∃ f : Nat → Int32, h'.2 113 = .inl (0, 20, .inl f)) := c.td.imp (fun _ z => hs.at (by simp) z)
  have x_rk : RMq h' (sk s) := c.rk.same hs (by simp) (by simp) (by simp) (by simp)
  exact ⟨x_hn, ob, x_rg, x_nw, x_im, fx, x_dt, ch, x_rt, x_b1, x_b2, x_b3, x_pa, x_en, x_pp, x_tp, x_td, x_rk⟩
theorem MS.now {h h' : XH} {s : SS} (c : MS h s) {q : Nat → Int32} (hs : Same [89] h h') (nw : iA h' 89 19 q) : MS h' (wq s q) := by
  have x_hn : 118 ≤ h'.1 := hs.le c.hn
  have x_ob : (∃ v, MO h' v ∧ v 0 = bI (sb s) ∧ v 5 = nI (sX s).length ∧ v 6 = nI (sT s).length) := c.ob.imp (fun _ z => ⟨z.1.same hs (by simp), z.2⟩)
  have x_rg : iA h' 88 20 (fun k => nI (rgN k)) := c.rg.same hs (by simp)
  have x_im : (∃ f : Nat → Int32, h'.2 90 = .inl (0, 19, .inl f) ∧ (sb s = true → ∀ j, j < 19 → f j = sp_ s j)) := c.im.imp (fun _ z => ⟨hs.at (by simp) z.1, z.2⟩)
  have x_fx : FX h' := c.fx.same hs (by simp) (by simp) (by simp) (by simp) (by simp)
  have x_dt : DT h' := c.dt.same hs (by simp) (by simp) (by simp) (by simp) (by simp)
  have x_ch : (∃ f : Nat → UInt64, h'.2 101 = .inl (2, 724, .inr (.inr (.inr (.inl f))))) := c.ch.imp (fun _ z => hs.at (by simp) z)
  have x_rt : RT h' := c.rt.same hs (by simp) (by simp) (by simp) (by simp)
  have x_b1 : (∃ f : Nat → Int32, h'.2 106 = .inl (0, 126, .inl f)) := c.b1.imp (fun _ z => hs.at (by simp) z)
  have x_b2 : (∃ f : Nat → Int32, h'.2 107 = .inl (0, 630, .inl f)) := c.b2.imp (fun _ z => hs.at (by simp) z)
  have x_b3 : (∃ f : Nat → Int32, h'.2 108 = .inl (0, 630, .inl f)) := c.b3.imp (fun _ z => hs.at (by simp) z)
  have x_pa : (∃ f : Nat → Int32, h'.2 109 = .inl (0, 3, .inl f)) := c.pa.imp (fun _ z => hs.at (by simp) z)
  have x_en : (∃ f : Nat → Int32, h'.2 110 = .inl (0, 181, .inl f)) := c.en.imp (fun _ z => hs.at (by simp) z)
  have x_pp : (∃ f : Nat → Int32, h'.2 111 = .inl (0, 20, .inl f) ∧ (∀ j, j < (sX s).length → f j = nI ((sX s).getD j 0)) ∧ (sX s).length ≤ 12) := c.pp.imp (fun _ z => ⟨hs.at (by simp) z.1, z.2⟩)
  have x_tp : (∃ f : Nat → Int32, h'.2 112 = .inl (0, 60, .inl f) ∧ (∀ j, j < (sT s).length → f j = nI ((sT s).getD j 0)) ∧ (sT s).length ≤ 60) := c.tp.imp (fun _ z => ⟨hs.at (by simp) z.1, z.2⟩)
  have x_td : (∃ f : Nat → Int32, h'.2 113 = .inl (0, 20, .inl f)) := c.td.imp (fun _ z => hs.at (by simp) z)
  have x_rk : RMq h' (sk s) := c.rk.same hs (by simp) (by simp) (by simp) (by simp)
  exact ⟨x_hn, x_ob, x_rg, nw, x_im, x_fx, x_dt, x_ch, x_rt, x_b1, x_b2, x_b3, x_pa, x_en, x_pp, x_tp, x_td, x_rk⟩
theorem MS.obv {h' : XH} {s : SS} {v : Nat → Int32} {x : Int32} (hv : v 0 = bI (sb s) ∧ v 5 = nI (sX s).length ∧ v 6 = nI (sT s).length) (k : Nat) (hk : k ≠ 0 ∧ k ≠ 5 ∧ k ≠ 6) (e : MO h' (upd v k x)) : ∃ v, MO h' v ∧ v 0 = bI (sb s) ∧ v 5 = nI (sX s).length ∧ v 6 = nI (sT s).length :=
  ⟨_, e, (upd_off (by omega)).trans hv.1, (upd_off (by omega)).trans hv.2.1, (upd_off (by omega)).trans hv.2.2⟩
theorem c_mLeastS (w : XW) (h : XH) {s : SS} {n o : Nat} {a b : Nat × Nat} (c : MS h s) (l : LV (sq s) n o a b) : CE w M_X12_leastRest [.ref 87] h (some (.int (nI (leN o)))) h := by
  obtain ⟨v, hO, -⟩ := c.ob
  exact c_mLeast w h c.hn hO c.nw l.q12 l.ho
theorem c_mRest (w : XW) (h : XH) {s : SS} {n o : Nat} {a b : Nat × Nat} (c : MS h s) (l : LV (sq s) n o a b) (x : Int32) (top : Nat) (ht : top < 2147483648) : CA w M_X12_isRest [.ref 87, .int x, .int (nI top)] h (fun v' h'' => v' = some (.int (bI (decide (inR (leN o) top x)))) ∧ h'' = h) := by
  refine CA.of (by decide) rfl (fun _ => Nat.le_of_ble_eq_true rfl) ?_
  obtain ⟨v, hO, -⟩ := c.ob
  show AX w M_X12_isRest 0 0 0 [.ref 87, .int x, .int (nI top)] [] h _
  refine AX.iload_n (pc := 0) dX12_isRest_0 rfl ?_
  refine AX.i2l (pc := 1) dX12_isRest_1 ?_
  refine AX.aload_n (pc := 2) dX12_isRest_2 rfl ?_
  refine AX.callV (pc := 3) (M2 := M_X12_leastRest) (As := []) (rest := [.long x.toInt64]) (c_mLeastS w h c l) xc_X12_isRest__X12_leastRest gX12_isRest_X12_leastRest (ci := 11) rfl (lt_k c.hn (by omega)) hO rfl (Nat.le_of_ble_eq_true rfl) dX12_isRest_3 ?_
  rintro _ h9 ⟨rfl, e9⟩
  have e9 := e9.symm
  subst e9
  show AX w M_X12_isRest 0 0 6 [.ref 87, .int x, .int (nI top)] [.int (nI (leN o)), .long x.toInt64] _ _
  refine AX.i2l (pc := 6) dX12_isRest_6 ?_
  refine AX.iload_n (pc := 7) dX12_isRest_7 rfl ?_
  refine AX.i2l (pc := 8) dX12_isRest_8 ?_
  refine AX.callS (pc := 9) (M2 := M_X12_in) (As := [.long x.toInt64, .long ((nI (leN o)).toInt64), .long ((nI top).toInt64)]) (rest := []) (c_in w h (x.toInt64) ((nI (leN o)).toInt64) ((nI top).toInt64)) xc_X12_isRest__X12_in gX12_isRest_X12_in rfl (Nat.le_of_ble_eq_true rfl) dX12_isRest_9 ?_
  rintro _ h9 ⟨rfl, e9⟩
  have e9 := e9.symm
  subst e9
  have hl2 := leN_le o
  rw [decide_eq_decide.mpr (in_iff (x := x) (n64 (leN o) (by omega)) (n64 top ht))]
  show AX w M_X12_isRest 0 0 12 [.ref 87, .int x, .int (nI top)] [.int (bI (decide (inR (leN o) top x)))] _ _
  refine AX.iret (pc := 12) dX12_isRest_12 rfl (bI_nar _) (by decide) (by decide) ?_
  exact ⟨rfl, rfl⟩
