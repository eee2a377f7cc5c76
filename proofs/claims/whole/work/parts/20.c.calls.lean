/-! ===== a call, from Rel to Rel ===== -/
theorem s_row {n : Nat} {σ : Shp} {I : Nat → Nat → Int32} {J : Nat → Nat → Int64} {D : Nat → Nat → UInt64} {R : Nat → Nat → Option Nat} {x1 : Int32} {x2 : Int32} {x3 : Int32} (h : Rel n σ I J D R) (hn : n < 512) : ∃ (σ1 : Shp) (I1 : Nat → Nat → Int32) (R1 : Nat → Nat → Option Nat) (i1 : Int32) (I2 : Nat → Nat → Int32) (i2 : Int32), gX11_row σ I R x1 x2 x3 = some (σ1, I1, R1, i1) ∧ gX12_row I1 x1 x2 x3 = some (I2, i2) ∧ i1 = i2 ∧ Skel σ1 R1 ∧ Rel (n + 1) σ1 I2 J D R1 := by
  have n9 := h.n9 hn
  have z0 := h.rn
  have z1 := h.rs
  obtain ⟨⟨σ1, I1, R1, i1⟩, e1, ⟨I2, i2⟩, e2, ⟨q0, q1, q2⟩⟩ := c_row h.sk n9.2.1 h.sc h.th
  have zz : Sk2 σ I R σ1 I1 R1 := zX11_row (Sk2.rf h.sk) e1
  have wk : Kp [(133, 134), (1000032, 1000033)] I1 I2 := Ag.kp (aX12_row _ e2) rfl
  have kR : Kp [(24, 25)] R R1 := Ag.kp q1.2.2.2.2 rfl
  have up := gr_up h.rn h.rs (show Grow σ σ1 from q2)
  have g0 : RelS (n + 1) σ1 I2 J R1 := ⟨zz.1, up.1, up.2, (zz.frm h.fr (fun j => kR 24 j rfl)), q1.2.1⟩
  have g1 : RelI (n + 1) I2 := ⟨q1.1, (h.pl.kp (Ag.kp q1.2.2.1 rfl)), (h.tr.kp (Ag.kp q1.2.2.1 rfl)), (h.ra.kp (Ag.kp q1.2.2.1 rfl)), (h.ta.kp (Ag.kp q1.2.2.1 rfl)), (h.bo.kp (Ag.kp q1.2.2.1 rfl)), (h.of.kp (Ag.kp q1.2.2.1 rfl)), (h.sa.kp (Ag.kp q1.2.2.1 rfl)), (h.wa.kq (fun k => by rw [wk 133 k rfl]; exact (zz.2.2.2.2 k).1) (by rw [wk 114 32 rfl]; exact (zz.2.2.2.2 32).2)).up⟩
  have g2 : RelJ I2 J D := ⟨(h.st.kp (Ag.kp q1.2.2.1 rfl) Kp.rf), (h.fe.kp (Ag.kp q1.2.2.1 rfl) Kp.rf), (h.pe.kp (Ag.kp q1.2.2.1 rfl) Kp.rf), (h.ho.kp (Ag.kp q1.2.2.1 rfl) Kp.rf Kp.rf), h.pa⟩
  exact ⟨σ1, I1, R1, i1, I2, i2, e1, e2, q0, g0.1, ⟨g0, g1, g2⟩⟩
theorem s_grid {n : Nat} {σ : Shp} {I : Nat → Nat → Int32} {J : Nat → Nat → Int64} {D : Nat → Nat → UInt64} {R : Nat → Nat → Option Nat} {x1 : Int32} {x2 : Int32} {x3 : Int32} {x4 : Int32} {x5 : Int32} (h : Rel n σ I J D R) (hn : n < 512) : ∃ (σ1 : Shp) (I1 : Nat → Nat → Int32) (R1 : Nat → Nat → Option Nat) (i1 : Int32) (I2 : Nat → Nat → Int32) (i2 : Int32), gX11_grid σ I R x1 x2 x3 x4 x5 = some (σ1, I1, R1, i1) ∧ gX12_grid σ1 I1 R1 x1 x2 x3 x4 x5 = some (I2, i2) ∧ i1 = i2 ∧ Skel σ1 R1 ∧ Rel (n + 1) σ1 I2 J D R1 := by
  have n9 := h.n9 hn
  have z0 := h.rn
  have z1 := h.rs
  obtain ⟨⟨σ1, I1, R1, i1⟩, e1, ⟨I2, i2⟩, e2, ⟨q0, q1, q2⟩⟩ := c_grid h.sk n9.1 h.sc h.th
  have zz : Sk2 σ I R σ1 I1 R1 := zX11_grid (Sk2.rf h.sk) e1
  have wk : Kp [(133, 134), (1000032, 1000033)] I1 I2 := Ag.kp (aX12_grid _ e2) rfl
  have kR : Kp [(24, 25)] R R1 := Ag.kp q1.2.2.2.2 rfl
  have up := gr_up h.rn h.rs (show Grow σ σ1 from q2)
  have g0 : RelS (n + 1) σ1 I2 J R1 := ⟨zz.1, up.1, up.2, (zz.frm h.fr (fun j => kR 24 j rfl)), q1.2.1⟩
  have g1 : RelI (n + 1) I2 := ⟨q1.1, (h.pl.kp (Ag.kp q1.2.2.1 rfl)), (h.tr.kp (Ag.kp q1.2.2.1 rfl)), (h.ra.kp (Ag.kp q1.2.2.1 rfl)), (h.ta.kp (Ag.kp q1.2.2.1 rfl)), (h.bo.kp (Ag.kp q1.2.2.1 rfl)), (h.of.kp (Ag.kp q1.2.2.1 rfl)), (h.sa.kp (Ag.kp q1.2.2.1 rfl)), (h.wa.kq (fun k => by rw [wk 133 k rfl]; exact (zz.2.2.2.2 k).1) (by rw [wk 114 32 rfl]; exact (zz.2.2.2.2 32).2)).up⟩
  have g2 : RelJ I2 J D := ⟨(h.st.kp (Ag.kp q1.2.2.1 rfl) Kp.rf), (h.fe.kp (Ag.kp q1.2.2.1 rfl) Kp.rf), (h.pe.kp (Ag.kp q1.2.2.1 rfl) Kp.rf), (h.ho.kp (Ag.kp q1.2.2.1 rfl) Kp.rf Kp.rf), h.pa⟩
  exact ⟨σ1, I1, R1, i1, I2, i2, e1, e2, q0, g0.1, ⟨g0, g1, g2⟩⟩
theorem s_storeys {n : Nat} {σ : Shp} {I : Nat → Nat → Int32} {J : Nat → Nat → Int64} {D : Nat → Nat → UInt64} {R : Nat → Nat → Option Nat} {x1 : Int32} {x2 : Int32} (h : Rel n σ I J D R) (hn : n < 512) : ∃ (σ1 : Shp) (I1 : Nat → Nat → Int32) (R1 : Nat → Nat → Option Nat) (i1 : Int32) (I2 : Nat → Nat → Int32) (i2 : Int32), gX11_storeys σ I R x1 x2 = some (σ1, I1, R1, i1) ∧ gX12_storeys I1 x1 x2 = some (I2, i2) ∧ i1 = i2 ∧ Skel σ1 R1 ∧ Rel (n + 1) σ1 I2 J D R1 := by
  have n9 := h.n9 hn
  have z0 := h.rn
  have z1 := h.rs
  obtain ⟨⟨σ1, I1, R1, i1⟩, e1, ⟨I2, i2⟩, e2, ⟨q0, q1, q2⟩⟩ := c_storeys h.sk n9.2.1 h.sc h.th
  have zz : Sk2 σ I R σ1 I1 R1 := zX11_storeys (Sk2.rf h.sk) e1
  have wk : Kp [(133, 134), (1000032, 1000033)] I1 I2 := Ag.kp (aX12_storeys _ e2) rfl
  have kR : Kp [(24, 25)] R R1 := Ag.kp q1.2.2.2.2 rfl
  have up := gr_up h.rn h.rs (show Grow σ σ1 from q2)
  have g0 : RelS (n + 1) σ1 I2 J R1 := ⟨zz.1, up.1, up.2, (zz.frm h.fr (fun j => kR 24 j rfl)), q1.2.1⟩
  have g1 : RelI (n + 1) I2 := ⟨q1.1, (h.pl.kp (Ag.kp q1.2.2.1 rfl)), (h.tr.kp (Ag.kp q1.2.2.1 rfl)), (h.ra.kp (Ag.kp q1.2.2.1 rfl)), (h.ta.kp (Ag.kp q1.2.2.1 rfl)), (h.bo.kp (Ag.kp q1.2.2.1 rfl)), (h.of.kp (Ag.kp q1.2.2.1 rfl)), (h.sa.kp (Ag.kp q1.2.2.1 rfl)), (h.wa.kq (fun k => by rw [wk 133 k rfl]; exact (zz.2.2.2.2 k).1) (by rw [wk 114 32 rfl]; exact (zz.2.2.2.2 32).2)).up⟩
  have g2 : RelJ I2 J D := ⟨(h.st.kp (Ag.kp q1.2.2.1 rfl) Kp.rf), (h.fe.kp (Ag.kp q1.2.2.1 rfl) Kp.rf), (h.pe.kp (Ag.kp q1.2.2.1 rfl) Kp.rf), (h.ho.kp (Ag.kp q1.2.2.1 rfl) Kp.rf Kp.rf), h.pa⟩
  exact ⟨σ1, I1, R1, i1, I2, i2, e1, e2, q0, g0.1, ⟨g0, g1, g2⟩⟩
theorem s_share {n : Nat} {σ : Shp} {I : Nat → Nat → Int32} {J : Nat → Nat → Int64} {D : Nat → Nat → UInt64} {R : Nat → Nat → Option Nat} {x1 : Int32} {x2 : Int32} (h : Rel n σ I J D R) (hn : n < 512) : ∃ (R1 : Nat → Nat → Option Nat) (i1 : Int32) (I2 : Nat → Nat → Int32) (i2 : Int32), gX11_share σ R x1 x2 = some (R1, i1) ∧ gX12_share σ I R1 x1 x2 = some (I2, i2) ∧ i1 = i2 ∧ Skel σ R1 ∧ Rel (n + 1) σ I2 J D R1 := by
  have n9 := h.n9 hn
  have z0 := h.rn
  have z1 := h.rs
  obtain ⟨⟨R1, i1⟩, e1, ⟨I2, i2⟩, e2, ⟨q0, q1⟩⟩ := c_share h.sk n9.2.2.1 h.sc h.th
  have zz : Sk2 σ I R σ I R1 := zX11_share (Sk2.rf h.sk) e1
  have wk : Kp [(133, 134), (1000032, 1000033)] I I2 := Ag.kp (aX12_share _ e2) rfl
  have kR : Kp [(24, 25)] R R1 := Ag.kp q1.2.2.2.2 rfl
  have g0 : RelS (n + 1) σ I2 J R1 := ⟨zz.1, (by omega), (by omega), (zz.frm h.fr (fun j => kR 24 j rfl)), q1.2.1⟩
  have g1 : RelI (n + 1) I2 := ⟨q1.1, (h.pl.kp (Ag.kp q1.2.2.1 rfl)), (h.tr.kp (Ag.kp q1.2.2.1 rfl)), (h.ra.kp (Ag.kp q1.2.2.1 rfl)), (h.ta.kp (Ag.kp q1.2.2.1 rfl)), (h.bo.kp (Ag.kp q1.2.2.1 rfl)), (h.of.kp (Ag.kp q1.2.2.1 rfl)), (h.sa.kp (Ag.kp q1.2.2.1 rfl)), (h.wa.kp wk).up⟩
  have g2 : RelJ I2 J D := ⟨(h.st.kp (Ag.kp q1.2.2.1 rfl) Kp.rf), (h.fe.kp (Ag.kp q1.2.2.1 rfl) Kp.rf), (h.pe.kp (Ag.kp q1.2.2.1 rfl) Kp.rf), (h.ho.kp (Ag.kp q1.2.2.1 rfl) Kp.rf Kp.rf), h.pa⟩
  exact ⟨R1, i1, I2, i2, e1, e2, q0, g0.1, ⟨g0, g1, g2⟩⟩
theorem s_form {n : Nat} {σ : Shp} {I : Nat → Nat → Int32} {J : Nat → Nat → Int64} {D : Nat → Nat → UInt64} {R : Nat → Nat → Option Nat} {x1 : Int32} (h : Rel n σ I J D R) (hn : n < 512) : ∃ (i1 : Int32) (i2 : Int32), gX11_form σ I R x1 = some i1 ∧ gX12_form I x1 = some i2 ∧ i1 = i2 ∧ Skel σ R ∧ Rel (n + 1) σ I J D R := by
  have n9 := h.n9 hn
  have z0 := h.rn
  have z1 := h.rs
  obtain ⟨i1, e1, i2, e2, q0⟩ := c_form h.th
  exact ⟨i1, i2, e1, e2, q0, h.sk, h.up⟩
theorem s_is {n : Nat} {σ : Shp} {I : Nat → Nat → Int32} {J : Nat → Nat → Int64} {D : Nat → Nat → UInt64} {R : Nat → Nat → Option Nat} {x1 : Int32} {x2 : Int32} (h : Rel n σ I J D R) (hn : n < 512) : ∃ (i1 : Int32) (i2 : Int32), gX11_is σ I R x1 x2 = some i1 ∧ gX12_is σ I R x1 x2 = some i2 ∧ i1 = i2 ∧ Skel σ R ∧ Rel (n + 1) σ I J D R := by
  have n9 := h.n9 hn
  have z0 := h.rn
  have z1 := h.rs
  obtain ⟨i1, e1, i2, e2, q0⟩ := c_is h.th
  exact ⟨i1, i2, e1, e2, q0, h.sk, h.up⟩
theorem s_get {n : Nat} {σ : Shp} {I : Nat → Nat → Int32} {J : Nat → Nat → Int64} {D : Nat → Nat → UInt64} {R : Nat → Nat → Option Nat} {x1 : Int32} {x2 : Int32} {x3 : Int32} (h : Rel n σ I J D R) (hn : n < 512) : ∃ (I1 : Nat → Nat → Int32) (j1 : Int64) (I2 : Nat → Nat → Int32) (j2 : Int64), gX11_get σ I J R x1 x2 x3 = some (I1, j1) ∧ gX12_get I1 J x1 x2 x3 = some (I2, j2) ∧ j1 = j2 ∧ Skel σ R ∧ Rel (n + 1) σ I2 J D R := by
  have n9 := h.n9 hn
  have z0 := h.rn
  have z1 := h.rs
  obtain ⟨⟨I1, j1⟩, e1, ⟨I2, j2⟩, e2, ⟨q0, q1⟩⟩ := c_get h.sk n9.2.2.1 h.sc h.th
  have zz : Sk2 σ I R σ I1 R := zX11_get (Sk2.rf h.sk) e1
  have wk : Kp [(133, 134), (1000032, 1000033)] I1 I2 := Ag.kp (aX12_get _ e2) rfl
  have g0 : RelS (n + 1) σ I2 J R := ⟨h.sk, (by omega), (by omega), h.fr, q1.2.1⟩
  have g1 : RelI (n + 1) I2 := ⟨q1.1, (h.pl.kp (Ag.kp q1.2.2.1 rfl)), (h.tr.kp (Ag.kp q1.2.2.1 rfl)), (h.ra.kp (Ag.kp q1.2.2.1 rfl)), (h.ta.kp (Ag.kp q1.2.2.1 rfl)), (h.bo.kp (Ag.kp q1.2.2.1 rfl)), (h.of.kp (Ag.kp q1.2.2.1 rfl)), (h.sa.kp (Ag.kp q1.2.2.1 rfl)), (h.wa.kq (fun k => by rw [wk 133 k rfl]; exact (zz.2.2.2.2 k).1) (by rw [wk 114 32 rfl]; exact (zz.2.2.2.2 32).2)).up⟩
  have g2 : RelJ I2 J D := ⟨(h.st.kp (Ag.kp q1.2.2.1 rfl) Kp.rf), (h.fe.kp (Ag.kp q1.2.2.1 rfl) Kp.rf), (h.pe.kp (Ag.kp q1.2.2.1 rfl) Kp.rf), (h.ho.kp (Ag.kp q1.2.2.1 rfl) Kp.rf Kp.rf), h.pa⟩
  exact ⟨I1, j1, I2, j2, e1, e2, q0, g0.1, ⟨g0, g1, g2⟩⟩
theorem s_put {n : Nat} {σ : Shp} {I : Nat → Nat → Int32} {J : Nat → Nat → Int64} {D : Nat → Nat → UInt64} {R : Nat → Nat → Option Nat} {x1 : Int32} {x2 : Int32} {x3 : Int32} {x4 : Int64} (h : Rel n σ I J D R) (hn : n < 512) : ∃ (I1 : Nat → Nat → Int32) (J1 : Nat → Nat → Int64) (i1 : Int32) (I2 : Nat → Nat → Int32) (J2 : Nat → Nat → Int64) (i2 : Int32), gX11_put σ I J R x1 x2 x3 x4 = some (I1, J1, i1) ∧ gX12_put I1 J1 x1 x2 x3 x4 = some (I2, J2, i2) ∧ i1 = i2 ∧ Skel σ R ∧ Rel (n + 1) σ I2 J2 D R := by
  have n9 := h.n9 hn
  have z0 := h.rn
  have z1 := h.rs
  obtain ⟨⟨I1, J1, i1⟩, e1, ⟨I2, J2, i2⟩, e2, ⟨q0, q1⟩⟩ := c_put h.sk n9.2.2.1 h.sc h.th
  have zz : Sk2 σ I R σ I1 R := zX11_put (Sk2.rf h.sk) e1
  have wk : Kp [(133, 134), (1000032, 1000033)] I1 I2 := Ag.kp (aX12_put _ e2).1 rfl
  have g0 : RelS (n + 1) σ I2 J2 R := ⟨h.sk, (by omega), (by omega), h.fr, q1.2.1⟩
  have g1 : RelI (n + 1) I2 := ⟨q1.1, (h.pl.kp (Ag.kp q1.2.2.1 rfl)), (h.tr.kp (Ag.kp q1.2.2.1 rfl)), (h.ra.kp (Ag.kp q1.2.2.1 rfl)), (h.ta.kp (Ag.kp q1.2.2.1 rfl)), (h.bo.kp (Ag.kp q1.2.2.1 rfl)), (h.of.kp (Ag.kp q1.2.2.1 rfl)), (h.sa.kp (Ag.kp q1.2.2.1 rfl)), (h.wa.kq (fun k => by rw [wk 133 k rfl]; exact (zz.2.2.2.2 k).1) (by rw [wk 114 32 rfl]; exact (zz.2.2.2.2 32).2)).up⟩
  have g2 : RelJ I2 J2 D := ⟨(h.st.kp (Ag.kp q1.2.2.1 rfl) (Ag.kp q1.2.2.2.1 rfl)), (h.fe.kp (Ag.kp q1.2.2.1 rfl) (Ag.kp q1.2.2.2.1 rfl)), (h.pe.kp (Ag.kp q1.2.2.1 rfl) (Ag.kp q1.2.2.2.1 rfl)), (h.ho.kp (Ag.kp q1.2.2.1 rfl) (Ag.kp q1.2.2.2.1 rfl) Kp.rf), h.pa⟩
  exact ⟨I1, J1, i1, I2, J2, i2, e1, e2, q0, g0.1, ⟨g0, g1, g2⟩⟩
theorem s_bed {n : Nat} {σ : Shp} {I : Nat → Nat → Int32} {J : Nat → Nat → Int64} {D : Nat → Nat → UInt64} {R : Nat → Nat → Option Nat} {x1 : Int32} {x2 : Int32} {x3 : Int32} {x4 : Int32} (h : Rel n σ I J D R) (hn : n < 512) : ∃ (I1 : Nat → Nat → Int32) (j1 : Int64) (I2 : Nat → Nat → Int32) (j2 : Int64), gX11_bed σ I J R x1 x2 x3 x4 = some (I1, j1) ∧ gX12_bed I1 J x1 x2 x3 x4 = some (I2, j2) ∧ j1 = j2 ∧ Skel σ R ∧ Rel (n + 1) σ I2 J D R := by
  have n9 := h.n9 hn
  have z0 := h.rn
  have z1 := h.rs
  obtain ⟨⟨I1, j1⟩, e1, ⟨I2, j2⟩, e2, ⟨q0, q1⟩⟩ := c_bed h.sk n9.2.2.1 h.sc h.th
  have zz : Sk2 σ I R σ I1 R := zX11_bed (Sk2.rf h.sk) e1
  have wk : Kp [(133, 134), (1000032, 1000033)] I1 I2 := Ag.kp (aX12_bed _ e2) rfl
  have g0 : RelS (n + 1) σ I2 J R := ⟨h.sk, (by omega), (by omega), h.fr, q1.2.1⟩
  have g1 : RelI (n + 1) I2 := ⟨q1.1, (h.pl.kp (Ag.kp q1.2.2.1 rfl)), (h.tr.kp (Ag.kp q1.2.2.1 rfl)), (h.ra.kp (Ag.kp q1.2.2.1 rfl)), (h.ta.kp (Ag.kp q1.2.2.1 rfl)), (h.bo.kp (Ag.kp q1.2.2.1 rfl)), (h.of.kp (Ag.kp q1.2.2.1 rfl)), (h.sa.kp (Ag.kp q1.2.2.1 rfl)), (h.wa.kq (fun k => by rw [wk 133 k rfl]; exact (zz.2.2.2.2 k).1) (by rw [wk 114 32 rfl]; exact (zz.2.2.2.2 32).2)).up⟩
  have g2 : RelJ I2 J D := ⟨(h.st.kp (Ag.kp q1.2.2.1 rfl) Kp.rf), (h.fe.kp (Ag.kp q1.2.2.1 rfl) Kp.rf), (h.pe.kp (Ag.kp q1.2.2.1 rfl) Kp.rf), (h.ho.kp (Ag.kp q1.2.2.1 rfl) Kp.rf Kp.rf), h.pa⟩
  exact ⟨I1, j1, I2, j2, e1, e2, q0, g0.1, ⟨g0, g1, g2⟩⟩
theorem s_setBed {n : Nat} {σ : Shp} {I : Nat → Nat → Int32} {J : Nat → Nat → Int64} {D : Nat → Nat → UInt64} {R : Nat → Nat → Option Nat} {x1 : Int32} {x2 : Int32} {x3 : Int32} {x4 : Int32} {x5 : Int64} (h : Rel n σ I J D R) (hn : n < 512) : ∃ (I1 : Nat → Nat → Int32) (J1 : Nat → Nat → Int64) (i1 : Int32) (I2 : Nat → Nat → Int32) (J2 : Nat → Nat → Int64) (i2 : Int32), gX11_setBed σ I J R x1 x2 x3 x4 x5 = some (I1, J1, i1) ∧ gX12_setBed I1 J1 x1 x2 x3 x4 x5 = some (I2, J2, i2) ∧ i1 = i2 ∧ Skel σ R ∧ Rel (n + 1) σ I2 J2 D R := by
  have n9 := h.n9 hn
  have z0 := h.rn
  have z1 := h.rs
  obtain ⟨⟨I1, J1, i1⟩, e1, ⟨I2, J2, i2⟩, e2, ⟨q0, q1⟩⟩ := c_setBed h.sk n9.2.2.1 h.sc h.th
  have zz : Sk2 σ I R σ I1 R := zX11_setBed (Sk2.rf h.sk) e1
  have wk : Kp [(133, 134), (1000032, 1000033)] I1 I2 := Ag.kp (aX12_setBed _ e2).1 rfl
  have g0 : RelS (n + 1) σ I2 J2 R := ⟨h.sk, (by omega), (by omega), h.fr, q1.2.1⟩
  have g1 : RelI (n + 1) I2 := ⟨q1.1, (h.pl.kp (Ag.kp q1.2.2.1 rfl)), (h.tr.kp (Ag.kp q1.2.2.1 rfl)), (h.ra.kp (Ag.kp q1.2.2.1 rfl)), (h.ta.kp (Ag.kp q1.2.2.1 rfl)), (h.bo.kp (Ag.kp q1.2.2.1 rfl)), (h.of.kp (Ag.kp q1.2.2.1 rfl)), (h.sa.kp (Ag.kp q1.2.2.1 rfl)), (h.wa.kq (fun k => by rw [wk 133 k rfl]; exact (zz.2.2.2.2 k).1) (by rw [wk 114 32 rfl]; exact (zz.2.2.2.2 32).2)).up⟩
  have g2 : RelJ I2 J2 D := ⟨(h.st.kp (Ag.kp q1.2.2.1 rfl) (Ag.kp q1.2.2.2.1 rfl)), (h.fe.kp (Ag.kp q1.2.2.1 rfl) (Ag.kp q1.2.2.2.1 rfl)), (h.pe.kp (Ag.kp q1.2.2.1 rfl) (Ag.kp q1.2.2.2.1 rfl)), (h.ho.kp (Ag.kp q1.2.2.1 rfl) (Ag.kp q1.2.2.2.1 rfl) Kp.rf), h.pa⟩
  exact ⟨I1, J1, i1, I2, J2, i2, e1, e2, q0, g0.1, ⟨g0, g1, g2⟩⟩
theorem s_countUp {n : Nat} {σ : Shp} {I : Nat → Nat → Int32} {J : Nat → Nat → Int64} {D : Nat → Nat → UInt64} {R : Nat → Nat → Option Nat} {x1 : Int32} {x2 : Int32} {x3 : Int32} {x4 : Int32} {x5 : Int32} (h : Rel n σ I J D R) (hn : n < 512) : ∃ (I1 : Nat → Nat → Int32) (J1 : Nat → Nat → Int64) (i1 : Int32) (I2 : Nat → Nat → Int32) (J2 : Nat → Nat → Int64) (i2 : Int32), gX11_countUp σ I J R x1 x2 x3 x4 x5 = some (I1, J1, i1) ∧ gX12_countUp σ I1 J1 R x1 x2 x3 x4 x5 = some (I2, J2, i2) ∧ i1 = i2 ∧ Skel σ R ∧ Rel (n + 1) σ I2 J2 D R := by
  have n9 := h.n9 hn
  have z0 := h.rn
  have z1 := h.rs
  obtain ⟨⟨I1, J1, i1⟩, e1, ⟨I2, J2, i2⟩, e2, ⟨q0, q1⟩⟩ := c_countUp h.sk n9.2.2.1 h.sc h.th
  have zz : Sk2 σ I R σ I1 R := zX11_countUp (Sk2.rf h.sk) e1
  have wk : Kp [(133, 134), (1000032, 1000033)] I1 I2 := Ag.kp (aX12_countUp _ e2).1 rfl
  have g0 : RelS (n + 1) σ I2 J2 R := ⟨h.sk, (by omega), (by omega), h.fr, q1.2.1⟩
  have g1 : RelI (n + 1) I2 := ⟨q1.1, (h.pl.kp (Ag.kp q1.2.2.1 rfl)), (h.tr.kp (Ag.kp q1.2.2.1 rfl)), (h.ra.kp (Ag.kp q1.2.2.1 rfl)), (h.ta.kp (Ag.kp q1.2.2.1 rfl)), (h.bo.kp (Ag.kp q1.2.2.1 rfl)), (h.of.kp (Ag.kp q1.2.2.1 rfl)), (h.sa.kp (Ag.kp q1.2.2.1 rfl)), (h.wa.kq (fun k => by rw [wk 133 k rfl]; exact (zz.2.2.2.2 k).1) (by rw [wk 114 32 rfl]; exact (zz.2.2.2.2 32).2)).up⟩
  have g2 : RelJ I2 J2 D := ⟨(h.st.kp (Ag.kp q1.2.2.1 rfl) (Ag.kp q1.2.2.2.1 rfl)), (h.fe.kp (Ag.kp q1.2.2.1 rfl) (Ag.kp q1.2.2.2.1 rfl)), (h.pe.kp (Ag.kp q1.2.2.1 rfl) (Ag.kp q1.2.2.2.1 rfl)), (h.ho.kp (Ag.kp q1.2.2.1 rfl) (Ag.kp q1.2.2.2.1 rfl) Kp.rf), h.pa⟩
  exact ⟨I1, J1, i1, I2, J2, i2, e1, e2, q0, g0.1, ⟨g0, g1, g2⟩⟩
theorem s_set {n : Nat} {σ : Shp} {I : Nat → Nat → Int32} {J : Nat → Nat → Int64} {D : Nat → Nat → UInt64} {R : Nat → Nat → Option Nat} {x1 : Int32} {x2 : Int32} {x3 : Int32} (h : Rel n σ I J D R) (hn : n < 512) : ∃ (I1 : Nat → Nat → Int32) (R1 : Nat → Nat → Option Nat) (i1 : Int32) (I2 : Nat → Nat → Int32) (i2 : Int32), gX11_set σ I R x1 x2 x3 = some (I1, R1, i1) ∧ gX12_set σ I1 R1 x1 x2 x3 = some (I2, i2) ∧ i1 = i2 ∧ Skel σ R1 ∧ Rel (n + 1) σ I2 J D R1 := by
  have n9 := h.n9 hn
  have z0 := h.rn
  have z1 := h.rs
  obtain ⟨⟨I1, R1, i1⟩, e1, ⟨I2, i2⟩, e2, ⟨q0, q1⟩⟩ := c_set h.sk n9.2.2.1 h.sc h.th
  have zz : Sk2 σ I R σ I1 R1 := zX11_set (Sk2.rf h.sk) e1
  have wk : Kp [(133, 134), (1000032, 1000033)] I1 I2 := Ag.kp (aX12_set _ e2) rfl
  have kR : Kp [(24, 25)] R R1 := Ag.kp q1.2.2.2.2 rfl
  have g0 : RelS (n + 1) σ I2 J R1 := ⟨zz.1, (by omega), (by omega), (zz.frm h.fr (fun j => kR 24 j rfl)), q1.2.1⟩
  have g1 : RelI (n + 1) I2 := ⟨q1.1, (h.pl.kp (Ag.kp q1.2.2.1 rfl)), (h.tr.kp (Ag.kp q1.2.2.1 rfl)), (h.ra.kp (Ag.kp q1.2.2.1 rfl)), (h.ta.kp (Ag.kp q1.2.2.1 rfl)), (h.bo.kp (Ag.kp q1.2.2.1 rfl)), (h.of.kp (Ag.kp q1.2.2.1 rfl)), (h.sa.kp (Ag.kp q1.2.2.1 rfl)), (h.wa.kq (fun k => by rw [wk 133 k rfl]; exact (zz.2.2.2.2 k).1) (by rw [wk 114 32 rfl]; exact (zz.2.2.2.2 32).2)).up⟩
  have g2 : RelJ I2 J D := ⟨(h.st.kp (Ag.kp q1.2.2.1 rfl) Kp.rf), (h.fe.kp (Ag.kp q1.2.2.1 rfl) Kp.rf), (h.pe.kp (Ag.kp q1.2.2.1 rfl) Kp.rf), (h.ho.kp (Ag.kp q1.2.2.1 rfl) Kp.rf Kp.rf), h.pa⟩
  exact ⟨I1, R1, i1, I2, i2, e1, e2, q0, g0.1, ⟨g0, g1, g2⟩⟩
theorem s_lift {n : Nat} {σ : Shp} {I : Nat → Nat → Int32} {J : Nat → Nat → Int64} {D : Nat → Nat → UInt64} {R : Nat → Nat → Option Nat} {x1 : Int32} {x2 : Int32} {x3 : Int32} (h : Rel n σ I J D R) (hn : n < 512) : ∃ (I1 : Nat → Nat → Int32) (R1 : Nat → Nat → Option Nat) (i1 : Int32) (I2 : Nat → Nat → Int32) (i2 : Int32), gX11_lift σ I R x1 x2 x3 = some (I1, R1, i1) ∧ gX12_lift I1 x1 x2 x3 = some (I2, i2) ∧ i1 = i2 ∧ Skel σ R1 ∧ Rel (n + 1) σ I2 J D R1 := by
  have n9 := h.n9 hn
  have z0 := h.rn
  have z1 := h.rs
  obtain ⟨⟨I1, R1, i1⟩, e1, ⟨I2, i2⟩, e2, ⟨q0, q1⟩⟩ := c_lift h.sk n9.2.2.1 h.sc h.th
  have zz : Sk2 σ I R σ I1 R1 := zX11_lift (Sk2.rf h.sk) e1
  have wk : Kp [(133, 134), (1000032, 1000033)] I1 I2 := Ag.kp (aX12_lift _ e2) rfl
  have kR : Kp [(24, 25)] R R1 := Ag.kp q1.2.2.2.2 rfl
  have g0 : RelS (n + 1) σ I2 J R1 := ⟨zz.1, (by omega), (by omega), (zz.frm h.fr (fun j => kR 24 j rfl)), q1.2.1⟩
  have g1 : RelI (n + 1) I2 := ⟨q1.1, (h.pl.kp (Ag.kp q1.2.2.1 rfl)), (h.tr.kp (Ag.kp q1.2.2.1 rfl)), (h.ra.kp (Ag.kp q1.2.2.1 rfl)), (h.ta.kp (Ag.kp q1.2.2.1 rfl)), (h.bo.kp (Ag.kp q1.2.2.1 rfl)), (h.of.kp (Ag.kp q1.2.2.1 rfl)), (h.sa.kp (Ag.kp q1.2.2.1 rfl)), (h.wa.kq (fun k => by rw [wk 133 k rfl]; exact (zz.2.2.2.2 k).1) (by rw [wk 114 32 rfl]; exact (zz.2.2.2.2 32).2)).up⟩
  have g2 : RelJ I2 J D := ⟨(h.st.kp (Ag.kp q1.2.2.1 rfl) Kp.rf), (h.fe.kp (Ag.kp q1.2.2.1 rfl) Kp.rf), (h.pe.kp (Ag.kp q1.2.2.1 rfl) Kp.rf), (h.ho.kp (Ag.kp q1.2.2.1 rfl) Kp.rf Kp.rf), h.pa⟩
  exact ⟨I1, R1, i1, I2, i2, e1, e2, q0, g0.1, ⟨g0, g1, g2⟩⟩
theorem s_liftAs {n : Nat} {σ : Shp} {I : Nat → Nat → Int32} {J : Nat → Nat → Int64} {D : Nat → Nat → UInt64} {R : Nat → Nat → Option Nat} {x1 : Int32} {x2 : Int32} {x3 : Int32} {x4 : Int32} (h : Rel n σ I J D R) (hn : n < 512) : ∃ (I1 : Nat → Nat → Int32) (R1 : Nat → Nat → Option Nat) (i1 : Int32) (I2 : Nat → Nat → Int32) (i2 : Int32), gX11_liftAs σ I R x1 x2 x3 x4 = some (I1, R1, i1) ∧ gX12_liftAs σ I1 R1 x1 x2 x3 x4 = some (I2, i2) ∧ i1 = i2 ∧ Skel σ R1 ∧ Rel (n + 1) σ I2 J D R1 := by
  have n9 := h.n9 hn
  have z0 := h.rn
  have z1 := h.rs
  obtain ⟨⟨I1, R1, i1⟩, e1, ⟨I2, i2⟩, e2, ⟨q0, q1⟩⟩ := c_liftAs h.sk n9.2.2.1 h.sc h.th
  have zz : Sk2 σ I R σ I1 R1 := zX11_liftAs (Sk2.rf h.sk) e1
  have wk : Kp [(133, 134), (1000032, 1000033)] I1 I2 := Ag.kp (aX12_liftAs _ e2) rfl
  have kR : Kp [(24, 25)] R R1 := Ag.kp q1.2.2.2.2 rfl
  have g0 : RelS (n + 1) σ I2 J R1 := ⟨zz.1, (by omega), (by omega), (zz.frm h.fr (fun j => kR 24 j rfl)), q1.2.1⟩
  have g1 : RelI (n + 1) I2 := ⟨q1.1, (h.pl.kp (Ag.kp q1.2.2.1 rfl)), (h.tr.kp (Ag.kp q1.2.2.1 rfl)), (h.ra.kp (Ag.kp q1.2.2.1 rfl)), (h.ta.kp (Ag.kp q1.2.2.1 rfl)), (h.bo.kp (Ag.kp q1.2.2.1 rfl)), (h.of.kp (Ag.kp q1.2.2.1 rfl)), (h.sa.kp (Ag.kp q1.2.2.1 rfl)), (h.wa.kq (fun k => by rw [wk 133 k rfl]; exact (zz.2.2.2.2 k).1) (by rw [wk 114 32 rfl]; exact (zz.2.2.2.2 32).2)).up⟩
  have g2 : RelJ I2 J D := ⟨(h.st.kp (Ag.kp q1.2.2.1 rfl) Kp.rf), (h.fe.kp (Ag.kp q1.2.2.1 rfl) Kp.rf), (h.pe.kp (Ag.kp q1.2.2.1 rfl) Kp.rf), (h.ho.kp (Ag.kp q1.2.2.1 rfl) Kp.rf Kp.rf), h.pa⟩
  exact ⟨I1, R1, i1, I2, i2, e1, e2, q0, g0.1, ⟨g0, g1, g2⟩⟩
theorem s_shift {n : Nat} {σ : Shp} {I : Nat → Nat → Int32} {J : Nat → Nat → Int64} {D : Nat → Nat → UInt64} {R : Nat → Nat → Option Nat} {x1 : Int32} {x2 : Int32} {x3 : Int32} {x4 : Int32} {x5 : Int32} (h : Rel n σ I J D R) (hn : n < 512) : ∃ (I1 : Nat → Nat → Int32) (J1 : Nat → Nat → Int64) (R1 : Nat → Nat → Option Nat) (i1 : Int32) (I2 : Nat → Nat → Int32) (J2 : Nat → Nat → Int64) (i2 : Int32), gX11_shift σ I J R x1 x2 x3 x4 x5 = some (I1, J1, R1, i1) ∧ gX12_shift σ I1 J1 R1 x1 x2 x3 x4 x5 = some (I2, J2, i2) ∧ i1 = i2 ∧ Skel σ R1 ∧ Rel (n + 1) σ I2 J2 D R1 := by
  have n9 := h.n9 hn
  have z0 := h.rn
  have z1 := h.rs
  obtain ⟨⟨I1, J1, R1, i1⟩, e1, ⟨I2, J2, i2⟩, e2, ⟨q0, q1⟩⟩ := c_shift h.sk n9.2.2.1 h.sc h.th
  have zz : Sk2 σ I R σ I1 R1 := zX11_shift (Sk2.rf h.sk) e1
  have wk : Kp [(133, 134), (1000032, 1000033)] I1 I2 := Ag.kp (aX12_shift _ e2).1 rfl
  have kR : Kp [(24, 25)] R R1 := Ag.kp q1.2.2.2.2 rfl
  have g0 : RelS (n + 1) σ I2 J2 R1 := ⟨zz.1, (by omega), (by omega), (zz.frm h.fr (fun j => kR 24 j rfl)), q1.2.1⟩
  have g1 : RelI (n + 1) I2 := ⟨q1.1, (h.pl.kp (Ag.kp q1.2.2.1 rfl)), (h.tr.kp (Ag.kp q1.2.2.1 rfl)), (h.ra.kp (Ag.kp q1.2.2.1 rfl)), (h.ta.kp (Ag.kp q1.2.2.1 rfl)), (h.bo.kp (Ag.kp q1.2.2.1 rfl)), (h.of.kp (Ag.kp q1.2.2.1 rfl)), (h.sa.kp (Ag.kp q1.2.2.1 rfl)), (h.wa.kq (fun k => by rw [wk 133 k rfl]; exact (zz.2.2.2.2 k).1) (by rw [wk 114 32 rfl]; exact (zz.2.2.2.2 32).2)).up⟩
  have g2 : RelJ I2 J2 D := ⟨(h.st.kp (Ag.kp q1.2.2.1 rfl) (Ag.kp q1.2.2.2.1 rfl)), (h.fe.kp (Ag.kp q1.2.2.1 rfl) (Ag.kp q1.2.2.2.1 rfl)), (h.pe.kp (Ag.kp q1.2.2.1 rfl) (Ag.kp q1.2.2.2.1 rfl)), (h.ho.kp (Ag.kp q1.2.2.1 rfl) (Ag.kp q1.2.2.2.1 rfl) Kp.rf), h.pa⟩
  exact ⟨I1, J1, R1, i1, I2, J2, i2, e1, e2, q0, g0.1, ⟨g0, g1, g2⟩⟩
theorem s_came {n : Nat} {σ : Shp} {I : Nat → Nat → Int32} {J : Nat → Nat → Int64} {D : Nat → Nat → UInt64} {R : Nat → Nat → Option Nat}  (h : Rel n σ I J D R) (hn : n < 512) : ∃ (i1 : Int32) (i2 : Int32), gX11_came I = some i1 ∧ gX12_came I = some i2 ∧ i1 = i2 ∧ Skel σ R ∧ Rel (n + 1) σ I J D R := by
  have n9 := h.n9 hn
  have z0 := h.rn
  have z1 := h.rs
  obtain ⟨i1, e1, i2, e2, q0⟩ := c_came h.sc
  exact ⟨i1, i2, e1, e2, q0, h.sk, h.up⟩
theorem s_copy {n : Nat} {σ : Shp} {I : Nat → Nat → Int32} {J : Nat → Nat → Int64} {D : Nat → Nat → UInt64} {R : Nat → Nat → Option Nat} {x1 : Int32} {x2 : Int32} {x3 : Int32} (h : Rel n σ I J D R) (hn : n < 512) : ∃ (σ1 : Shp) (I1 : Nat → Nat → Int32) (J1 : Nat → Nat → Int64) (R1 : Nat → Nat → Option Nat) (i1 : Int32) (I2 : Nat → Nat → Int32) (J2 : Nat → Nat → Int64) (i2 : Int32), gX11_copy σ I J R x1 x2 x3 = some (σ1, I1, J1, R1, i1) ∧ gX12_copy σ1 I1 J1 R1 x1 x2 x3 = some (I2, J2, i2) ∧ i1 = i2 ∧ Skel σ1 R1 ∧ Rel (n + 1) σ1 I2 J2 D R1 := by
  have n9 := h.n9 hn
  have z0 := h.rn
  have z1 := h.rs
  obtain ⟨⟨σ1, I1, J1, R1, i1⟩, e1, ⟨I2, J2, i2⟩, e2, ⟨q0, q1, q2⟩⟩ := c_copy h.sk n9.1 h.sc h.th
  have zz : Sk2 σ I R σ1 I1 R1 := zX11_copy (Sk2.rf h.sk) e1
  have wk : Kp [(133, 134), (1000032, 1000033)] I1 I2 := Ag.kp (aX12_copy _ e2).1 rfl
  have kR : Kp [(24, 25)] R R1 := Ag.kp q1.2.2.2.2 rfl
  have up := gr_up h.rn h.rs (show Grow σ σ1 from q2)
  have g0 : RelS (n + 1) σ1 I2 J2 R1 := ⟨zz.1, up.1, up.2, (zz.frm h.fr (fun j => kR 24 j rfl)), q1.2.1⟩
  have g1 : RelI (n + 1) I2 := ⟨q1.1, (h.pl.kp (Ag.kp q1.2.2.1 rfl)), (h.tr.kp (Ag.kp q1.2.2.1 rfl)), (h.ra.kp (Ag.kp q1.2.2.1 rfl)), (h.ta.kp (Ag.kp q1.2.2.1 rfl)), (h.bo.kp (Ag.kp q1.2.2.1 rfl)), (h.of.kp (Ag.kp q1.2.2.1 rfl)), (h.sa.kp (Ag.kp q1.2.2.1 rfl)), (h.wa.kq (fun k => by rw [wk 133 k rfl]; exact (zz.2.2.2.2 k).1) (by rw [wk 114 32 rfl]; exact (zz.2.2.2.2 32).2)).up⟩
  have g2 : RelJ I2 J2 D := ⟨(h.st.kp (Ag.kp q1.2.2.1 rfl) (Ag.kp q1.2.2.2.1 rfl)), (h.fe.kp (Ag.kp q1.2.2.1 rfl) (Ag.kp q1.2.2.2.1 rfl)), (h.pe.kp (Ag.kp q1.2.2.1 rfl) (Ag.kp q1.2.2.2.1 rfl)), (h.ho.kp (Ag.kp q1.2.2.1 rfl) (Ag.kp q1.2.2.2.1 rfl) Kp.rf), h.pa⟩
  exact ⟨σ1, I1, J1, R1, i1, I2, J2, i2, e1, e2, q0, g0.1, ⟨g0, g1, g2⟩⟩
theorem s_alike {n : Nat} {σ : Shp} {I : Nat → Nat → Int32} {J : Nat → Nat → Int64} {D : Nat → Nat → UInt64} {R : Nat → Nat → Option Nat} {x1 : Int32} {x2 : Int32} (h : Rel n σ I J D R) (hn : n < 512) : ∃ (i1 : Int32) (i2 : Int32), gX11_alike σ I J R x1 x2 = some i1 ∧ gX12_alike σ I J R x1 x2 = some i2 ∧ i1 = i2 ∧ Skel σ R ∧ Rel (n + 1) σ I J D R := by
  have n9 := h.n9 hn
  have z0 := h.rn
  have z1 := h.rs
  obtain ⟨i1, e1, i2, e2, q0⟩ := c_alike h.th
  exact ⟨i1, i2, e1, e2, q0, h.sk, h.up⟩
theorem s_size {n : Nat} {σ : Shp} {I : Nat → Nat → Int32} {J : Nat → Nat → Int64} {D : Nat → Nat → UInt64} {R : Nat → Nat → Option Nat} {x1 : Int32} {x2 : Int32} (h : Rel n σ I J D R) (hn : n < 512) : ∃ (I1 : Nat → Nat → Int32) (i1 : Int32) (I2 : Nat → Nat → Int32) (i2 : Int32), gX11_size σ I R x1 x2 = some (I1, i1) ∧ gX12_size σ I1 R x1 x2 = some (I2, i2) ∧ i1 = i2 ∧ Skel σ R ∧ Rel (n + 1) σ I2 J D R := by
  have n9 := h.n9 hn
  have z0 := h.rn
  have z1 := h.rs
  obtain ⟨⟨I1, i1⟩, e1, ⟨I2, i2⟩, e2, ⟨q0, q1⟩⟩ := c_size h.sk n9.2.2.1 h.sc h.th
  have zz : Sk2 σ I R σ I1 R := zX11_size (Sk2.rf h.sk) e1
  have wk : Kp [(133, 134), (1000032, 1000033)] I1 I2 := Ag.kp (aX12_size _ e2) rfl
  have g0 : RelS (n + 1) σ I2 J R := ⟨h.sk, (by omega), (by omega), h.fr, q1.2.1⟩
  have g1 : RelI (n + 1) I2 := ⟨q1.1, (h.pl.kp (Ag.kp q1.2.2.1 rfl)), (h.tr.kp (Ag.kp q1.2.2.1 rfl)), (h.ra.kp (Ag.kp q1.2.2.1 rfl)), (h.ta.kp (Ag.kp q1.2.2.1 rfl)), (h.bo.kp (Ag.kp q1.2.2.1 rfl)), (h.of.kp (Ag.kp q1.2.2.1 rfl)), (h.sa.kp (Ag.kp q1.2.2.1 rfl)), (h.wa.kq (fun k => by rw [wk 133 k rfl]; exact (zz.2.2.2.2 k).1) (by rw [wk 114 32 rfl]; exact (zz.2.2.2.2 32).2)).up⟩
  have g2 : RelJ I2 J D := ⟨(h.st.kp (Ag.kp q1.2.2.1 rfl) Kp.rf), (h.fe.kp (Ag.kp q1.2.2.1 rfl) Kp.rf), (h.pe.kp (Ag.kp q1.2.2.1 rfl) Kp.rf), (h.ho.kp (Ag.kp q1.2.2.1 rfl) Kp.rf Kp.rf), h.pa⟩
  exact ⟨I1, i1, I2, i2, e1, e2, q0, g0.1, ⟨g0, g1, g2⟩⟩
