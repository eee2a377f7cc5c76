/-! ===== a call, from Rel to Rel ===== -/
theorem s_plant {n : Nat} {σ : Shp} {I : Nat → Nat → Int32} {J : Nat → Nat → Int64} {D : Nat → Nat → UInt64} {R : Nat → Nat → Option Nat} {x1 : Int32} {x2 : Int32} {x3 : Int32} {x4 : Int32} {x5 : Int32} {x6 : Int32} (h : Rel n σ I J D R) (hn : n < 512) : ∃ (σ1 : Shp) (I1 : Nat → Nat → Int32) (R1 : Nat → Nat → Option Nat) (i1 : Int32) (I2 : Nat → Nat → Int32) (i2 : Int32), gX11_plant σ I R x1 x2 x3 x4 x5 x6 = some (σ1, I1, R1, i1) ∧ gX12_plant σ1 I1 R1 x1 x2 x3 x4 x5 x6 = some (I2, i2) ∧ i1 = i2 ∧ Skel σ1 R1 ∧ Rel (n + 1) σ1 I2 J D R1 := by
  have n9 := h.n9 hn
  have z0 := h.rn
  have z1 := h.rs
  obtain ⟨⟨σ1, I1, R1, i1⟩, e1, ⟨I2, i2⟩, e2, ⟨q0, q1, q2⟩⟩ := c_plant h.sk n9.2.1 h.sc h.th
  have zz : Sk2 σ I R σ1 I1 R1 := zX11_plant (Sk2.rf h.sk) e1
  have wk : Kp [(133, 134), (1000032, 1000033)] I1 I2 := Ag.kp (aX12_plant _ e2) rfl
  have kR : Kp [(24, 25)] R R1 := Ag.kp q1.2.2.2.2 rfl
  have up := gr_up h.rn h.rs (show Grow σ σ1 from q2)
  have g0 : RelS (n + 1) σ1 I2 J R1 := ⟨zz.1, up.1, up.2, (zz.frm h.fr (fun j => kR 24 j rfl)), q1.2.1⟩
  have g1 : RelI (n + 1) I2 := ⟨q1.1, (h.pl.kp (Ag.kp q1.2.2.1 rfl)), (h.tr.kp (Ag.kp q1.2.2.1 rfl)), (h.ra.kp (Ag.kp q1.2.2.1 rfl)), (h.ta.kp (Ag.kp q1.2.2.1 rfl)), (h.bo.kp (Ag.kp q1.2.2.1 rfl)), (h.of.kp (Ag.kp q1.2.2.1 rfl)), (h.sa.kp (Ag.kp q1.2.2.1 rfl)), (h.wa.kq (fun k => by rw [wk 133 k rfl]; exact (zz.2.2.2.2 k).1) (by rw [wk 114 32 rfl]; exact (zz.2.2.2.2 32).2)).up⟩
  have g2 : RelJ I2 J D := ⟨(h.st.kp (Ag.kp q1.2.2.1 rfl) Kp.rf), (h.fe.kp (Ag.kp q1.2.2.1 rfl) Kp.rf), (h.pe.kp (Ag.kp q1.2.2.1 rfl) Kp.rf), (h.ho.kp (Ag.kp q1.2.2.1 rfl) Kp.rf Kp.rf), h.pa⟩
  exact ⟨σ1, I1, R1, i1, I2, i2, e1, e2, q0, g0.1, ⟨g0, g1, g2⟩⟩
theorem s_tray {n : Nat} {σ : Shp} {I : Nat → Nat → Int32} {J : Nat → Nat → Int64} {D : Nat → Nat → UInt64} {R : Nat → Nat → Option Nat} {x1 : Int32} {x2 : Int32} {x3 : Int32} (h : Rel n σ I J D R) (hn : n < 512) : ∃ (σ1 : Shp) (I1 : Nat → Nat → Int32) (R1 : Nat → Nat → Option Nat) (i1 : Int32) (I2 : Nat → Nat → Int32) (i2 : Int32), gX11_tray σ I R x1 x2 x3 = some (σ1, I1, R1, i1) ∧ gX12_tray I1 x1 x2 x3 = some (I2, i2) ∧ i1 = i2 ∧ Skel σ1 R1 ∧ Rel (n + 1) σ1 I2 J D R1 := by
  have n9 := h.n9 hn
  have z0 := h.rn
  have z1 := h.rs
  obtain ⟨⟨σ1, I1, R1, i1⟩, e1, ⟨I2, i2⟩, e2, ⟨q0, q1, q2⟩⟩ := c_tray h.sk n9.2.1 h.sc h.th
  have zz : Sk2 σ I R σ1 I1 R1 := zX11_tray (Sk2.rf h.sk) e1
  have wk : Kp [(133, 134), (1000032, 1000033)] I1 I2 := Ag.kp (aX12_tray _ e2) rfl
  have kR : Kp [(24, 25)] R R1 := Ag.kp q1.2.2.2.2 rfl
  have up := gr_up h.rn h.rs (show Grow σ σ1 from q2)
  have g0 : RelS (n + 1) σ1 I2 J R1 := ⟨zz.1, up.1, up.2, (zz.frm h.fr (fun j => kR 24 j rfl)), q1.2.1⟩
  have g1 : RelI (n + 1) I2 := ⟨q1.1, (h.pl.kp (Ag.kp q1.2.2.1 rfl)), (h.tr.kp (Ag.kp q1.2.2.1 rfl)), (h.ra.kp (Ag.kp q1.2.2.1 rfl)), (h.ta.kp (Ag.kp q1.2.2.1 rfl)), (h.bo.kp (Ag.kp q1.2.2.1 rfl)), (h.of.kp (Ag.kp q1.2.2.1 rfl)), (h.sa.kp (Ag.kp q1.2.2.1 rfl)), (h.wa.kq (fun k => by rw [wk 133 k rfl]; exact (zz.2.2.2.2 k).1) (by rw [wk 114 32 rfl]; exact (zz.2.2.2.2 32).2)).up⟩
  have g2 : RelJ I2 J D := ⟨(h.st.kp (Ag.kp q1.2.2.1 rfl) Kp.rf), (h.fe.kp (Ag.kp q1.2.2.1 rfl) Kp.rf), (h.pe.kp (Ag.kp q1.2.2.1 rfl) Kp.rf), (h.ho.kp (Ag.kp q1.2.2.1 rfl) Kp.rf Kp.rf), h.pa⟩
  exact ⟨σ1, I1, R1, i1, I2, i2, e1, e2, q0, g0.1, ⟨g0, g1, g2⟩⟩
theorem s_ask {n : Nat} {σ : Shp} {I : Nat → Nat → Int32} {J : Nat → Nat → Int64} {D : Nat → Nat → UInt64} {R : Nat → Nat → Option Nat} {x1 : Int32} {x2 : Int32} (h : Rel n σ I J D R) (hn : n < 512) : ∃ (I1 : Nat → Nat → Int32) (i1 : Int32) (I2 : Nat → Nat → Int32) (i2 : Int32), gX11_ask σ I R x1 x2 = some (I1, i1) ∧ gX12_ask σ I1 R x1 x2 = some (I2, i2) ∧ i1 = i2 ∧ Skel σ R ∧ Rel (n + 1) σ I2 J D R := by
  have n9 := h.n9 hn
  have z0 := h.rn
  have z1 := h.rs
  obtain ⟨⟨I1, i1⟩, e1, ⟨I2, i2⟩, e2, ⟨q0, q1, q2, q3, q4⟩⟩ := c_ask h.sk n9.2.2.1 h.sc h.th h.tr
  have g0 : RelS (n + 1) σ I2 J R := ⟨h.sk, (by omega), (by omega), h.fr, q2⟩
  have g1 : RelI (n + 1) I2 := ⟨q1, (h.pl.kp (Ag.kp q4 rfl)), q3, (h.ra.kp (Ag.kp q4 rfl)), (h.ta.kp (Ag.kp q4 rfl)), (h.bo.kp (Ag.kp q4 rfl)), (h.of.kp (Ag.kp q4 rfl)), (h.sa.kp (Ag.kp q4 rfl)), (h.wa.kp (Ag.kp q4 rfl)).up⟩
  have g2 : RelJ I2 J D := ⟨(h.st.kp (Ag.kp q4 rfl) Kp.rf), (h.fe.kp (Ag.kp q4 rfl) Kp.rf), (h.pe.kp (Ag.kp q4 rfl) Kp.rf), (h.ho.kp (Ag.kp q4 rfl) Kp.rf Kp.rf), h.pa⟩
  exact ⟨I1, i1, I2, i2, e1, e2, q0, g0.1, ⟨g0, g1, g2⟩⟩
theorem s_answer {n : Nat} {σ : Shp} {I : Nat → Nat → Int32} {J : Nat → Nat → Int64} {D : Nat → Nat → UInt64} {R : Nat → Nat → Option Nat}  (h : Rel n σ I J D R) (hn : n < 512) : ∃ (i1 : Int32) (i2 : Int32), gX11_answer I = some i1 ∧ gX12_answer I = some i2 ∧ i1 = i2 ∧ Skel σ R ∧ Rel (n + 1) σ I J D R := by
  have n9 := h.n9 hn
  have z0 := h.rn
  have z1 := h.rs
  obtain ⟨i1, e1, i2, e2, q0⟩ := c_answer h.sc
  exact ⟨i1, i2, e1, e2, q0, h.sk, h.up⟩
theorem s_trace {n : Nat} {σ : Shp} {I : Nat → Nat → Int32} {J : Nat → Nat → Int64} {D : Nat → Nat → UInt64} {R : Nat → Nat → Option Nat} {x1 : Int32} (h : Rel n σ I J D R) (hn : n < 512) : ∃ (i1 : Int32) (i2 : Int32), gX11_trace σ I x1 = some i1 ∧ gX12_trace I x1 = some i2 ∧ i1 = i2 ∧ Skel σ R ∧ Rel (n + 1) σ I J D R := by
  have n9 := h.n9 hn
  have z0 := h.rn
  have z1 := h.rs
  obtain ⟨i1, e1, i2, e2, q0⟩ := c_trace h.sk h.tr
  exact ⟨i1, i2, e1, e2, q0, h.sk, h.up⟩
theorem s_card {n : Nat} {σ : Shp} {I : Nat → Nat → Int32} {J : Nat → Nat → Int64} {D : Nat → Nat → UInt64} {R : Nat → Nat → Option Nat} {x1 : Int32} (h : Rel n σ I J D R) (hn : n < 512) : ∃ (σ1 : Shp) (I1 : Nat → Nat → Int32) (R1 : Nat → Nat → Option Nat) (i1 : Int32) (I2 : Nat → Nat → Int32) (i2 : Int32), gX11_card σ I R x1 = some (σ1, I1, R1, i1) ∧ gX12_card I1 x1 = some (I2, i2) ∧ i1 = i2 ∧ Skel σ1 R1 ∧ Rel (n + 1) σ1 I2 J D R1 := by
  have n9 := h.n9 hn
  have z0 := h.rn
  have z1 := h.rs
  obtain ⟨⟨σ1, I1, R1, i1⟩, e1, ⟨I2, i2⟩, e2, ⟨q0, q1, q2⟩⟩ := c_card h.sk n9.2.1 h.sc h.th
  have zz : Sk2 σ I R σ1 I1 R1 := zX11_card (Sk2.rf h.sk) e1
  have wk : Kp [(133, 134), (1000032, 1000033)] I1 I2 := Ag.kp (aX12_card _ e2) rfl
  have kR : Kp [(24, 25)] R R1 := Ag.kp q1.2.2.2.2 rfl
  have up := gr_up h.rn h.rs (show Grow σ σ1 from q2)
  have g0 : RelS (n + 1) σ1 I2 J R1 := ⟨zz.1, up.1, up.2, (zz.frm h.fr (fun j => kR 24 j rfl)), q1.2.1⟩
  have g1 : RelI (n + 1) I2 := ⟨q1.1, (h.pl.kp (Ag.kp q1.2.2.1 rfl)), (h.tr.kp (Ag.kp q1.2.2.1 rfl)), (h.ra.kp (Ag.kp q1.2.2.1 rfl)), (h.ta.kp (Ag.kp q1.2.2.1 rfl)), (h.bo.kp (Ag.kp q1.2.2.1 rfl)), (h.of.kp (Ag.kp q1.2.2.1 rfl)), (h.sa.kp (Ag.kp q1.2.2.1 rfl)), (h.wa.kq (fun k => by rw [wk 133 k rfl]; exact (zz.2.2.2.2 k).1) (by rw [wk 114 32 rfl]; exact (zz.2.2.2.2 32).2)).up⟩
  have g2 : RelJ I2 J D := ⟨(h.st.kp (Ag.kp q1.2.2.1 rfl) Kp.rf), (h.fe.kp (Ag.kp q1.2.2.1 rfl) Kp.rf), (h.pe.kp (Ag.kp q1.2.2.1 rfl) Kp.rf), (h.ho.kp (Ag.kp q1.2.2.1 rfl) Kp.rf Kp.rf), h.pa⟩
  exact ⟨σ1, I1, R1, i1, I2, i2, e1, e2, q0, g0.1, ⟨g0, g1, g2⟩⟩
theorem s_field {n : Nat} {σ : Shp} {I : Nat → Nat → Int32} {J : Nat → Nat → Int64} {D : Nat → Nat → UInt64} {R : Nat → Nat → Option Nat} {x1 : Int32} {x2 : Int32} (h : Rel n σ I J D R) (hn : n < 512) : ∃ (I1 : Nat → Nat → Int32) (j1 : Int64) (I2 : Nat → Nat → Int32) (j2 : Int64), gX11_field σ I J R x1 x2 = some (I1, j1) ∧ gX12_field I1 J x1 x2 = some (I2, j2) ∧ j1 = j2 ∧ Skel σ R ∧ Rel (n + 1) σ I2 J D R := by
  have n9 := h.n9 hn
  have z0 := h.rn
  have z1 := h.rs
  obtain ⟨⟨I1, j1⟩, e1, ⟨I2, j2⟩, e2, ⟨q0, q1⟩⟩ := c_field h.sk n9.2.2.1 h.sc h.th
  have zz : Sk2 σ I R σ I1 R := zX11_field (Sk2.rf h.sk) e1
  have wk : Kp [(133, 134), (1000032, 1000033)] I1 I2 := Ag.kp (aX12_field _ e2) rfl
  have g0 : RelS (n + 1) σ I2 J R := ⟨h.sk, (by omega), (by omega), h.fr, q1.2.1⟩
  have g1 : RelI (n + 1) I2 := ⟨q1.1, (h.pl.kp (Ag.kp q1.2.2.1 rfl)), (h.tr.kp (Ag.kp q1.2.2.1 rfl)), (h.ra.kp (Ag.kp q1.2.2.1 rfl)), (h.ta.kp (Ag.kp q1.2.2.1 rfl)), (h.bo.kp (Ag.kp q1.2.2.1 rfl)), (h.of.kp (Ag.kp q1.2.2.1 rfl)), (h.sa.kp (Ag.kp q1.2.2.1 rfl)), (h.wa.kq (fun k => by rw [wk 133 k rfl]; exact (zz.2.2.2.2 k).1) (by rw [wk 114 32 rfl]; exact (zz.2.2.2.2 32).2)).up⟩
  have g2 : RelJ I2 J D := ⟨(h.st.kp (Ag.kp q1.2.2.1 rfl) Kp.rf), (h.fe.kp (Ag.kp q1.2.2.1 rfl) Kp.rf), (h.pe.kp (Ag.kp q1.2.2.1 rfl) Kp.rf), (h.ho.kp (Ag.kp q1.2.2.1 rfl) Kp.rf Kp.rf), h.pa⟩
  exact ⟨I1, j1, I2, j2, e1, e2, q0, g0.1, ⟨g0, g1, g2⟩⟩
theorem s_setField {n : Nat} {σ : Shp} {I : Nat → Nat → Int32} {J : Nat → Nat → Int64} {D : Nat → Nat → UInt64} {R : Nat → Nat → Option Nat} {x1 : Int32} {x2 : Int32} {x3 : Int64} (h : Rel n σ I J D R) (hn : n < 512) : ∃ (I1 : Nat → Nat → Int32) (J1 : Nat → Nat → Int64) (i1 : Int32) (I2 : Nat → Nat → Int32) (J2 : Nat → Nat → Int64) (i2 : Int32), gX11_setField σ I J R x1 x2 x3 = some (I1, J1, i1) ∧ gX12_setField I1 J1 x1 x2 x3 = some (I2, J2, i2) ∧ i1 = i2 ∧ Skel σ R ∧ Rel (n + 1) σ I2 J2 D R := by
  have n9 := h.n9 hn
  have z0 := h.rn
  have z1 := h.rs
  obtain ⟨⟨I1, J1, i1⟩, e1, ⟨I2, J2, i2⟩, e2, ⟨q0, q1⟩⟩ := c_setField h.sk n9.2.2.1 h.sc h.th
  have zz : Sk2 σ I R σ I1 R := zX11_setField (Sk2.rf h.sk) e1
  have wk : Kp [(133, 134), (1000032, 1000033)] I1 I2 := Ag.kp (aX12_setField _ e2).1 rfl
  have g0 : RelS (n + 1) σ I2 J2 R := ⟨h.sk, (by omega), (by omega), h.fr, q1.2.1⟩
  have g1 : RelI (n + 1) I2 := ⟨q1.1, (h.pl.kp (Ag.kp q1.2.2.1 rfl)), (h.tr.kp (Ag.kp q1.2.2.1 rfl)), (h.ra.kp (Ag.kp q1.2.2.1 rfl)), (h.ta.kp (Ag.kp q1.2.2.1 rfl)), (h.bo.kp (Ag.kp q1.2.2.1 rfl)), (h.of.kp (Ag.kp q1.2.2.1 rfl)), (h.sa.kp (Ag.kp q1.2.2.1 rfl)), (h.wa.kq (fun k => by rw [wk 133 k rfl]; exact (zz.2.2.2.2 k).1) (by rw [wk 114 32 rfl]; exact (zz.2.2.2.2 32).2)).up⟩
  have g2 : RelJ I2 J2 D := ⟨(h.st.kp (Ag.kp q1.2.2.1 rfl) (Ag.kp q1.2.2.2.1 rfl)), (h.fe.kp (Ag.kp q1.2.2.1 rfl) (Ag.kp q1.2.2.2.1 rfl)), (h.pe.kp (Ag.kp q1.2.2.1 rfl) (Ag.kp q1.2.2.2.1 rfl)), (h.ho.kp (Ag.kp q1.2.2.1 rfl) (Ag.kp q1.2.2.2.1 rfl) Kp.rf), h.pa⟩
  exact ⟨I1, J1, i1, I2, J2, i2, e1, e2, q0, g0.1, ⟨g0, g1, g2⟩⟩
theorem s_lead {n : Nat} {σ : Shp} {I : Nat → Nat → Int32} {J : Nat → Nat → Int64} {D : Nat → Nat → UInt64} {R : Nat → Nat → Option Nat} {x1 : Int32} {x2 : Int32} {x3 : Int32} (h : Rel n σ I J D R) (hn : n < 512) : ∃ (I1 : Nat → Nat → Int32) (R1 : Nat → Nat → Option Nat) (i1 : Int32) (I2 : Nat → Nat → Int32) (i2 : Int32), gX11_lead σ I R x1 x2 x3 = some (I1, R1, i1) ∧ gX12_lead σ I1 R1 x1 x2 x3 = some (I2, i2) ∧ i1 = i2 ∧ Skel σ R1 ∧ Rel (n + 1) σ I2 J D R1 := by
  have n9 := h.n9 hn
  have z0 := h.rn
  have z1 := h.rs
  obtain ⟨⟨I1, R1, i1⟩, e1, ⟨I2, i2⟩, e2, ⟨q0, q1⟩⟩ := c_lead h.sk n9.2.2.1 h.sc h.th
  have zz : Sk2 σ I R σ I1 R1 := zX11_lead (Sk2.rf h.sk) e1
  have wk : Kp [(133, 134), (1000032, 1000033)] I1 I2 := Ag.kp (aX12_lead _ e2) rfl
  have kR : Kp [(24, 25)] R R1 := Ag.kp q1.2.2.2.2 rfl
  have g0 : RelS (n + 1) σ I2 J R1 := ⟨zz.1, (by omega), (by omega), (zz.frm h.fr (fun j => kR 24 j rfl)), q1.2.1⟩
  have g1 : RelI (n + 1) I2 := ⟨q1.1, (h.pl.kp (Ag.kp q1.2.2.1 rfl)), (h.tr.kp (Ag.kp q1.2.2.1 rfl)), (h.ra.kp (Ag.kp q1.2.2.1 rfl)), (h.ta.kp (Ag.kp q1.2.2.1 rfl)), (h.bo.kp (Ag.kp q1.2.2.1 rfl)), (h.of.kp (Ag.kp q1.2.2.1 rfl)), (h.sa.kp (Ag.kp q1.2.2.1 rfl)), (h.wa.kq (fun k => by rw [wk 133 k rfl]; exact (zz.2.2.2.2 k).1) (by rw [wk 114 32 rfl]; exact (zz.2.2.2.2 32).2)).up⟩
  have g2 : RelJ I2 J D := ⟨(h.st.kp (Ag.kp q1.2.2.1 rfl) Kp.rf), (h.fe.kp (Ag.kp q1.2.2.1 rfl) Kp.rf), (h.pe.kp (Ag.kp q1.2.2.1 rfl) Kp.rf), (h.ho.kp (Ag.kp q1.2.2.1 rfl) Kp.rf Kp.rf), h.pa⟩
  exact ⟨I1, R1, i1, I2, i2, e1, e2, q0, g0.1, ⟨g0, g1, g2⟩⟩
theorem s_follow {n : Nat} {σ : Shp} {I : Nat → Nat → Int32} {J : Nat → Nat → Int64} {D : Nat → Nat → UInt64} {R : Nat → Nat → Option Nat} {x1 : Int32} {x2 : Int32} {x3 : Int32} (h : Rel n σ I J D R) (hn : n < 512) : ∃ (I1 : Nat → Nat → Int32) (R1 : Nat → Nat → Option Nat) (i1 : Int32) (I2 : Nat → Nat → Int32) (i2 : Int32), gX11_follow σ I R x1 x2 x3 = some (I1, R1, i1) ∧ gX12_follow I1 x1 x2 x3 = some (I2, i2) ∧ i1 = i2 ∧ Skel σ R1 ∧ Rel (n + 1) σ I2 J D R1 := by
  have n9 := h.n9 hn
  have z0 := h.rn
  have z1 := h.rs
  obtain ⟨⟨I1, R1, i1⟩, e1, ⟨I2, i2⟩, e2, ⟨q0, q1⟩⟩ := c_follow h.sk n9.2.2.1 h.sc h.th
  have zz : Sk2 σ I R σ I1 R1 := zX11_follow (Sk2.rf h.sk) e1
  have wk : Kp [(133, 134), (1000032, 1000033)] I1 I2 := Ag.kp (aX12_follow _ e2) rfl
  have kR : Kp [(24, 25)] R R1 := Ag.kp q1.2.2.2.2 rfl
  have g0 : RelS (n + 1) σ I2 J R1 := ⟨zz.1, (by omega), (by omega), (zz.frm h.fr (fun j => kR 24 j rfl)), q1.2.1⟩
  have g1 : RelI (n + 1) I2 := ⟨q1.1, (h.pl.kp (Ag.kp q1.2.2.1 rfl)), (h.tr.kp (Ag.kp q1.2.2.1 rfl)), (h.ra.kp (Ag.kp q1.2.2.1 rfl)), (h.ta.kp (Ag.kp q1.2.2.1 rfl)), (h.bo.kp (Ag.kp q1.2.2.1 rfl)), (h.of.kp (Ag.kp q1.2.2.1 rfl)), (h.sa.kp (Ag.kp q1.2.2.1 rfl)), (h.wa.kq (fun k => by rw [wk 133 k rfl]; exact (zz.2.2.2.2 k).1) (by rw [wk 114 32 rfl]; exact (zz.2.2.2.2 32).2)).up⟩
  have g2 : RelJ I2 J D := ⟨(h.st.kp (Ag.kp q1.2.2.1 rfl) Kp.rf), (h.fe.kp (Ag.kp q1.2.2.1 rfl) Kp.rf), (h.pe.kp (Ag.kp q1.2.2.1 rfl) Kp.rf), (h.ho.kp (Ag.kp q1.2.2.1 rfl) Kp.rf Kp.rf), h.pa⟩
  exact ⟨I1, R1, i1, I2, i2, e1, e2, q0, g0.1, ⟨g0, g1, g2⟩⟩
theorem s_led {n : Nat} {σ : Shp} {I : Nat → Nat → Int32} {J : Nat → Nat → Int64} {D : Nat → Nat → UInt64} {R : Nat → Nat → Option Nat} {x1 : Int32} {x2 : Int32} (h : Rel n σ I J D R) (hn : n < 512) : ∃ (I1 : Nat → Nat → Int32) (i1 : Int32) (I2 : Nat → Nat → Int32) (i2 : Int32), gX11_led σ I R x1 x2 = some (I1, i1) ∧ gX12_led σ I1 R x1 x2 = some (I2, i2) ∧ i1 = i2 ∧ Skel σ R ∧ Rel (n + 1) σ I2 J D R := by
  have n9 := h.n9 hn
  have z0 := h.rn
  have z1 := h.rs
  obtain ⟨⟨I1, i1⟩, e1, ⟨I2, i2⟩, e2, ⟨q0, q1, q2⟩⟩ := c_led h.sk n9.2.2.1 h.sc h.th h.wa (by omega)
  have g0 : RelS (n + 1) σ I2 J R := ⟨h.sk, (by omega), (by omega), h.fr, q1.2.1⟩
  have g1 : RelI (n + 1) I2 := ⟨q1.1, (h.pl.kp (Ag.kp q1.2.2.1 rfl)), (h.tr.kp (Ag.kp q1.2.2.1 rfl)), (h.ra.kp (Ag.kp q1.2.2.1 rfl)), (h.ta.kp (Ag.kp q1.2.2.1 rfl)), (h.bo.kp (Ag.kp q1.2.2.1 rfl)), (h.of.kp (Ag.kp q1.2.2.1 rfl)), (h.sa.kp (Ag.kp q1.2.2.1 rfl)), q2⟩
  have g2 : RelJ I2 J D := ⟨(h.st.kp (Ag.kp q1.2.2.1 rfl) Kp.rf), (h.fe.kp (Ag.kp q1.2.2.1 rfl) Kp.rf), (h.pe.kp (Ag.kp q1.2.2.1 rfl) Kp.rf), (h.ho.kp (Ag.kp q1.2.2.1 rfl) Kp.rf Kp.rf), h.pa⟩
  exact ⟨I1, i1, I2, i2, e1, e2, q0, g0.1, ⟨g0, g1, g2⟩⟩
def Wq_step : List (Nat × Nat) := [(10, 11), (11, 12), (12, 13), (13, 14), (14, 15), (134, 135), (135, 136), (136, 137), (137, 138), (138, 139)]
theorem s_step {n : Nat} {σ : Shp} {I : Nat → Nat → Int32} {J : Nat → Nat → Int64} {D : Nat → Nat → UInt64} {R : Nat → Nat → Option Nat} {x1 : Int32} {x2 : Int32} {x3 : Int32} {x4 : Int32} {x5 : Int32} (h : Rel n σ I J D R) (hn : n < 512) : ∃ (I1 : Nat → Nat → Int32) (i1 : Int32) (I2 : Nat → Nat → Int32) (i2 : Int32), gX11_step I x1 x2 x3 x4 x5 = some (I1, i1) ∧ gX12_step I1 x1 x2 x3 x4 x5 = some (I2, i2) ∧ i1 = i2 ∧ Skel σ R ∧ Rel (n + 1) σ I2 J D R := by
  have n9 := h.n9 hn
  have z0 := h.rn
  have z1 := h.rs
  obtain ⟨⟨I1, i1⟩, e1, ⟨I2, i2⟩, e2, ⟨q0, q1⟩⟩ := c_step h.pl
  have aI : Ag Wq_step I I2 := Ag.tr (Ag.mo rfl (aX11_step _ e1)) (Ag.mo rfl (aX12_step _ e2))
  have g0 : RelS (n + 1) σ I2 J R := ⟨h.sk, (by omega), (by omega), h.fr, (GThing.ag h.th n9.2.2.2.2 aI (Ag.rf (W := [])) rfl rfl rfl rfl)⟩
  have g1 : RelI (n + 1) I2 := ⟨(h.sc.kp (Ag.kp aI rfl)), q1, (h.tr.kp (Ag.kp aI rfl)), (h.ra.kp (Ag.kp aI rfl)), (h.ta.kp (Ag.kp aI rfl)), (h.bo.kp (Ag.kp aI rfl)), (h.of.kp (Ag.kp aI rfl)), (h.sa.kp (Ag.kp aI rfl)), (h.wa.kp (Ag.kp aI rfl)).up⟩
  have g2 : RelJ I2 J D := ⟨(h.st.kp (Ag.kp aI rfl) Kp.rf), (h.fe.kp (Ag.kp aI rfl) Kp.rf), (h.pe.kp (Ag.kp aI rfl) Kp.rf), (h.ho.kp (Ag.kp aI rfl) Kp.rf Kp.rf), h.pa⟩
  exact ⟨I1, i1, I2, i2, e1, e2, q0, g0.1, ⟨g0, g1, g2⟩⟩
def Wq_drop : List (Nat × Nat) := [(10, 11), (134, 135)]
theorem s_drop {n : Nat} {σ : Shp} {I : Nat → Nat → Int32} {J : Nat → Nat → Int64} {D : Nat → Nat → UInt64} {R : Nat → Nat → Option Nat} {x1 : Int32} (h : Rel n σ I J D R) (hn : n < 512) : ∃ (I1 : Nat → Nat → Int32) (i1 : Int32) (I2 : Nat → Nat → Int32) (i2 : Int32), gX11_drop I x1 = some (I1, i1) ∧ gX12_drop I1 x1 = some (I2, i2) ∧ i1 = i2 ∧ Skel σ R ∧ Rel (n + 1) σ I2 J D R := by
  have n9 := h.n9 hn
  have z0 := h.rn
  have z1 := h.rs
  obtain ⟨⟨I1, i1⟩, e1, ⟨I2, i2⟩, e2, ⟨q0, q1⟩⟩ := c_drop h.pl
  have aI : Ag Wq_drop I I2 := Ag.tr (Ag.mo rfl (aX11_drop _ e1)) (Ag.mo rfl (aX12_drop _ e2))
  have g0 : RelS (n + 1) σ I2 J R := ⟨h.sk, (by omega), (by omega), h.fr, (GThing.ag h.th n9.2.2.2.2 aI (Ag.rf (W := [])) rfl rfl rfl rfl)⟩
  have g1 : RelI (n + 1) I2 := ⟨(h.sc.kp (Ag.kp aI rfl)), q1, (h.tr.kp (Ag.kp aI rfl)), (h.ra.kp (Ag.kp aI rfl)), (h.ta.kp (Ag.kp aI rfl)), (h.bo.kp (Ag.kp aI rfl)), (h.of.kp (Ag.kp aI rfl)), (h.sa.kp (Ag.kp aI rfl)), (h.wa.kp (Ag.kp aI rfl)).up⟩
  have g2 : RelJ I2 J D := ⟨(h.st.kp (Ag.kp aI rfl) Kp.rf), (h.fe.kp (Ag.kp aI rfl) Kp.rf), (h.pe.kp (Ag.kp aI rfl) Kp.rf), (h.ho.kp (Ag.kp aI rfl) Kp.rf Kp.rf), h.pa⟩
  exact ⟨I1, i1, I2, i2, e1, e2, q0, g0.1, ⟨g0, g1, g2⟩⟩
theorem s_formed {n : Nat} {σ : Shp} {I : Nat → Nat → Int32} {J : Nat → Nat → Int64} {D : Nat → Nat → UInt64} {R : Nat → Nat → Option Nat} {x1 : Int32} (h : Rel n σ I J D R) (hn : n < 512) : ∃ (I1 : Nat → Nat → Int32) (i1 : Int32) (I2 : Nat → Nat → Int32) (i2 : Int32), gX11_formed σ I R x1 = some (I1, i1) ∧ gX12_formed σ I1 R x1 = some (I2, i2) ∧ i1 = i2 ∧ Skel σ R ∧ Rel (n + 1) σ I2 J D R := by
  have n9 := h.n9 hn
  have z0 := h.rn
  have z1 := h.rs
  obtain ⟨⟨I1, i1⟩, e1, ⟨I2, i2⟩, e2, ⟨q0, q1, q2⟩⟩ := c_formed h.pl
  have g0 : RelS (n + 1) σ I2 J R := ⟨h.sk, (by omega), (by omega), h.fr, (GThing.ag h.th n9.2.2.2.2 q2 (Ag.rf (W := [])) rfl rfl rfl rfl)⟩
  have g1 : RelI (n + 1) I2 := ⟨(h.sc.kp (Ag.kp q2 rfl)), q1, (h.tr.kp (Ag.kp q2 rfl)), (h.ra.kp (Ag.kp q2 rfl)), (h.ta.kp (Ag.kp q2 rfl)), (h.bo.kp (Ag.kp q2 rfl)), (h.of.kp (Ag.kp q2 rfl)), (h.sa.kp (Ag.kp q2 rfl)), (h.wa.kp (Ag.kp q2 rfl)).up⟩
  have g2 : RelJ I2 J D := ⟨(h.st.kp (Ag.kp q2 rfl) Kp.rf), (h.fe.kp (Ag.kp q2 rfl) Kp.rf), (h.pe.kp (Ag.kp q2 rfl) Kp.rf), (h.ho.kp (Ag.kp q2 rfl) Kp.rf Kp.rf), h.pa⟩
  exact ⟨I1, i1, I2, i2, e1, e2, q0, g0.1, ⟨g0, g1, g2⟩⟩
theorem s_run {n : Nat} {σ : Shp} {I : Nat → Nat → Int32} {J : Nat → Nat → Int64} {D : Nat → Nat → UInt64} {R : Nat → Nat → Option Nat} {x1 : Int32} (h : Rel n σ I J D R) (hn : n < 512) : ∃ (σ1 : Shp) (I1 : Nat → Nat → Int32) (J1 : Nat → Nat → Int64) (R1 : Nat → Nat → Option Nat) (i1 : Int32) (I2 : Nat → Nat → Int32) (J2 : Nat → Nat → Int64) (i2 : Int32), gX11_run σ I J R x1 = some (σ1, I1, J1, R1, i1) ∧ gX12_run σ1 I1 J1 R1 x1 = some (I2, J2, i2) ∧ i1 = i2 ∧ Skel σ1 R1 ∧ Rel (n + 1) σ1 I2 J2 D R1 := by
  have n9 := h.n9 hn
  have z0 := h.rn
  have z1 := h.rs
  obtain ⟨⟨σ1, I1, J1, R1, i1⟩, e1, ⟨I2, J2, i2⟩, e2, ⟨q0, q1, q2, q3, q4, q5, q6⟩⟩ := c_run n9.2.2.2.1 h.sc h.th h.pl h.st h.tr h.ra h.fr h.sk
  have up := rn_up h.rn h.rs q5 q6
  have g0 : RelS (n + 1) σ1 I2 J2 R1 := ⟨q1.2.2.2.2.2.2.2, up.1, up.2, q1.2.2.2.2.2.2.1, q1.2.1⟩
  have g1 : RelI (n + 1) I2 := ⟨q1.1, q1.2.2.1, q1.2.2.2.2.1, q1.2.2.2.2.2.1, (h.ta.kp (Ag.kp q2 rfl)), (h.bo.kp (Ag.kp q2 rfl)), (h.of.kp (Ag.kp q2 rfl)), (h.sa.kp (Ag.kp q2 rfl)), (h.wa.kp (Ag.kp q2 rfl)).up⟩
  have g2 : RelJ I2 J2 D := ⟨q1.2.2.2.1, (h.fe.kp (Ag.kp q2 rfl) (Ag.kp q3 rfl)), (h.pe.kp (Ag.kp q2 rfl) (Ag.kp q3 rfl)), (h.ho.kp (Ag.kp q2 rfl) (Ag.kp q3 rfl) Kp.rf), h.pa⟩
  exact ⟨σ1, I1, J1, R1, i1, I2, J2, i2, e1, e2, q0, g0.1, ⟨g0, g1, g2⟩⟩
theorem s_ran {n : Nat} {σ : Shp} {I : Nat → Nat → Int32} {J : Nat → Nat → Int64} {D : Nat → Nat → UInt64} {R : Nat → Nat → Option Nat} {x1 : Int32} (h : Rel n σ I J D R) (hn : n < 512) : ∃ (i1 : Int32) (i2 : Int32), gX11_ran σ I R x1 = some i1 ∧ gX12_ran I x1 = some i2 ∧ i1 = i2 ∧ Skel σ R ∧ Rel (n + 1) σ I J D R := by
  have n9 := h.n9 hn
  have z0 := h.rn
  have z1 := h.rs
  obtain ⟨i1, e1, i2, e2, q0⟩ := c_ran h.ra
  exact ⟨i1, i2, e1, e2, q0, h.sk, h.up⟩
theorem s_stock {n : Nat} {σ : Shp} {I : Nat → Nat → Int32} {J : Nat → Nat → Int64} {D : Nat → Nat → UInt64} {R : Nat → Nat → Option Nat} {x1 : Int32} (h : Rel n σ I J D R) (hn : n < 512) : ∃ (j1 : Int64) (j2 : Int64), gX11_stock J x1 = some j1 ∧ gX12_stock J x1 = some j2 ∧ j1 = j2 ∧ Skel σ R ∧ Rel (n + 1) σ I J D R := by
  have n9 := h.n9 hn
  have z0 := h.rn
  have z1 := h.rs
  obtain ⟨j1, e1, j2, e2, q0⟩ := c_stock h.st
  exact ⟨j1, j2, e1, e2, q0, h.sk, h.up⟩
def Wq_setStock : List (Nat × Nat) := [(18, 19), (139, 140)]
theorem s_setStock {n : Nat} {σ : Shp} {I : Nat → Nat → Int32} {J : Nat → Nat → Int64} {D : Nat → Nat → UInt64} {R : Nat → Nat → Option Nat} {x1 : Int32} {x2 : Int64} (h : Rel n σ I J D R) (hn : n < 512) : ∃ (J1 : Nat → Nat → Int64) (i1 : Int32) (J2 : Nat → Nat → Int64) (i2 : Int32), gX11_setStock J x1 x2 = some (J1, i1) ∧ gX12_setStock J1 x1 x2 = some (J2, i2) ∧ i1 = i2 ∧ Skel σ R ∧ Rel (n + 1) σ I J2 D R := by
  have n9 := h.n9 hn
  have z0 := h.rn
  have z1 := h.rs
  obtain ⟨⟨J1, i1⟩, e1, ⟨J2, i2⟩, e2, ⟨q0, q1⟩⟩ := c_setStock h.st
  have aJ : Ag Wq_setStock J J2 := Ag.tr (Ag.mo rfl (aX11_setStock _ e1)) (Ag.mo rfl (aX12_setStock _ e2))
  have g0 : RelS (n + 1) σ I J2 R := ⟨h.sk, (by omega), (by omega), h.fr, (GThing.ag h.th n9.2.2.2.2 (Ag.rf (W := [])) aJ rfl rfl rfl rfl)⟩
  have g1 : RelI (n + 1) I := ⟨h.sc, h.pl, h.tr, h.ra, h.ta, h.bo, h.of, h.sa, h.wa.up⟩
  have g2 : RelJ I J2 D := ⟨q1, (h.fe.kp Kp.rf (Ag.kp aJ rfl)), (h.pe.kp Kp.rf (Ag.kp aJ rfl)), (h.ho.kp Kp.rf (Ag.kp aJ rfl) Kp.rf), h.pa⟩
  exact ⟨J1, i1, J2, i2, e1, e2, q0, g0.1, ⟨g0, g1, g2⟩⟩
theorem s_valve {n : Nat} {σ : Shp} {I : Nat → Nat → Int32} {J : Nat → Nat → Int64} {D : Nat → Nat → UInt64} {R : Nat → Nat → Option Nat} {x1 : Int32} {x2 : Int32} (h : Rel n σ I J D R) (hn : n < 512) : ∃ (i1 : Int32) (i2 : Int32), gX11_valve I x1 x2 = some i1 ∧ gX12_valve I x1 x2 = some i2 ∧ i1 = i2 ∧ Skel σ R ∧ Rel (n + 1) σ I J D R := by
  have n9 := h.n9 hn
  have z0 := h.rn
  have z1 := h.rs
  obtain ⟨i1, e1, i2, e2, q0⟩ := c_valve h.st
  exact ⟨i1, i2, e1, e2, q0, h.sk, h.up⟩
