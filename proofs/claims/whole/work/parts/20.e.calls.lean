/-! ===== a call, from Rel to Rel ===== -/
def Wq_line : List (Nat × Nat) := [(29, 32), (33, 36), (36, 37), (156, 157), (157, 158), (158, 159)]
theorem s_line {n : Nat} {σ : Shp} {I : Nat → Nat → Int32} {J : Nat → Nat → Int64} {D : Nat → Nat → UInt64} {R : Nat → Nat → Option Nat} {x1 : Int32} {x2 : Int32} {x3 : Int32} (h : Rel n σ I J D R) (hn : n < 512) : ∃ (I1 : Nat → Nat → Int32) (i1 : Int32) (I2 : Nat → Nat → Int32) (i2 : Int32), gX11_line σ I R x1 x2 x3 = some (I1, i1) ∧ gX12_line σ I1 R x1 x2 x3 = some (I2, i2) ∧ i1 = i2 ∧ Skel σ R ∧ Rel (n + 1) σ I2 J D R := by
  have n9 := h.n9 hn
  have z0 := h.rn
  have z1 := h.rs
  obtain ⟨⟨I1, i1⟩, e1, ⟨I2, i2⟩, e2, ⟨q0, q1⟩⟩ := c_line h.ta
  have aI : Ag Wq_line I I2 := Ag.tr (Ag.mo rfl (aX11_line _ e1)) (Ag.mo rfl (aX12_line _ e2))
  have g0 : RelS (n + 1) σ I2 J R := ⟨h.sk, (by omega), (by omega), h.fr, (GThing.ag h.th n9.2.2.2.2 aI (Ag.rf (W := [])) rfl rfl rfl rfl)⟩
  have g1 : RelI (n + 1) I2 := ⟨(h.sc.kp (Ag.kp aI rfl)), (h.pl.kp (Ag.kp aI rfl)), (h.tr.kp (Ag.kp aI rfl)), (h.ra.kp (Ag.kp aI rfl)), q1, (h.bo.kp (Ag.kp aI rfl)), (h.of.kp (Ag.kp aI rfl)), (h.sa.kp (Ag.kp aI rfl)), (h.wa.kp (Ag.kp aI rfl)).up⟩
  have g2 : RelJ I2 J D := ⟨(h.st.kp (Ag.kp aI rfl) Kp.rf), (h.fe.kp (Ag.kp aI rfl) Kp.rf), (h.pe.kp (Ag.kp aI rfl) Kp.rf), (h.ho.kp (Ag.kp aI rfl) Kp.rf Kp.rf), h.pa⟩
  exact ⟨I1, i1, I2, i2, e1, e2, q0, g0.1, ⟨g0, g1, g2⟩⟩
def Wq_rest : List (Nat × Nat) := [(37, 38), (159, 160)]
theorem s_rest {n : Nat} {σ : Shp} {I : Nat → Nat → Int32} {J : Nat → Nat → Int64} {D : Nat → Nat → UInt64} {R : Nat → Nat → Option Nat} {x1 : Int32} {x2 : Int32} (h : Rel n σ I J D R) (hn : n < 512) : ∃ (I1 : Nat → Nat → Int32) (i1 : Int32) (I2 : Nat → Nat → Int32) (i2 : Int32), gX11_rest I x1 x2 = some (I1, i1) ∧ gX12_rest I1 x1 x2 = some (I2, i2) ∧ i1 = i2 ∧ Skel σ R ∧ Rel (n + 1) σ I2 J D R := by
  have n9 := h.n9 hn
  have z0 := h.rn
  have z1 := h.rs
  obtain ⟨⟨I1, i1⟩, e1, ⟨I2, i2⟩, e2, ⟨q0, q1⟩⟩ := c_rest h.ta
  have aI : Ag Wq_rest I I2 := Ag.tr (Ag.mo rfl (aX11_rest _ e1)) (Ag.mo rfl (aX12_rest _ e2))
  have g0 : RelS (n + 1) σ I2 J R := ⟨h.sk, (by omega), (by omega), h.fr, (GThing.ag h.th n9.2.2.2.2 aI (Ag.rf (W := [])) rfl rfl rfl rfl)⟩
  have g1 : RelI (n + 1) I2 := ⟨(h.sc.kp (Ag.kp aI rfl)), (h.pl.kp (Ag.kp aI rfl)), (h.tr.kp (Ag.kp aI rfl)), (h.ra.kp (Ag.kp aI rfl)), q1, (h.bo.kp (Ag.kp aI rfl)), (h.of.kp (Ag.kp aI rfl)), (h.sa.kp (Ag.kp aI rfl)), (h.wa.kp (Ag.kp aI rfl)).up⟩
  have g2 : RelJ I2 J D := ⟨(h.st.kp (Ag.kp aI rfl) Kp.rf), (h.fe.kp (Ag.kp aI rfl) Kp.rf), (h.pe.kp (Ag.kp aI rfl) Kp.rf), (h.ho.kp (Ag.kp aI rfl) Kp.rf Kp.rf), h.pa⟩
  exact ⟨I1, i1, I2, i2, e1, e2, q0, g0.1, ⟨g0, g1, g2⟩⟩
theorem s_value {n : Nat} {σ : Shp} {I : Nat → Nat → Int32} {J : Nat → Nat → Int64} {D : Nat → Nat → UInt64} {R : Nat → Nat → Option Nat} {x1 : Int32} {x2 : Int32} (h : Rel n σ I J D R) (hn : n < 512) : ∃ (I1 : Nat → Nat → Int32) (i1 : Int32) (I2 : Nat → Nat → Int32) (i2 : Int32), gX11_value σ I R x1 x2 = some (I1, i1) ∧ gX12_value σ I1 R x1 x2 = some (I2, i2) ∧ i1 = i2 ∧ Skel σ R ∧ Rel (n + 1) σ I2 J D R := by
  have n9 := h.n9 hn
  have z0 := h.rn
  have z1 := h.rs
  obtain ⟨⟨I1, i1⟩, e1, ⟨I2, i2⟩, e2, ⟨q0, q1, q2, q3⟩⟩ := c_value h.sk h.ta h.of
  have g0 : RelS (n + 1) σ I2 J R := ⟨h.sk, (by omega), (by omega), h.fr, (GThing.ag h.th n9.2.2.2.2 q3 (Ag.rf (W := [])) rfl rfl rfl rfl)⟩
  have g1 : RelI (n + 1) I2 := ⟨(h.sc.kp (Ag.kp q3 rfl)), (h.pl.kp (Ag.kp q3 rfl)), (h.tr.kp (Ag.kp q3 rfl)), (h.ra.kp (Ag.kp q3 rfl)), q1, (h.bo.kp (Ag.kp q3 rfl)), q2, (h.sa.kp (Ag.kp q3 rfl)), (h.wa.kp (Ag.kp q3 rfl)).up⟩
  have g2 : RelJ I2 J D := ⟨(h.st.kp (Ag.kp q3 rfl) Kp.rf), (h.fe.kp (Ag.kp q3 rfl) Kp.rf), (h.pe.kp (Ag.kp q3 rfl) Kp.rf), (h.ho.kp (Ag.kp q3 rfl) Kp.rf Kp.rf), h.pa⟩
  exact ⟨I1, i1, I2, i2, e1, e2, q0, g0.1, ⟨g0, g1, g2⟩⟩
theorem s_laid {n : Nat} {σ : Shp} {I : Nat → Nat → Int32} {J : Nat → Nat → Int64} {D : Nat → Nat → UInt64} {R : Nat → Nat → Option Nat} {x1 : Int32} (h : Rel n σ I J D R) (hn : n < 512) : ∃ (i1 : Int32) (i2 : Int32), gX11_laid I x1 = some i1 ∧ gX12_laid I x1 = some i2 ∧ i1 = i2 ∧ Skel σ R ∧ Rel (n + 1) σ I J D R := by
  have n9 := h.n9 hn
  have z0 := h.rn
  have z1 := h.rs
  obtain ⟨i1, e1, i2, e2, q0⟩ := c_laid h.ta
  exact ⟨i1, i2, e1, e2, q0, h.sk, h.up⟩
def Wq_read : List (Nat × Nat) := [(52, 53), (53, 54), (165, 166)]
theorem s_read {n : Nat} {σ : Shp} {I : Nat → Nat → Int32} {J : Nat → Nat → Int64} {D : Nat → Nat → UInt64} {R : Nat → Nat → Option Nat} {x1 : Int32} {x2 : Int64} (h : Rel n σ I J D R) (hn : n < 512) : ∃ (J1 : Nat → Nat → Int64) (D1 : Nat → Nat → UInt64) (i1 : Int32) (J2 : Nat → Nat → Int64) (i2 : Int32), gX11_read J D x1 x2 = some (J1, D1, i1) ∧ gX12_read J1 x1 x2 = some (J2, i2) ∧ i1 = i2 ∧ Skel σ R ∧ Rel (n + 1) σ I J2 D1 R := by
  have n9 := h.n9 hn
  have z0 := h.rn
  have z1 := h.rs
  obtain ⟨⟨J1, D1, i1⟩, e1, ⟨J2, i2⟩, e2, ⟨q0, q1⟩⟩ := c_read h.ho
  have aJ : Ag Wq_read J J2 := Ag.tr (Ag.mo rfl (aX11_read _ e1).1) (Ag.mo rfl (aX12_read _ e2))
  have aD : Ag Wq_read D D1 := Ag.mo rfl (aX11_read _ e1).2
  have g0 : RelS (n + 1) σ I J2 R := ⟨h.sk, (by omega), (by omega), h.fr, (GThing.ag h.th n9.2.2.2.2 (Ag.rf (W := [])) aJ rfl rfl rfl rfl)⟩
  have g1 : RelI (n + 1) I := ⟨h.sc, h.pl, h.tr, h.ra, h.ta, h.bo, h.of, h.sa, h.wa.up⟩
  have g2 : RelJ I J2 D1 := ⟨(h.st.kp Kp.rf (Ag.kp aJ rfl)), (h.fe.kp Kp.rf (Ag.kp aJ rfl)), (h.pe.kp Kp.rf (Ag.kp aJ rfl)), q1, (h.pa.kp (Ag.kp aD rfl))⟩
  exact ⟨J1, D1, i1, J2, i2, e1, e2, q0, g0.1, ⟨g0, g1, g2⟩⟩
def Wq_part : List (Nat × Nat) := [(26, 27), (1000094, 1000095)]
theorem s_part {n : Nat} {σ : Shp} {I : Nat → Nat → Int32} {J : Nat → Nat → Int64} {D : Nat → Nat → UInt64} {R : Nat → Nat → Option Nat} {x1 : Int64} (h : Rel n σ I J D R) (hn : n < 512) : ∃ (D1 : Nat → Nat → UInt64) (i1 : Int32) (D2 : Nat → Nat → UInt64) (i2 : Int32), gX11_part D x1 = some (D1, i1) ∧ gX12_part D1 x1 = some (D2, i2) ∧ i1 = i2 ∧ Skel σ R ∧ Rel (n + 1) σ I J D2 R := by
  have n9 := h.n9 hn
  have z0 := h.rn
  have z1 := h.rs
  obtain ⟨⟨D1, i1⟩, e1, ⟨D2, i2⟩, e2, ⟨q0, q1, q2⟩⟩ := c_part h.ho h.pa
  have aD : Ag Wq_part D D2 := Ag.tr (Ag.mo rfl (aX11_part _ e1)) (Ag.mo rfl (aX12_part _ e2))
  have g0 : RelS (n + 1) σ I J R := ⟨h.sk, (by omega), (by omega), h.fr, h.th⟩
  have g1 : RelI (n + 1) I := ⟨h.sc, h.pl, h.tr, h.ra, h.ta, h.bo, h.of, h.sa, h.wa.up⟩
  have g2 : RelJ I J D2 := ⟨h.st, h.fe, h.pe, q1, q2⟩
  exact ⟨D1, i1, D2, i2, e1, e2, q0, g0.1, ⟨g0, g1, g2⟩⟩
theorem s_probe {n : Nat} {σ : Shp} {I : Nat → Nat → Int32} {J : Nat → Nat → Int64} {D : Nat → Nat → UInt64} {R : Nat → Nat → Option Nat} {x1 : Int32} {x2 : Int32} (h : Rel n σ I J D R) (hn : n < 512) : ∃ (i1 : Int32) (i2 : Int32), gX11_probe I x1 x2 = some i1 ∧ gX12_probe I x1 x2 = some i2 ∧ i1 = i2 ∧ Skel σ R ∧ Rel (n + 1) σ I J D R := by
  have n9 := h.n9 hn
  have z0 := h.rn
  have z1 := h.rs
  obtain ⟨i1, e1, i2, e2, q0⟩ := c_probe h.ho
  exact ⟨i1, i2, e1, e2, q0, h.sk, h.up⟩
theorem s_voted {n : Nat} {σ : Shp} {I : Nat → Nat → Int32} {J : Nat → Nat → Int64} {D : Nat → Nat → UInt64} {R : Nat → Nat → Option Nat} {x1 : Int32} (h : Rel n σ I J D R) (hn : n < 512) : ∃ (j1 : Int64) (j2 : Int64), gX11_voted J x1 = some j1 ∧ gX12_voted J x1 = some j2 ∧ j1 = j2 ∧ Skel σ R ∧ Rel (n + 1) σ I J D R := by
  have n9 := h.n9 hn
  have z0 := h.rn
  have z1 := h.rs
  obtain ⟨j1, e1, j2, e2, q0⟩ := c_voted h.ho
  exact ⟨j1, j2, e1, e2, q0, h.sk, h.up⟩
def Wq_weather : List (Nat × Nat) := [(61, 62), (174, 175)]
theorem s_weather {n : Nat} {σ : Shp} {I : Nat → Nat → Int32} {J : Nat → Nat → Int64} {D : Nat → Nat → UInt64} {R : Nat → Nat → Option Nat} {x1 : Int32} {x2 : Int32} (h : Rel n σ I J D R) (hn : n < 512) : ∃ (I1 : Nat → Nat → Int32) (i1 : Int32) (I2 : Nat → Nat → Int32) (i2 : Int32), gX11_weather I x1 x2 = some (I1, i1) ∧ gX12_weather σ I1 R x1 x2 = some (I2, i2) ∧ i1 = i2 ∧ Skel σ R ∧ Rel (n + 1) σ I2 J D R := by
  have n9 := h.n9 hn
  have z0 := h.rn
  have z1 := h.rs
  obtain ⟨⟨I1, i1⟩, e1, ⟨I2, i2⟩, e2, ⟨q0, q1⟩⟩ := c_weather h.ho
  have aI : Ag Wq_weather I I2 := Ag.tr (Ag.mo rfl (aX11_weather _ e1)) (Ag.mo rfl (aX12_weather _ e2))
  have g0 : RelS (n + 1) σ I2 J R := ⟨h.sk, (by omega), (by omega), h.fr, (GThing.ag h.th n9.2.2.2.2 aI (Ag.rf (W := [])) rfl rfl rfl rfl)⟩
  have g1 : RelI (n + 1) I2 := ⟨(h.sc.kp (Ag.kp aI rfl)), (h.pl.kp (Ag.kp aI rfl)), (h.tr.kp (Ag.kp aI rfl)), (h.ra.kp (Ag.kp aI rfl)), (h.ta.kp (Ag.kp aI rfl)), (h.bo.kp (Ag.kp aI rfl)), (h.of.kp (Ag.kp aI rfl)), (h.sa.kp (Ag.kp aI rfl)), (h.wa.kp (Ag.kp aI rfl)).up⟩
  have g2 : RelJ I2 J D := ⟨(h.st.kp (Ag.kp aI rfl) Kp.rf), (h.fe.kp (Ag.kp aI rfl) Kp.rf), (h.pe.kp (Ag.kp aI rfl) Kp.rf), q1, h.pa⟩
  exact ⟨I1, i1, I2, i2, e1, e2, q0, g0.1, ⟨g0, g1, g2⟩⟩
def Wq_mark : List (Nat × Nat) := [(63, 66), (67, 70), (70, 71), (181, 182), (182, 183), (183, 184)]
theorem s_mark {n : Nat} {σ : Shp} {I : Nat → Nat → Int32} {J : Nat → Nat → Int64} {D : Nat → Nat → UInt64} {R : Nat → Nat → Option Nat} {x1 : Int32} {x2 : Int32} {x3 : Int32} (h : Rel n σ I J D R) (hn : n < 512) : ∃ (I1 : Nat → Nat → Int32) (i1 : Int32) (I2 : Nat → Nat → Int32) (i2 : Int32), gX11_mark σ I R x1 x2 x3 = some (I1, i1) ∧ gX12_mark σ I1 R x1 x2 x3 = some (I2, i2) ∧ i1 = i2 ∧ Skel σ R ∧ Rel (n + 1) σ I2 J D R := by
  have n9 := h.n9 hn
  have z0 := h.rn
  have z1 := h.rs
  obtain ⟨⟨I1, i1⟩, e1, ⟨I2, i2⟩, e2, ⟨q0, q1⟩⟩ := c_mark h.ho
  have aI : Ag Wq_mark I I2 := Ag.tr (Ag.mo rfl (aX11_mark _ e1)) (Ag.mo rfl (aX12_mark _ e2))
  have g0 : RelS (n + 1) σ I2 J R := ⟨h.sk, (by omega), (by omega), h.fr, (GThing.ag h.th n9.2.2.2.2 aI (Ag.rf (W := [])) rfl rfl rfl rfl)⟩
  have g1 : RelI (n + 1) I2 := ⟨(h.sc.kp (Ag.kp aI rfl)), (h.pl.kp (Ag.kp aI rfl)), (h.tr.kp (Ag.kp aI rfl)), (h.ra.kp (Ag.kp aI rfl)), (h.ta.kp (Ag.kp aI rfl)), (h.bo.kp (Ag.kp aI rfl)), (h.of.kp (Ag.kp aI rfl)), (h.sa.kp (Ag.kp aI rfl)), (h.wa.kp (Ag.kp aI rfl)).up⟩
  have g2 : RelJ I2 J D := ⟨(h.st.kp (Ag.kp aI rfl) Kp.rf), (h.fe.kp (Ag.kp aI rfl) Kp.rf), (h.pe.kp (Ag.kp aI rfl) Kp.rf), q1, h.pa⟩
  exact ⟨I1, i1, I2, i2, e1, e2, q0, g0.1, ⟨g0, g1, g2⟩⟩
def Wq_unmark : List (Nat × Nat) := [(70, 71), (181, 182)]
theorem s_unmark {n : Nat} {σ : Shp} {I : Nat → Nat → Int32} {J : Nat → Nat → Int64} {D : Nat → Nat → UInt64} {R : Nat → Nat → Option Nat} {x1 : Int32} (h : Rel n σ I J D R) (hn : n < 512) : ∃ (I1 : Nat → Nat → Int32) (i1 : Int32) (I2 : Nat → Nat → Int32) (i2 : Int32), gX11_unmark I x1 = some (I1, i1) ∧ gX12_unmark I1 x1 = some (I2, i2) ∧ i1 = i2 ∧ Skel σ R ∧ Rel (n + 1) σ I2 J D R := by
  have n9 := h.n9 hn
  have z0 := h.rn
  have z1 := h.rs
  obtain ⟨⟨I1, i1⟩, e1, ⟨I2, i2⟩, e2, ⟨q0, q1⟩⟩ := c_unmark h.ho
  have aI : Ag Wq_unmark I I2 := Ag.tr (Ag.mo rfl (aX11_unmark _ e1)) (Ag.mo rfl (aX12_unmark _ e2))
  have g0 : RelS (n + 1) σ I2 J R := ⟨h.sk, (by omega), (by omega), h.fr, (GThing.ag h.th n9.2.2.2.2 aI (Ag.rf (W := [])) rfl rfl rfl rfl)⟩
  have g1 : RelI (n + 1) I2 := ⟨(h.sc.kp (Ag.kp aI rfl)), (h.pl.kp (Ag.kp aI rfl)), (h.tr.kp (Ag.kp aI rfl)), (h.ra.kp (Ag.kp aI rfl)), (h.ta.kp (Ag.kp aI rfl)), (h.bo.kp (Ag.kp aI rfl)), (h.of.kp (Ag.kp aI rfl)), (h.sa.kp (Ag.kp aI rfl)), (h.wa.kp (Ag.kp aI rfl)).up⟩
  have g2 : RelJ I2 J D := ⟨(h.st.kp (Ag.kp aI rfl) Kp.rf), (h.fe.kp (Ag.kp aI rfl) Kp.rf), (h.pe.kp (Ag.kp aI rfl) Kp.rf), q1, h.pa⟩
  exact ⟨I1, i1, I2, i2, e1, e2, q0, g0.1, ⟨g0, g1, g2⟩⟩
theorem s_wish {n : Nat} {σ : Shp} {I : Nat → Nat → Int32} {J : Nat → Nat → Int64} {D : Nat → Nat → UInt64} {R : Nat → Nat → Option Nat} {x1 : Int32} {x2 : Int32} (h : Rel n σ I J D R) (hn : n < 512) : ∃ (i1 : Int32) (i2 : Int32), gX11_wish σ I R x1 x2 = some i1 ∧ gX12_wish σ I R x1 x2 = some i2 ∧ i1 = i2 ∧ Skel σ R ∧ Rel (n + 1) σ I J D R := by
  have n9 := h.n9 hn
  have z0 := h.rn
  have z1 := h.rs
  obtain ⟨i1, e1, i2, e2, ⟨q0, -⟩⟩ := c_wish h.ho
  exact ⟨i1, i2, e1, e2, q0, h.sk, h.up⟩
theorem s_minute {n : Nat} {σ : Shp} {I : Nat → Nat → Int32} {J : Nat → Nat → Int64} {D : Nat → Nat → UInt64} {R : Nat → Nat → Option Nat} {x1 : Int32} (h : Rel n σ I J D R) (hn : n < 512) : ∃ (I1 : Nat → Nat → Int32) (J1 : Nat → Nat → Int64) (i1 : Int32) (I2 : Nat → Nat → Int32) (J2 : Nat → Nat → Int64) (i2 : Int32), gX11_minute σ I J D R x1 = some (I1, J1, i1) ∧ gX12_minute σ I1 J1 D R x1 = some (I2, J2, i2) ∧ i1 = i2 ∧ Skel σ R ∧ Rel (n + 1) σ I2 J2 D R := by
  have n9 := h.n9 hn
  have z0 := h.rn
  have z1 := h.rs
  obtain ⟨⟨I1, J1, i1⟩, e1, ⟨I2, J2, i2⟩, e2, ⟨q0, q1, q2, q3, q4, q5, q6⟩⟩ := c_minute h.sk h.ho h.ta h.of h.pa h.sa
  have g0 : RelS (n + 1) σ I2 J2 R := ⟨h.sk, (by omega), (by omega), h.fr, (GThing.ag h.th n9.2.2.2.2 q5 q6 rfl rfl rfl rfl)⟩
  have g1 : RelI (n + 1) I2 := ⟨(h.sc.kp (Ag.kp q5 rfl)), (h.pl.kp (Ag.kp q5 rfl)), (h.tr.kp (Ag.kp q5 rfl)), (h.ra.kp (Ag.kp q5 rfl)), q2, (h.bo.kp (Ag.kp q5 rfl)), q3, q4, (h.wa.kp (Ag.kp q5 rfl)).up⟩
  have g2 : RelJ I2 J2 D := ⟨(h.st.kp (Ag.kp q5 rfl) (Ag.kp q6 rfl)), (h.fe.kp (Ag.kp q5 rfl) (Ag.kp q6 rfl)), (h.pe.kp (Ag.kp q5 rfl) (Ag.kp q6 rfl)), q1, h.pa⟩
  exact ⟨I1, J1, i1, I2, J2, i2, e1, e2, q0, g0.1, ⟨g0, g1, g2⟩⟩
theorem s_air {n : Nat} {σ : Shp} {I : Nat → Nat → Int32} {J : Nat → Nat → Int64} {D : Nat → Nat → UInt64} {R : Nat → Nat → Option Nat} {x1 : Int32} {x2 : Int32} (h : Rel n σ I J D R) (hn : n < 512) : ∃ (j1 : Int64) (j2 : Int64), gX11_air J x1 x2 = some j1 ∧ gX12_air I J x1 x2 = some j2 ∧ j1 = j2 ∧ Skel σ R ∧ Rel (n + 1) σ I J D R := by
  have n9 := h.n9 hn
  have z0 := h.rn
  have z1 := h.rs
  obtain ⟨j1, e1, j2, e2, q0⟩ := c_air h.ho
  exact ⟨j1, j2, e1, e2, q0, h.sk, h.up⟩
theorem s_shares {n : Nat} {σ : Shp} {I : Nat → Nat → Int32} {J : Nat → Nat → Int64} {D : Nat → Nat → UInt64} {R : Nat → Nat → Option Nat} {x1 : Int32} {x2 : Int32} {x3 : Int32} (h : Rel n σ I J D R) (hn : n < 512) : ∃ (σ1 : Shp) (I1 : Nat → Nat → Int32) (J1 : Nat → Nat → Int64) (R1 : Nat → Nat → Option Nat) (i1 : Int32) (I2 : Nat → Nat → Int32) (J2 : Nat → Nat → Int64) (i2 : Int32), gX11_shares σ I J R x1 x2 x3 = some (σ1, I1, J1, R1, i1) ∧ gX12_shares σ1 I1 J1 R1 x1 x2 x3 = some (I2, J2, i2) ∧ i1 = i2 ∧ Skel σ1 R1 ∧ Rel (n + 1) σ1 I2 J2 D R1 := by
  have n9 := h.n9 hn
  have z0 := h.rn
  have z1 := h.rs
  obtain ⟨⟨σ1, I1, J1, R1, i1⟩, e1, ⟨I2, J2, i2⟩, e2, ⟨q0, q1⟩⟩ := c_shares h.sk n9.1 h.sc h.th
  have zz : Sk2 σ I R σ1 I1 R1 := zX11_shares (Sk2.rf h.sk) e1
  have wk : Kp [(133, 134), (1000032, 1000033)] I1 I2 := Ag.kp (aX12_shares _ e2).1 rfl
  have kR : Kp [(24, 25)] R R1 := Ag.kp q1.2.2.2.2.1 rfl
  have up := gr_up h.rn h.rs (show Grow σ σ1 from q1.2.2.2.2.2)
  have g0 : RelS (n + 1) σ1 I2 J2 R1 := ⟨zz.1, up.1, up.2, (zz.frm h.fr (fun j => kR 24 j rfl)), q1.2.1⟩
  have g1 : RelI (n + 1) I2 := ⟨q1.1, (h.pl.kp (Ag.kp q1.2.2.1 rfl)), (h.tr.kp (Ag.kp q1.2.2.1 rfl)), (h.ra.kp (Ag.kp q1.2.2.1 rfl)), (h.ta.kp (Ag.kp q1.2.2.1 rfl)), (h.bo.kp (Ag.kp q1.2.2.1 rfl)), (h.of.kp (Ag.kp q1.2.2.1 rfl)), (h.sa.kp (Ag.kp q1.2.2.1 rfl)), (h.wa.kq (fun k => by rw [wk 133 k rfl]; exact (zz.2.2.2.2 k).1) (by rw [wk 114 32 rfl]; exact (zz.2.2.2.2 32).2)).up⟩
  have g2 : RelJ I2 J2 D := ⟨(h.st.kp (Ag.kp q1.2.2.1 rfl) (Ag.kp q1.2.2.2.1 rfl)), (h.fe.kp (Ag.kp q1.2.2.1 rfl) (Ag.kp q1.2.2.2.1 rfl)), (h.pe.kp (Ag.kp q1.2.2.1 rfl) (Ag.kp q1.2.2.2.1 rfl)), (h.ho.kp (Ag.kp q1.2.2.1 rfl) (Ag.kp q1.2.2.2.1 rfl) Kp.rf), h.pa⟩
  exact ⟨σ1, I1, J1, R1, i1, I2, J2, i2, e1, e2, q0, g0.1, ⟨g0, g1, g2⟩⟩
def Wq_quotient : List (Nat × Nat) := [(1000001, 1000002), (1000002, 1000003), (2000013, 2000014), (2000014, 2000015)]
theorem s_quotient {n : Nat} {σ : Shp} {I : Nat → Nat → Int32} {J : Nat → Nat → Int64} {D : Nat → Nat → UInt64} {R : Nat → Nat → Option Nat} {x1 : Int32} {x2 : Int64} {x4 : Int64} {x6 : Int32} (h : Rel n σ I J D R) (hn : n < 512) : ∃ (I1 : Nat → Nat → Int32) (j1 : Int64) (I2 : Nat → Nat → Int32) (j2 : Int64), gX11_quotient σ I x1 x2 x4 x6 = some (I1, j1) ∧ gX12_quotient I1 x1 x2 x4 x6 = some (I2, j2) ∧ j1 = j2 ∧ Skel σ R ∧ Rel (n + 1) σ I2 J D R := by
  have n9 := h.n9 hn
  have z0 := h.rn
  have z1 := h.rs
  obtain ⟨⟨I1, j1⟩, e1, ⟨I2, j2⟩, e2, ⟨q0, q1⟩⟩ := c_quotient h.sc
  have aI : Ag Wq_quotient I I2 := Ag.tr (Ag.mo rfl (aX11_quotient _ e1)) (Ag.mo rfl (aX12_quotient _ e2))
  have g0 : RelS (n + 1) σ I2 J R := ⟨h.sk, (by omega), (by omega), h.fr, (GThing.ag h.th n9.2.2.2.2 aI (Ag.rf (W := [])) rfl rfl rfl rfl)⟩
  have g1 : RelI (n + 1) I2 := ⟨q1, (h.pl.kp (Ag.kp aI rfl)), (h.tr.kp (Ag.kp aI rfl)), (h.ra.kp (Ag.kp aI rfl)), (h.ta.kp (Ag.kp aI rfl)), (h.bo.kp (Ag.kp aI rfl)), (h.of.kp (Ag.kp aI rfl)), (h.sa.kp (Ag.kp aI rfl)), (h.wa.kp (Ag.kp aI rfl)).up⟩
  have g2 : RelJ I2 J D := ⟨(h.st.kp (Ag.kp aI rfl) Kp.rf), (h.fe.kp (Ag.kp aI rfl) Kp.rf), (h.pe.kp (Ag.kp aI rfl) Kp.rf), (h.ho.kp (Ag.kp aI rfl) Kp.rf Kp.rf), h.pa⟩
  exact ⟨I1, j1, I2, j2, e1, e2, q0, g0.1, ⟨g0, g1, g2⟩⟩
theorem s_compare {n : Nat} {σ : Shp} {I : Nat → Nat → Int32} {J : Nat → Nat → Int64} {D : Nat → Nat → UInt64} {R : Nat → Nat → Option Nat} {x1 : Int32} {x2 : Int32} {x3 : Int32} {x4 : Int32} {x5 : Int32} (h : Rel n σ I J D R) (hn : n < 512) : ∃ (I1 : Nat → Nat → Int32) (i1 : Int32) (I2 : Nat → Nat → Int32) (i2 : Int32), gX11_compare σ I J R x1 x2 x3 x4 x5 = some (I1, i1) ∧ gX12_compare σ I1 J R x1 x2 x3 x4 x5 = some (I2, i2) ∧ i1 = i2 ∧ Skel σ R ∧ Rel (n + 1) σ I2 J D R := by
  have n9 := h.n9 hn
  have z0 := h.rn
  have z1 := h.rs
  obtain ⟨⟨I1, i1⟩, e1, ⟨I2, i2⟩, e2, ⟨q0, q1⟩⟩ := c_compare h.sk n9.2.2.1 h.sc h.th
  have zz : Sk2 σ I R σ I1 R := zX11_compare (Sk2.rf h.sk) e1
  have wk : Kp [(133, 134), (1000032, 1000033)] I1 I2 := Ag.kp (aX12_compare _ e2) rfl
  have g0 : RelS (n + 1) σ I2 J R := ⟨h.sk, (by omega), (by omega), h.fr, q1.2.1⟩
  have g1 : RelI (n + 1) I2 := ⟨q1.1, (h.pl.kp (Ag.kp q1.2.2.1 rfl)), (h.tr.kp (Ag.kp q1.2.2.1 rfl)), (h.ra.kp (Ag.kp q1.2.2.1 rfl)), (h.ta.kp (Ag.kp q1.2.2.1 rfl)), (h.bo.kp (Ag.kp q1.2.2.1 rfl)), (h.of.kp (Ag.kp q1.2.2.1 rfl)), (h.sa.kp (Ag.kp q1.2.2.1 rfl)), (h.wa.kq (fun k => by rw [wk 133 k rfl]; exact (zz.2.2.2.2 k).1) (by rw [wk 114 32 rfl]; exact (zz.2.2.2.2 32).2)).up⟩
  have g2 : RelJ I2 J D := ⟨(h.st.kp (Ag.kp q1.2.2.1 rfl) Kp.rf), (h.fe.kp (Ag.kp q1.2.2.1 rfl) Kp.rf), (h.pe.kp (Ag.kp q1.2.2.1 rfl) Kp.rf), (h.ho.kp (Ag.kp q1.2.2.1 rfl) Kp.rf Kp.rf), h.pa⟩
  exact ⟨I1, i1, I2, i2, e1, e2, q0, g0.1, ⟨g0, g1, g2⟩⟩
theorem s_real {n : Nat} {σ : Shp} {I : Nat → Nat → Int32} {J : Nat → Nat → Int64} {D : Nat → Nat → UInt64} {R : Nat → Nat → Option Nat} {x1 : Int32} {x2 : Int32} {x3 : Int32} (h : Rel n σ I J D R) (hn : n < 512) : ∃ (I1 : Nat → Nat → Int32) (J1 : Nat → Nat → Int64) (j1 : Int64) (I2 : Nat → Nat → Int32) (J2 : Nat → Nat → Int64) (D2 : Nat → Nat → UInt64) (j2 : Int64), gX11_real σ I J R x1 x2 x3 = some (I1, J1, j1) ∧ gX12_real σ I1 J1 D R x1 x2 x3 = some (I2, J2, D2, j2) ∧ j1 = j2 ∧ Skel σ R ∧ Rel (n + 1) σ I2 J2 D2 R := by
  have n9 := h.n9 hn
  have z0 := h.rn
  have z1 := h.rs
  obtain ⟨⟨I1, J1, j1⟩, e1, ⟨I2, J2, D2, j2⟩, e2, ⟨q0, q1⟩⟩ := c_real h.sk n9.2.2.1 h.sc h.th
  have g0 : RelS (n + 1) σ I2 J2 R := ⟨h.sk, (by omega), (by omega), h.fr, q1.2.1⟩
  have g1 : RelI (n + 1) I2 := ⟨q1.1, (h.pl.kp (Ag.kp q1.2.2.1 rfl)), (h.tr.kp (Ag.kp q1.2.2.1 rfl)), (h.ra.kp (Ag.kp q1.2.2.1 rfl)), (h.ta.kp (Ag.kp q1.2.2.1 rfl)), (h.bo.kp (Ag.kp q1.2.2.1 rfl)), (h.of.kp (Ag.kp q1.2.2.1 rfl)), (h.sa.kp (Ag.kp q1.2.2.1 rfl)), (h.wa.kp (Ag.kp q1.2.2.1 rfl)).up⟩
  have g2 : RelJ I2 J2 D2 := ⟨(h.st.kp (Ag.kp q1.2.2.1 rfl) (Ag.kp q1.2.2.2.1 rfl)), (h.fe.kp (Ag.kp q1.2.2.1 rfl) (Ag.kp q1.2.2.2.1 rfl)), (h.pe.kp (Ag.kp q1.2.2.1 rfl) (Ag.kp q1.2.2.2.1 rfl)), (h.ho.kp (Ag.kp q1.2.2.1 rfl) (Ag.kp q1.2.2.2.1 rfl) (Ag.kp q1.2.2.2.2 rfl)), (h.pa.kp (Ag.kp q1.2.2.2.2 rfl))⟩
  exact ⟨I1, J1, j1, I2, J2, D2, j2, e1, e2, q0, g0.1, ⟨g0, g1, g2⟩⟩
theorem s_wholeMean {n : Nat} {σ : Shp} {I : Nat → Nat → Int32} {J : Nat → Nat → Int64} {D : Nat → Nat → UInt64} {R : Nat → Nat → Option Nat} {x1 : Int32} (h : Rel n σ I J D R) (hn : n < 512) : ∃ (I1 : Nat → Nat → Int32) (i1 : Int32) (I2 : Nat → Nat → Int32) (i2 : Int32), gX11_wholeMean σ I J R x1 = some (I1, i1) ∧ gX12_wholeMean σ I1 J R x1 = some (I2, i2) ∧ i1 = i2 ∧ Skel σ R ∧ Rel (n + 1) σ I2 J D R := by
  have n9 := h.n9 hn
  have z0 := h.rn
  have z1 := h.rs
  obtain ⟨⟨I1, i1⟩, e1, ⟨I2, i2⟩, e2, ⟨q0, q1⟩⟩ := c_wholeMean h.sk n9.2.2.1 h.sc h.th
  have zz : Sk2 σ I R σ I1 R := zX11_wholeMean (Sk2.rf h.sk) e1
  have wk : Kp [(133, 134), (1000032, 1000033)] I1 I2 := Ag.kp (aX12_wholeMean _ e2) rfl
  have g0 : RelS (n + 1) σ I2 J R := ⟨h.sk, (by omega), (by omega), h.fr, q1.2.1⟩
  have g1 : RelI (n + 1) I2 := ⟨q1.1, (h.pl.kp (Ag.kp q1.2.2.1 rfl)), (h.tr.kp (Ag.kp q1.2.2.1 rfl)), (h.ra.kp (Ag.kp q1.2.2.1 rfl)), (h.ta.kp (Ag.kp q1.2.2.1 rfl)), (h.bo.kp (Ag.kp q1.2.2.1 rfl)), (h.of.kp (Ag.kp q1.2.2.1 rfl)), (h.sa.kp (Ag.kp q1.2.2.1 rfl)), (h.wa.kq (fun k => by rw [wk 133 k rfl]; exact (zz.2.2.2.2 k).1) (by rw [wk 114 32 rfl]; exact (zz.2.2.2.2 32).2)).up⟩
  have g2 : RelJ I2 J D := ⟨(h.st.kp (Ag.kp q1.2.2.1 rfl) Kp.rf), (h.fe.kp (Ag.kp q1.2.2.1 rfl) Kp.rf), (h.pe.kp (Ag.kp q1.2.2.1 rfl) Kp.rf), (h.ho.kp (Ag.kp q1.2.2.1 rfl) Kp.rf Kp.rf), h.pa⟩
  exact ⟨I1, i1, I2, i2, e1, e2, q0, g0.1, ⟨g0, g1, g2⟩⟩
