/-! ===== a call, from Rel to Rel ===== -/
def Wq_salt : List (Nat × Nat) := [(73, 79), (188, 189)]
theorem s_salt {n : Nat} {σ : Shp} {I : Nat → Nat → Int32} {J : Nat → Nat → Int64} {D : Nat → Nat → UInt64} {R : Nat → Nat → Option Nat} {x1 : Int32} {x2 : Int32} {x3 : Int32} (h : Rel n σ I J D R) (hn : n < 512) : ∃ (I1 : Nat → Nat → Int32) (i1 : Int32) (I2 : Nat → Nat → Int32) (i2 : Int32), gX11_salt I x1 x2 x3 = some (I1, i1) ∧ gX12_salt σ I1 R x1 x2 x3 = some (I2, i2) ∧ i1 = i2 ∧ Skel σ R ∧ Rel (n + 1) σ I2 J D R := by
  have n9 := h.n9 hn
  have z0 := h.rn
  have z1 := h.rs
  obtain ⟨⟨I1, i1⟩, e1, ⟨I2, i2⟩, e2, ⟨q0, q1⟩⟩ := c_salt h.fe
  have aI : Ag Wq_salt I I2 := Ag.tr (Ag.mo rfl (aX11_salt _ e1)) (Ag.mo rfl (aX12_salt _ e2))
  have g0 : RelS (n + 1) σ I2 J R := ⟨h.sk, (by omega), (by omega), h.fr, (GThing.ag h.th n9.2.2.2.2 aI (Ag.rf (W := [])) rfl rfl rfl rfl)⟩
  have g1 : RelI (n + 1) I2 := ⟨(h.sc.kp (Ag.kp aI rfl)), (h.pl.kp (Ag.kp aI rfl)), (h.tr.kp (Ag.kp aI rfl)), (h.ra.kp (Ag.kp aI rfl)), (h.ta.kp (Ag.kp aI rfl)), (h.bo.kp (Ag.kp aI rfl)), (h.of.kp (Ag.kp aI rfl)), (h.sa.kp (Ag.kp aI rfl)), (h.wa.kp (Ag.kp aI rfl)).up⟩
  have g2 : RelJ I2 J D := ⟨(h.st.kp (Ag.kp aI rfl) Kp.rf), q1, (h.pe.kp (Ag.kp aI rfl) Kp.rf), (h.ho.kp (Ag.kp aI rfl) Kp.rf Kp.rf), h.pa⟩
  exact ⟨I1, i1, I2, i2, e1, e2, q0, g0.1, ⟨g0, g1, g2⟩⟩
def Wq_work : List (Nat × Nat) := [(71, 72), (80, 83), (84, 87), (87, 88), (88, 89), (89, 90), (90, 91), (189, 190), (190, 191), (191, 192), (192, 193), (193, 194), (194, 195), (1000114, 1000115), (1000115, 1000116), (1000116, 1000117)]
theorem s_work {n : Nat} {σ : Shp} {I : Nat → Nat → Int32} {J : Nat → Nat → Int64} {D : Nat → Nat → UInt64} {R : Nat → Nat → Option Nat}  (h : Rel n σ I J D R) (hn : n < 512) : ∃ (I1 : Nat → Nat → Int32) (J1 : Nat → Nat → Int64) (i1 : Int32) (I2 : Nat → Nat → Int32) (J2 : Nat → Nat → Int64) (i2 : Int32), gX11_work σ I J R = some (I1, J1, i1) ∧ gX12_work σ I1 J1 R = some (I2, J2, i2) ∧ i1 = i2 ∧ Skel σ R ∧ Rel (n + 1) σ I2 J2 D R := by
  have n9 := h.n9 hn
  have z0 := h.rn
  have z1 := h.rs
  obtain ⟨⟨I1, J1, i1⟩, e1, ⟨I2, J2, i2⟩, e2, ⟨q0, q1⟩⟩ := c_work h.fe
  have aI : Ag Wq_work I I2 := Ag.tr (Ag.mo rfl (aX11_work _ e1).1) (Ag.mo rfl (aX12_work _ e2).1)
  have aJ : Ag Wq_work J J2 := Ag.tr (Ag.mo rfl (aX11_work _ e1).2) (Ag.mo rfl (aX12_work _ e2).2)
  have g0 : RelS (n + 1) σ I2 J2 R := ⟨h.sk, (by omega), (by omega), h.fr, (GThing.ag h.th n9.2.2.2.2 aI aJ rfl rfl rfl rfl)⟩
  have g1 : RelI (n + 1) I2 := ⟨(h.sc.kp (Ag.kp aI rfl)), (h.pl.kp (Ag.kp aI rfl)), (h.tr.kp (Ag.kp aI rfl)), (h.ra.kp (Ag.kp aI rfl)), (h.ta.kp (Ag.kp aI rfl)), (h.bo.kp (Ag.kp aI rfl)), (h.of.kp (Ag.kp aI rfl)), (h.sa.kp (Ag.kp aI rfl)), (h.wa.kp (Ag.kp aI rfl)).up⟩
  have g2 : RelJ I2 J2 D := ⟨(h.st.kp (Ag.kp aI rfl) (Ag.kp aJ rfl)), q1, (h.pe.kp (Ag.kp aI rfl) (Ag.kp aJ rfl)), (h.ho.kp (Ag.kp aI rfl) (Ag.kp aJ rfl) Kp.rf), h.pa⟩
  exact ⟨I1, J1, i1, I2, J2, i2, e1, e2, q0, g0.1, ⟨g0, g1, g2⟩⟩
theorem s_worked {n : Nat} {σ : Shp} {I : Nat → Nat → Int32} {J : Nat → Nat → Int64} {D : Nat → Nat → UInt64} {R : Nat → Nat → Option Nat} {x1 : Int32} {x2 : Int32} (h : Rel n σ I J D R) (hn : n < 512) : ∃ (j1 : Int64) (j2 : Int64), gX11_worked I J x1 x2 = some j1 ∧ gX12_worked I J x1 x2 = some j2 ∧ j1 = j2 ∧ Skel σ R ∧ Rel (n + 1) σ I J D R := by
  have n9 := h.n9 hn
  have z0 := h.rn
  have z1 := h.rs
  obtain ⟨j1, e1, j2, e2, q0⟩ := c_worked h.fe
  exact ⟨j1, j2, e1, e2, q0, h.sk, h.up⟩
def Wq_count : List (Nat × Nat) := [(93, 95), (195, 196)]
theorem s_count {n : Nat} {σ : Shp} {I : Nat → Nat → Int32} {J : Nat → Nat → Int64} {D : Nat → Nat → UInt64} {R : Nat → Nat → Option Nat} {x1 : Int32} {x2 : Int32} {x3 : Int32} (h : Rel n σ I J D R) (hn : n < 512) : ∃ (J1 : Nat → Nat → Int64) (i1 : Int32) (J2 : Nat → Nat → Int64) (i2 : Int32), gX11_count J x1 x2 x3 = some (J1, i1) ∧ gX12_count J1 x1 x2 x3 = some (J2, i2) ∧ i1 = i2 ∧ Skel σ R ∧ Rel (n + 1) σ I J2 D R := by
  have n9 := h.n9 hn
  have z0 := h.rn
  have z1 := h.rs
  obtain ⟨⟨J1, i1⟩, e1, ⟨J2, i2⟩, e2, ⟨q0, q1⟩⟩ := c_count h.pe
  have aJ : Ag Wq_count J J2 := Ag.tr (Ag.mo rfl (aX11_count _ e1)) (Ag.mo rfl (aX12_count _ e2))
  have g0 : RelS (n + 1) σ I J2 R := ⟨h.sk, (by omega), (by omega), h.fr, (GThing.ag h.th n9.2.2.2.2 (Ag.rf (W := [])) aJ rfl rfl rfl rfl)⟩
  have g1 : RelI (n + 1) I := ⟨h.sc, h.pl, h.tr, h.ra, h.ta, h.bo, h.of, h.sa, h.wa.up⟩
  have g2 : RelJ I J2 D := ⟨(h.st.kp Kp.rf (Ag.kp aJ rfl)), (h.fe.kp Kp.rf (Ag.kp aJ rfl)), q1, (h.ho.kp Kp.rf (Ag.kp aJ rfl) Kp.rf), h.pa⟩
  exact ⟨J1, i1, J2, i2, e1, e2, q0, g0.1, ⟨g0, g1, g2⟩⟩
def Wq_parts : List (Nat × Nat) := [(96, 98), (99, 101), (102, 104), (196, 197), (197, 198), (198, 199)]
theorem s_parts {n : Nat} {σ : Shp} {I : Nat → Nat → Int32} {J : Nat → Nat → Int64} {D : Nat → Nat → UInt64} {R : Nat → Nat → Option Nat} {x1 : Int32} {x2 : Int32} {x3 : Int32} {x4 : Int32} {x5 : Int32} (h : Rel n σ I J D R) (hn : n < 512) : ∃ (I1 : Nat → Nat → Int32) (i1 : Int32) (I2 : Nat → Nat → Int32) (i2 : Int32), gX11_parts I x1 x2 x3 x4 x5 = some (I1, i1) ∧ gX12_parts I1 x1 x2 x3 x4 x5 = some (I2, i2) ∧ i1 = i2 ∧ Skel σ R ∧ Rel (n + 1) σ I2 J D R := by
  have n9 := h.n9 hn
  have z0 := h.rn
  have z1 := h.rs
  obtain ⟨⟨I1, i1⟩, e1, ⟨I2, i2⟩, e2, ⟨q0, q1⟩⟩ := c_parts h.pe
  have aI : Ag Wq_parts I I2 := Ag.tr (Ag.mo rfl (aX11_parts _ e1)) (Ag.mo rfl (aX12_parts _ e2))
  have g0 : RelS (n + 1) σ I2 J R := ⟨h.sk, (by omega), (by omega), h.fr, (GThing.ag h.th n9.2.2.2.2 aI (Ag.rf (W := [])) rfl rfl rfl rfl)⟩
  have g1 : RelI (n + 1) I2 := ⟨(h.sc.kp (Ag.kp aI rfl)), (h.pl.kp (Ag.kp aI rfl)), (h.tr.kp (Ag.kp aI rfl)), (h.ra.kp (Ag.kp aI rfl)), (h.ta.kp (Ag.kp aI rfl)), (h.bo.kp (Ag.kp aI rfl)), (h.of.kp (Ag.kp aI rfl)), (h.sa.kp (Ag.kp aI rfl)), (h.wa.kp (Ag.kp aI rfl)).up⟩
  have g2 : RelJ I2 J D := ⟨(h.st.kp (Ag.kp aI rfl) Kp.rf), (h.fe.kp (Ag.kp aI rfl) Kp.rf), q1, (h.ho.kp (Ag.kp aI rfl) Kp.rf Kp.rf), h.pa⟩
  exact ⟨I1, i1, I2, i2, e1, e2, q0, g0.1, ⟨g0, g1, g2⟩⟩
theorem s_day {n : Nat} {σ : Shp} {I : Nat → Nat → Int32} {J : Nat → Nat → Int64} {D : Nat → Nat → UInt64} {R : Nat → Nat → Option Nat} {x1 : Int32} (h : Rel n σ I J D R) (hn : n < 512) : ∃ (I1 : Nat → Nat → Int32) (J1 : Nat → Nat → Int64) (i1 : Int32) (I2 : Nat → Nat → Int32) (J2 : Nat → Nat → Int64) (i2 : Int32), gX11_day σ I J R x1 = some (I1, J1, i1) ∧ gX12_day σ I1 J1 R x1 = some (I2, J2, i2) ∧ i1 = i2 ∧ Skel σ R ∧ Rel (n + 1) σ I2 J2 D R := by
  have n9 := h.n9 hn
  have z0 := h.rn
  have z1 := h.rs
  obtain ⟨⟨I1, J1, i1⟩, e1, ⟨I2, J2, i2⟩, e2, ⟨q0, q1, q2, q3⟩⟩ := c_day h.sk h.pe
  have g0 : RelS (n + 1) σ I2 J2 R := ⟨h.sk, (by omega), (by omega), h.fr, (GThing.ag h.th n9.2.2.2.2 q2 q3 rfl rfl rfl rfl)⟩
  have g1 : RelI (n + 1) I2 := ⟨(h.sc.kp (Ag.kp q2 rfl)), (h.pl.kp (Ag.kp q2 rfl)), (h.tr.kp (Ag.kp q2 rfl)), (h.ra.kp (Ag.kp q2 rfl)), (h.ta.kp (Ag.kp q2 rfl)), (h.bo.kp (Ag.kp q2 rfl)), (h.of.kp (Ag.kp q2 rfl)), (h.sa.kp (Ag.kp q2 rfl)), (h.wa.kp (Ag.kp q2 rfl)).up⟩
  have g2 : RelJ I2 J2 D := ⟨(h.st.kp (Ag.kp q2 rfl) (Ag.kp q3 rfl)), (h.fe.kp (Ag.kp q2 rfl) (Ag.kp q3 rfl)), q1, (h.ho.kp (Ag.kp q2 rfl) (Ag.kp q3 rfl) Kp.rf), h.pa⟩
  exact ⟨I1, J1, i1, I2, J2, i2, e1, e2, q0, g0.1, ⟨g0, g1, g2⟩⟩
def Wq_spray : List (Nat × Nat) := [(91, 92), (93, 95), (195, 196), (1000126, 1000127)]
theorem s_spray {n : Nat} {σ : Shp} {I : Nat → Nat → Int32} {J : Nat → Nat → Int64} {D : Nat → Nat → UInt64} {R : Nat → Nat → Option Nat} {x1 : Int32} (h : Rel n σ I J D R) (hn : n < 512) : ∃ (I1 : Nat → Nat → Int32) (J1 : Nat → Nat → Int64) (i1 : Int32) (I2 : Nat → Nat → Int32) (J2 : Nat → Nat → Int64) (i2 : Int32), gX11_spray σ I J R x1 = some (I1, J1, i1) ∧ gX12_spray σ I1 J1 R x1 = some (I2, J2, i2) ∧ i1 = i2 ∧ Skel σ R ∧ Rel (n + 1) σ I2 J2 D R := by
  have n9 := h.n9 hn
  have z0 := h.rn
  have z1 := h.rs
  obtain ⟨⟨I1, J1, i1⟩, e1, ⟨I2, J2, i2⟩, e2, ⟨q0, q1⟩⟩ := c_spray h.pe
  have aI : Ag Wq_spray I I2 := Ag.tr (Ag.mo rfl (aX11_spray _ e1).1) (Ag.mo rfl (aX12_spray _ e2).1)
  have aJ : Ag Wq_spray J J2 := Ag.tr (Ag.mo rfl (aX11_spray _ e1).2) (Ag.mo rfl (aX12_spray _ e2).2)
  have g0 : RelS (n + 1) σ I2 J2 R := ⟨h.sk, (by omega), (by omega), h.fr, (GThing.ag h.th n9.2.2.2.2 aI aJ rfl rfl rfl rfl)⟩
  have g1 : RelI (n + 1) I2 := ⟨(h.sc.kp (Ag.kp aI rfl)), (h.pl.kp (Ag.kp aI rfl)), (h.tr.kp (Ag.kp aI rfl)), (h.ra.kp (Ag.kp aI rfl)), (h.ta.kp (Ag.kp aI rfl)), (h.bo.kp (Ag.kp aI rfl)), (h.of.kp (Ag.kp aI rfl)), (h.sa.kp (Ag.kp aI rfl)), (h.wa.kp (Ag.kp aI rfl)).up⟩
  have g2 : RelJ I2 J2 D := ⟨(h.st.kp (Ag.kp aI rfl) (Ag.kp aJ rfl)), (h.fe.kp (Ag.kp aI rfl) (Ag.kp aJ rfl)), q1, (h.ho.kp (Ag.kp aI rfl) (Ag.kp aJ rfl) Kp.rf), h.pa⟩
  exact ⟨I1, J1, i1, I2, J2, i2, e1, e2, q0, g0.1, ⟨g0, g1, g2⟩⟩
theorem s_pest {n : Nat} {σ : Shp} {I : Nat → Nat → Int32} {J : Nat → Nat → Int64} {D : Nat → Nat → UInt64} {R : Nat → Nat → Option Nat} {x1 : Int32} {x2 : Int32} (h : Rel n σ I J D R) (hn : n < 512) : ∃ (i1 : Int32) (i2 : Int32), gX11_pest J x1 x2 = some i1 ∧ gX12_pest J x1 x2 = some i2 ∧ i1 = i2 ∧ Skel σ R ∧ Rel (n + 1) σ I J D R := by
  have n9 := h.n9 hn
  have z0 := h.rn
  have z1 := h.rs
  obtain ⟨i1, e1, i2, e2, q0⟩ := c_pest h.pe
  exact ⟨i1, i2, e1, e2, q0, h.sk, h.up⟩
theorem s_wait1 {n : Nat} {σ : Shp} {I : Nat → Nat → Int32} {J : Nat → Nat → Int64} {D : Nat → Nat → UInt64} {R : Nat → Nat → Option Nat}  (h : Rel n σ I J D R) (hn : n < 512) : ∃ (i1 : Int32) (i2 : Int32), gX11_wait1 I = some i1 ∧ gX12_wait1 I = some i2 ∧ i1 = i2 ∧ Skel σ R ∧ Rel (n + 1) σ I J D R := by
  have n9 := h.n9 hn
  have z0 := h.rn
  have z1 := h.rs
  obtain ⟨i1, e1, i2, e2, q0⟩ := c_wait1 h.pe
  exact ⟨i1, i2, e1, e2, q0, h.sk, h.up⟩
theorem s_write {n : Nat} {σ : Shp} {I : Nat → Nat → Int32} {J : Nat → Nat → Int64} {D : Nat → Nat → UInt64} {R : Nat → Nat → Option Nat} {x1 : Int32} (h : Rel n σ I J D R) (hn : n < 512) : ∃ (I1 : Nat → Nat → Int32) (i1 : Int32) (I2 : Nat → Nat → Int32) (i2 : Int32), gX11_write σ I J R x1 = some (I1, i1) ∧ gX12_write σ I1 J R x1 = some (I2, i2) ∧ i1 = i2 ∧ Skel σ R ∧ Rel (n + 1) σ I2 J D R := by
  have n9 := h.n9 hn
  have z0 := h.rn
  have z1 := h.rs
  obtain ⟨⟨I1, i1⟩, e1, ⟨I2, i2⟩, e2, ⟨q0, q1, q2, q3⟩⟩ := c_write h.sk h.sc h.th h.bo
  have g0 : RelS (n + 1) σ I2 J R := ⟨h.sk, (by omega), (by omega), h.fr, (GThing.ag h.th n9.2.2.2.2 q3 (Ag.rf (W := [])) rfl rfl rfl rfl)⟩
  have g1 : RelI (n + 1) I2 := ⟨q1, (h.pl.kp (Ag.kp q3 rfl)), (h.tr.kp (Ag.kp q3 rfl)), (h.ra.kp (Ag.kp q3 rfl)), (h.ta.kp (Ag.kp q3 rfl)), q2, (h.of.kp (Ag.kp q3 rfl)), (h.sa.kp (Ag.kp q3 rfl)), (h.wa.kp (Ag.kp q3 rfl)).up⟩
  have g2 : RelJ I2 J D := ⟨(h.st.kp (Ag.kp q3 rfl) Kp.rf), (h.fe.kp (Ag.kp q3 rfl) Kp.rf), (h.pe.kp (Ag.kp q3 rfl) Kp.rf), (h.ho.kp (Ag.kp q3 rfl) Kp.rf Kp.rf), h.pa⟩
  exact ⟨I1, i1, I2, i2, e1, e2, q0, g0.1, ⟨g0, g1, g2⟩⟩
def Wq_power : List (Nat × Nat) := [(108, 109), (1000132, 1000133)]
theorem s_power {n : Nat} {σ : Shp} {I : Nat → Nat → Int32} {J : Nat → Nat → Int64} {D : Nat → Nat → UInt64} {R : Nat → Nat → Option Nat} {x1 : Int32} (h : Rel n σ I J D R) (hn : n < 512) : ∃ (I1 : Nat → Nat → Int32) (i1 : Int32) (I2 : Nat → Nat → Int32) (i2 : Int32), gX11_power I x1 = some (I1, i1) ∧ gX12_power I1 x1 = some (I2, i2) ∧ i1 = i2 ∧ Skel σ R ∧ Rel (n + 1) σ I2 J D R := by
  have n9 := h.n9 hn
  have z0 := h.rn
  have z1 := h.rs
  obtain ⟨⟨I1, i1⟩, e1, ⟨I2, i2⟩, e2, ⟨q0, q1⟩⟩ := c_power h.bo
  have aI : Ag Wq_power I I2 := Ag.tr (Ag.mo rfl (aX11_power _ e1)) (Ag.mo rfl (aX12_power _ e2))
  have g0 : RelS (n + 1) σ I2 J R := ⟨h.sk, (by omega), (by omega), h.fr, (GThing.ag h.th n9.2.2.2.2 aI (Ag.rf (W := [])) rfl rfl rfl rfl)⟩
  have g1 : RelI (n + 1) I2 := ⟨(h.sc.kp (Ag.kp aI rfl)), (h.pl.kp (Ag.kp aI rfl)), (h.tr.kp (Ag.kp aI rfl)), (h.ra.kp (Ag.kp aI rfl)), (h.ta.kp (Ag.kp aI rfl)), q1, (h.of.kp (Ag.kp aI rfl)), (h.sa.kp (Ag.kp aI rfl)), (h.wa.kp (Ag.kp aI rfl)).up⟩
  have g2 : RelJ I2 J D := ⟨(h.st.kp (Ag.kp aI rfl) Kp.rf), (h.fe.kp (Ag.kp aI rfl) Kp.rf), (h.pe.kp (Ag.kp aI rfl) Kp.rf), (h.ho.kp (Ag.kp aI rfl) Kp.rf Kp.rf), h.pa⟩
  exact ⟨I1, i1, I2, i2, e1, e2, q0, g0.1, ⟨g0, g1, g2⟩⟩
theorem s_open1 {n : Nat} {σ : Shp} {I : Nat → Nat → Int32} {J : Nat → Nat → Int64} {D : Nat → Nat → UInt64} {R : Nat → Nat → Option Nat}  (h : Rel n σ I J D R) (hn : n < 512) : ∃ (I1 : Nat → Nat → Int32) (i1 : Int32) (I2 : Nat → Nat → Int32) (i2 : Int32), gX11_open1 σ I R = some (I1, i1) ∧ gX12_open1 σ I1 R = some (I2, i2) ∧ i1 = i2 ∧ Skel σ R ∧ Rel (n + 1) σ I2 J D R := by
  have n9 := h.n9 hn
  have z0 := h.rn
  have z1 := h.rs
  obtain ⟨⟨I1, i1⟩, e1, ⟨I2, i2⟩, e2, ⟨q0, q1, q2⟩⟩ := c_open1 h.sk h.bo
  have g0 : RelS (n + 1) σ I2 J R := ⟨h.sk, (by omega), (by omega), h.fr, (GThing.ag h.th n9.2.2.2.2 q2 (Ag.rf (W := [])) rfl rfl rfl rfl)⟩
  have g1 : RelI (n + 1) I2 := ⟨(h.sc.kp (Ag.kp q2 rfl)), (h.pl.kp (Ag.kp q2 rfl)), (h.tr.kp (Ag.kp q2 rfl)), (h.ra.kp (Ag.kp q2 rfl)), (h.ta.kp (Ag.kp q2 rfl)), q1, (h.of.kp (Ag.kp q2 rfl)), (h.sa.kp (Ag.kp q2 rfl)), (h.wa.kp (Ag.kp q2 rfl)).up⟩
  have g2 : RelJ I2 J D := ⟨(h.st.kp (Ag.kp q2 rfl) Kp.rf), (h.fe.kp (Ag.kp q2 rfl) Kp.rf), (h.pe.kp (Ag.kp q2 rfl) Kp.rf), (h.ho.kp (Ag.kp q2 rfl) Kp.rf Kp.rf), h.pa⟩
  exact ⟨I1, i1, I2, i2, e1, e2, q0, g0.1, ⟨g0, g1, g2⟩⟩
theorem s_page {n : Nat} {σ : Shp} {I : Nat → Nat → Int32} {J : Nat → Nat → Int64} {D : Nat → Nat → UInt64} {R : Nat → Nat → Option Nat} {x1 : Int32} {x2 : Int32} (h : Rel n σ I J D R) (hn : n < 512) : ∃ (I1 : Nat → Nat → Int32) (j1 : Int64) (j2 : Int64), gX11_page σ I R x1 x2 = some (I1, j1) ∧ gX12_page σ I1 R x1 x2 = some j2 ∧ j1 = j2 ∧ Skel σ R ∧ Rel (n + 1) σ I1 J D R := by
  have n9 := h.n9 hn
  have z0 := h.rn
  have z1 := h.rs
  obtain ⟨⟨I1, j1⟩, e1, j2, e2, ⟨q0, q1, q2⟩⟩ := c_page h.sk h.bo
  have g0 : RelS (n + 1) σ I1 J R := ⟨h.sk, (by omega), (by omega), h.fr, (GThing.ag h.th n9.2.2.2.2 q2 (Ag.rf (W := [])) rfl rfl rfl rfl)⟩
  have g1 : RelI (n + 1) I1 := ⟨(h.sc.kp (Ag.kp q2 rfl)), (h.pl.kp (Ag.kp q2 rfl)), (h.tr.kp (Ag.kp q2 rfl)), (h.ra.kp (Ag.kp q2 rfl)), (h.ta.kp (Ag.kp q2 rfl)), q1, (h.of.kp (Ag.kp q2 rfl)), (h.sa.kp (Ag.kp q2 rfl)), (h.wa.kp (Ag.kp q2 rfl)).up⟩
  have g2 : RelJ I1 J D := ⟨(h.st.kp (Ag.kp q2 rfl) Kp.rf), (h.fe.kp (Ag.kp q2 rfl) Kp.rf), (h.pe.kp (Ag.kp q2 rfl) Kp.rf), (h.ho.kp (Ag.kp q2 rfl) Kp.rf Kp.rf), h.pa⟩
  exact ⟨I1, j1, j2, e1, e2, q0, g0.1, ⟨g0, g1, g2⟩⟩
theorem s_octet {n : Nat} {σ : Shp} {I : Nat → Nat → Int32} {J : Nat → Nat → Int64} {D : Nat → Nat → UInt64} {R : Nat → Nat → Option Nat} {x1 : Int32} {x2 : Int32} (h : Rel n σ I J D R) (hn : n < 512) : ∃ (i1 : Int32) (i2 : Int32), gX11_octet I x1 x2 = some i1 ∧ gX12_octet I x1 x2 = some i2 ∧ i1 = i2 ∧ Skel σ R ∧ Rel (n + 1) σ I J D R := by
  have n9 := h.n9 hn
  have z0 := h.rn
  have z1 := h.rs
  obtain ⟨i1, e1, i2, e2, q0⟩ := c_octet h.bo
  exact ⟨i1, i2, e1, e2, q0, h.sk, h.up⟩
def Wq_damage : List (Nat × Nat) := [(109, 110), (200, 201)]
theorem s_damage {n : Nat} {σ : Shp} {I : Nat → Nat → Int32} {J : Nat → Nat → Int64} {D : Nat → Nat → UInt64} {R : Nat → Nat → Option Nat} {x1 : Int32} {x2 : Int32} {x3 : Int32} (h : Rel n σ I J D R) (hn : n < 512) : ∃ (I1 : Nat → Nat → Int32) (i1 : Int32) (I2 : Nat → Nat → Int32) (i2 : Int32), gX11_damage I x1 x2 x3 = some (I1, i1) ∧ gX12_damage I1 x1 x2 x3 = some (I2, i2) ∧ i1 = i2 ∧ Skel σ R ∧ Rel (n + 1) σ I2 J D R := by
  have n9 := h.n9 hn
  have z0 := h.rn
  have z1 := h.rs
  obtain ⟨⟨I1, i1⟩, e1, ⟨I2, i2⟩, e2, ⟨q0, q1⟩⟩ := c_damage h.bo
  have aI : Ag Wq_damage I I2 := Ag.tr (Ag.mo rfl (aX11_damage _ e1)) (Ag.mo rfl (aX12_damage _ e2))
  have g0 : RelS (n + 1) σ I2 J R := ⟨h.sk, (by omega), (by omega), h.fr, (GThing.ag h.th n9.2.2.2.2 aI (Ag.rf (W := [])) rfl rfl rfl rfl)⟩
  have g1 : RelI (n + 1) I2 := ⟨(h.sc.kp (Ag.kp aI rfl)), (h.pl.kp (Ag.kp aI rfl)), (h.tr.kp (Ag.kp aI rfl)), (h.ra.kp (Ag.kp aI rfl)), (h.ta.kp (Ag.kp aI rfl)), q1, (h.of.kp (Ag.kp aI rfl)), (h.sa.kp (Ag.kp aI rfl)), (h.wa.kp (Ag.kp aI rfl)).up⟩
  have g2 : RelJ I2 J D := ⟨(h.st.kp (Ag.kp aI rfl) Kp.rf), (h.fe.kp (Ag.kp aI rfl) Kp.rf), (h.pe.kp (Ag.kp aI rfl) Kp.rf), (h.ho.kp (Ag.kp aI rfl) Kp.rf Kp.rf), h.pa⟩
  exact ⟨I1, i1, I2, i2, e1, e2, q0, g0.1, ⟨g0, g1, g2⟩⟩
theorem s_told {n : Nat} {σ : Shp} {I : Nat → Nat → Int32} {J : Nat → Nat → Int64} {D : Nat → Nat → UInt64} {R : Nat → Nat → Option Nat} {x1 : Int32} (h : Rel n σ I J D R) (hn : n < 512) : ∃ (I1 : Nat → Nat → Int32) (i1 : Int32) (i2 : Int32), gX11_told σ I R x1 = some (I1, i1) ∧ gX12_told σ I1 R x1 = some i2 ∧ i1 = i2 ∧ Skel σ R ∧ Rel (n + 1) σ I1 J D R := by
  have n9 := h.n9 hn
  have z0 := h.rn
  have z1 := h.rs
  obtain ⟨⟨I1, i1⟩, e1, i2, e2, ⟨q0, q1, q2⟩⟩ := c_told h.sk h.bo h.sc h.pl h.pe h.ta h.ho
  have g0 : RelS (n + 1) σ I1 J R := ⟨h.sk, (by omega), (by omega), h.fr, (GThing.ag h.th n9.2.2.2.2 q2 (Ag.rf (W := [])) rfl rfl rfl rfl)⟩
  have g1 : RelI (n + 1) I1 := ⟨(h.sc.kp (Ag.kp q2 rfl)), (h.pl.kp (Ag.kp q2 rfl)), (h.tr.kp (Ag.kp q2 rfl)), (h.ra.kp (Ag.kp q2 rfl)), (h.ta.kp (Ag.kp q2 rfl)), q1, (h.of.kp (Ag.kp q2 rfl)), (h.sa.kp (Ag.kp q2 rfl)), (h.wa.kp (Ag.kp q2 rfl)).up⟩
  have g2 : RelJ I1 J D := ⟨(h.st.kp (Ag.kp q2 rfl) Kp.rf), (h.fe.kp (Ag.kp q2 rfl) Kp.rf), (h.pe.kp (Ag.kp q2 rfl) Kp.rf), (h.ho.kp (Ag.kp q2 rfl) Kp.rf Kp.rf), h.pa⟩
  exact ⟨I1, i1, i2, e1, e2, q0, g0.1, ⟨g0, g1, g2⟩⟩
theorem s_fault {n : Nat} {σ : Shp} {I : Nat → Nat → Int32} {J : Nat → Nat → Int64} {D : Nat → Nat → UInt64} {R : Nat → Nat → Option Nat}  (h : Rel n σ I J D R) (hn : n < 512) : ∃ (i1 : Int32) (i2 : Int32), gX11_fault I = some i1 ∧ gX12_fault I = some i2 ∧ i1 = i2 ∧ Skel σ R ∧ Rel (n + 1) σ I J D R := by
  have n9 := h.n9 hn
  have z0 := h.rn
  have z1 := h.rs
  obtain ⟨i1, e1, i2, e2, q0⟩ := c_fault h.sc
  exact ⟨i1, i2, e1, e2, q0, h.sk, h.up⟩
