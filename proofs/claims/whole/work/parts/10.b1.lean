def WX11_weather : List (Nat × Nat) := [(61, 62)]
theorem aX11_weather {I : Nat → Nat → Int32} {x1 : Int32} {x2 : Int32} : Ok (gX11_weather I x1 x2) (fun r => Ag WX11_weather I r.1) := by
  unfold gX11_weather
  refine Ok_b (aX4_newWeather) ?_
  intro rr hr
  obtain ⟨I1, r2⟩ := rr
  have h_1 := hr
  have m_2 : Ag WX11_weather I I1 := Ag.tr Ag.rf (Ag.mo rfl h_1)
  exact Ok_s m_2
def WX11_mark : List (Nat × Nat) := [(63, 66), (67, 70), (70, 71)]
theorem aX11_mark {σ : Shp} {I : Nat → Nat → Int32} {R : Nat → Nat → Option Nat} {x1 : Int32} {x2 : Int32} {x3 : Int32} : Ok (gX11_mark σ I R x1 x2 x3) (fun r => Ag WX11_mark I r.1) := by
  unfold gX11_mark
  refine Ok_i (fun g_1 => ?_) (fun _ => ?_)
  · exact Ok_s Ag.rf
  · refine Ok_b (aX4_markAdded) ?_
    intro rr hr
    obtain ⟨I1, r2⟩ := rr
    have h_2 := hr
    have m_3 : Ag WX11_mark I I1 := Ag.tr Ag.rf (Ag.mo rfl h_2)
    exact Ok_s m_3
def WX11_unmark : List (Nat × Nat) := [(70, 71)]
theorem aX11_unmark {I : Nat → Nat → Int32} {x1 : Int32} : Ok (gX11_unmark I x1) (fun r => Ag WX11_unmark I r.1) := by
  unfold gX11_unmark
  refine Ok_i (fun g_1 => ?_) (fun _ => ?_)
  · exact Ok_s Ag.rf
  · refine Ok_b (aX4_marksGone) ?_
    intro rr hr
    obtain ⟨I1, r2⟩ := rr
    have h_2 := hr
    have m_3 : Ag WX11_unmark I I1 := Ag.tr Ag.rf (Ag.mo rfl h_2)
    exact Ok_s m_3
def WX11_minute_l34 : List (Nat × Nat) := [(26, 27), (27, 28), (38, 39), (39, 40), (40, 41), (41, 42), (43, 52), (54, 55), (55, 56), (56, 57), (58, 61), (112, 113)]
theorem aX11_minute_l34 {σ : Shp} {D : Nat → Nat → UInt64} {R : Nat → Nat → Option Nat} : ∀ (n : Nat) (I : Nat → Nat → Int32) (J : Nat → Nat → Int64) (x1 : Int32) (x2 : Int32), Ok (gX11_minute_l34 σ D R n I J x1 x2) (fun r => Ag WX11_minute_l34 I r.1 ∧ Ag WX11_minute_l34 J r.2.1) := by
  intro n
  induction n with
  | zero => intro I J x1 x2; exact Ok_e rfl
  | succ n ih =>
    intro I J x1 x2
    rw [gX11_minute_l34]
    refine Ok_i (fun g_1 => ?_) (fun _ => ?_)
    · exact Ok_s ⟨Ag.rf, Ag.rf⟩
    · refine Ok_b (aX4_passMinute) ?_
      intro rr hr
      obtain ⟨I1, J2⟩ := rr
      obtain ⟨h_2, h_3⟩ := hr
      have m_4 : Ag WX11_minute_l34 I I1 := Ag.tr Ag.rf (Ag.mo rfl h_2)
      have m_5 : Ag WX11_minute_l34 J J2 := Ag.tr Ag.rf (Ag.mo rfl h_3)
      exact Ok_m (ih _ _ _ _) (fun _ ⟨h0, h1⟩ => ⟨(Ag.tr m_4 (Ag.mo rfl h0)), (Ag.tr m_5 (Ag.mo rfl h1))⟩)
def WX11_minute : List (Nat × Nat) := [(26, 27), (27, 28), (38, 39), (39, 40), (40, 41), (41, 42), (43, 52), (54, 55), (55, 56), (56, 57), (58, 61), (112, 113)]
theorem aX11_minute {σ : Shp} {I : Nat → Nat → Int32} {J : Nat → Nat → Int64} {D : Nat → Nat → UInt64} {R : Nat → Nat → Option Nat} {x1 : Int32} : Ok (gX11_minute σ I J D R x1) (fun r => Ag WX11_minute I r.1 ∧ Ag WX11_minute J r.2.1) := by
  unfold gX11_minute
  refine Ok_i (fun g_1 => ?_) (fun _ => ?_)
  · exact Ok_s ⟨Ag.rf, Ag.rf⟩
  · refine Ok_i (fun g_2 => ?_) (fun _ => ?_)
    · refine Ok_i (fun g_3 => ?_) (fun _ => ?_)
      · exact Ok_m (aX11_minute_l34  _ _ _ _ _) (fun _ ⟨h0, h1⟩ => ⟨(Ag.tr Ag.rf (Ag.mo rfl h0)), (Ag.tr Ag.rf (Ag.mo rfl h1))⟩)
      · exact Ok_s ⟨Ag.rf, Ag.rf⟩
    · exact Ok_s ⟨Ag.rf, Ag.rf⟩
def WX11_quotient_b10 : List (Nat × Nat) := [(4, 5)]
theorem aX11_quotient_b10 {σ : Shp} {I : Nat → Nat → Int32} {x1 : Int32} {x2 : Int64} {x4 : Int64} {x6 : Int32} : Ok (gX11_quotient_b10 σ I x1 x2 x4 x6) (fun r => Ag WX11_quotient_b10 I r.1) := by
  unfold gX11_quotient_b10
  refine Ok_i (fun g_1 => ?_) (fun _ => ?_)
  · exact Ok_s Ag.rf
  · refine Ok_i (fun g_2 => ?_) (fun _ => ?_)
    · refine Ok_i (fun g_3 => ?_) (fun _ => ?_)
      · refine Ok_i (fun g_4 => ?_) (fun _ => ?_)
        · refine Ok_b (aX11_fail) ?_
          intro rr hr
          obtain ⟨I10, r11⟩ := rr
          have h_5 := hr
          have m_6 : Ag WX11_quotient_b10 I I10 := Ag.tr Ag.rf (Ag.mo rfl h_5)
          exact Ok_s m_6
        · refine Ok_i (fun g_7 => ?_) (fun _ => ?_)
          · refine Ok_g (fun g_8 => ?_)
            exact Ok_s Ag.rf
          · refine Ok_g (fun g_9 => ?_)
            exact Ok_s Ag.rf
      · refine Ok_i (fun g_10 => ?_) (fun _ => ?_)
        · refine Ok_b (aX11_fail) ?_
          intro rr hr
          obtain ⟨I3, r4⟩ := rr
          have h_11 := hr
          have m_12 : Ag WX11_quotient_b10 I I3 := Ag.tr Ag.rf (Ag.mo rfl h_11)
          exact Ok_s m_12
        · refine Ok_i (fun g_13 => ?_) (fun _ => ?_)
          · refine Ok_g (fun g_14 => ?_)
            exact Ok_s Ag.rf
          · refine Ok_g (fun g_15 => ?_)
            exact Ok_s Ag.rf
    · exact Ok_s Ag.rf
def WX11_quotient : List (Nat × Nat) := [(4, 5)]
theorem aX11_quotient {σ : Shp} {I : Nat → Nat → Int32} {x1 : Int32} {x2 : Int64} {x4 : Int64} {x6 : Int32} : Ok (gX11_quotient σ I x1 x2 x4 x6) (fun r => Ag WX11_quotient I r.1) := by
  unfold gX11_quotient
  refine Ok_i (fun g_1 => ?_) (fun _ => ?_)
  · exact Ok_m (aX11_quotient_b10) (fun _ hr => (Ag.tr Ag.rf (Ag.mo rfl hr)))
  · refine Ok_i (fun g_2 => ?_) (fun _ => ?_)
    · exact Ok_m (aX11_quotient_b10) (fun _ hr => (Ag.tr Ag.rf (Ag.mo rfl hr)))
    · exact Ok_s Ag.rf
def WX11_compare_b95 : List (Nat × Nat) := [(4, 5)]
theorem aX11_compare_b95 {σ : Shp} {J : Nat → Nat → Int64} {R : Nat → Nat → Option Nat} {I : Nat → Nat → Int32} {x1 : Int32} {x3 : Int32} {x5 : Int32} {x6 : Option Nat} {x7 : Option Nat} {x8 : Int32} : Ok (gX11_compare_b95 σ J R I x1 x3 x5 x6 x7 x8) (fun r => Ag WX11_compare_b95 I r.1) := by
  unfold gX11_compare_b95
  refine Ok_i (fun g_1 => ?_) (fun _ => ?_)
  · refine Ok_o (fun _ => ?_) (fun a17 e_2 => ?_)
    · refine Ok_b (aX11_fail) ?_
      intro rr hr
      obtain ⟨I18, r19⟩ := rr
      have h_3 := hr
      have m_4 : Ag WX11_compare_b95 I I18 := Ag.tr Ag.rf (Ag.mo rfl h_3)
      exact Ok_s m_4
    · refine Ok_o (fun _ => ?_) (fun a21 e_5 => ?_)
      · refine Ok_b (aX11_fail) ?_
        intro rr hr
        obtain ⟨I22, r23⟩ := rr
        have h_6 := hr
        have m_7 : Ag WX11_compare_b95 I I22 := Ag.tr Ag.rf (Ag.mo rfl h_6)
        exact Ok_s m_7
      · refine Ok_g (fun g_8 => ?_)
        refine Ok_bc (fun a26 e_9 => ?_)
        refine Ok_g (fun g_10 => ?_)
        refine Ok_g (fun g_11 => ?_)
        refine Ok_g (fun g_12 => ?_)
        refine Ok_bc (fun a30 e_13 => ?_)
        refine Ok_g (fun g_14 => ?_)
        refine Ok_g (fun g_15 => ?_)
        exact Ok_s Ag.rf
  · refine Ok_b (aX11_fail) ?_
    intro rr hr
    obtain ⟨I14, r15⟩ := rr
    have h_16 := hr
    have m_17 : Ag WX11_compare_b95 I I14 := Ag.tr Ag.rf (Ag.mo rfl h_16)
    exact Ok_s m_17
def WX11_compare_b12 : List (Nat × Nat) := [(4, 5)]
theorem aX11_compare_b12 {σ : Shp} {J : Nat → Nat → Int64} {R : Nat → Nat → Option Nat} {I : Nat → Nat → Int32} {x1 : Int32} {x2 : Int32} {x3 : Int32} {x4 : Int32} {x5 : Int32} : Ok (gX11_compare_b12 σ J R I x1 x2 x3 x4 x5) (fun r => Ag WX11_compare_b12 I r.1) := by
  unfold gX11_compare_b12
  refine Ok_i (fun g_1 => ?_) (fun _ => ?_)
  · exact Ok_s Ag.rf
  · refine Ok_i (fun g_2 => ?_) (fun _ => ?_)
    · exact Ok_s Ag.rf
    · refine Ok_g (fun g_3 => ?_)
      refine Ok_g (fun g_4 => ?_)
      refine Ok_t ?_
      intro r5
      refine Ok_i (fun g_5 => ?_) (fun _ => ?_)
      · refine Ok_b (aX11_fail) ?_
        intro rr hr
        obtain ⟨I7, r8⟩ := rr
        have h_6 := hr
        have m_7 : Ag WX11_compare_b12 I I7 := Ag.tr Ag.rf (Ag.mo rfl h_6)
        exact Ok_s m_7
      · refine Ok_t ?_
        intro r10
        refine Ok_i (fun g_8 => ?_) (fun _ => ?_)
        · refine Ok_b (aX11_fail) ?_
          intro rr hr
          obtain ⟨I35, r36⟩ := rr
          have h_9 := hr
          have m_10 : Ag WX11_compare_b12 I I35 := Ag.tr Ag.rf (Ag.mo rfl h_9)
          exact Ok_s m_10
        · refine Ok_t ?_
          intro r12
          refine Ok_i (fun g_11 => ?_) (fun _ => ?_)
          · refine Ok_t ?_
            intro r33
            exact Ok_m (aX11_compare_b95) (fun _ hr => (Ag.tr Ag.rf (Ag.mo rfl hr)))
          · exact Ok_m (aX11_compare_b95) (fun _ hr => (Ag.tr Ag.rf (Ag.mo rfl hr)))
def WX11_compare : List (Nat × Nat) := [(4, 5)]
theorem aX11_compare {σ : Shp} {I : Nat → Nat → Int32} {J : Nat → Nat → Int64} {R : Nat → Nat → Option Nat} {x1 : Int32} {x2 : Int32} {x3 : Int32} {x4 : Int32} {x5 : Int32} : Ok (gX11_compare σ I J R x1 x2 x3 x4 x5) (fun r => Ag WX11_compare I r.1) := by
  unfold gX11_compare
  refine Ok_i (fun g_1 => ?_) (fun _ => ?_)
  · exact Ok_m (aX11_compare_b12) (fun _ hr => (Ag.tr Ag.rf (Ag.mo rfl hr)))
  · refine Ok_i (fun g_2 => ?_) (fun _ => ?_)
    · exact Ok_m (aX11_compare_b12) (fun _ hr => (Ag.tr Ag.rf (Ag.mo rfl hr)))
    · exact Ok_s Ag.rf
def WX11_gatherNumbers_l5 : List (Nat × Nat) := [(112, 113)]
theorem aX11_gatherNumbers_l5 {σ : Shp} {R : Nat → Nat → Option Nat} : ∀ (n : Nat) (J : Nat → Nat → Int64) (x1 : Option Nat) (x2 : Int32) (x3 : Int32) (x4 : Int32), Ok (gX11_gatherNumbers_l5 σ R n J x1 x2 x3 x4) (fun r => Ag WX11_gatherNumbers_l5 J r.1) := by
  intro n
  induction n with
  | zero => intro J x1 x2 x3 x4; exact Ok_e rfl
  | succ n ih =>
    intro J x1 x2 x3 x4
    rw [gX11_gatherNumbers_l5]
    refine Ok_bc (fun a1 e_1 => ?_)
    refine Ok_g (fun g_2 => ?_)
    refine Ok_bc (fun a3 e_3 => ?_)
    refine Ok_g (fun g_4 => ?_)
    refine Ok_i (fun g_5 => ?_) (fun _ => ?_)
    · exact Ok_s Ag.rf
    · refine Ok_i (fun g_6 => ?_) (fun _ => ?_)
      · exact Ok_s Ag.rf
      · refine Ok_g (fun g_7 => ?_)
        refine Ok_i (fun g_8 => ?_) (fun _ => ?_)
        · exact Ok_m (ih _ _ _ _ _) (fun _ hr => (Ag.tr Ag.rf (Ag.mo rfl hr)))
        · refine Ok_g (fun g_9 => ?_)
          have m_10 := Ag.st (k := (Int32.toNatClampNeg x3)) (v := v6) Ag.rf (show inW WX11_gatherNumbers_l5 112 = true from rfl)
          exact Ok_m (ih _ _ _ _ _) (fun _ hr => (Ag.tr m_10 (Ag.mo rfl hr)))
def WX11_gatherNumbers : List (Nat × Nat) := [(112, 113)]
theorem aX11_gatherNumbers {σ : Shp} {J : Nat → Nat → Int64} {R : Nat → Nat → Option Nat} {x1 : Option Nat} {x2 : Int32} : Ok (gX11_gatherNumbers σ J R x1 x2) (fun r => Ag WX11_gatherNumbers J r.1) := by
  unfold gX11_gatherNumbers
  exact Ok_m (aX11_gatherNumbers_l5  _ _ _ _ _ _) (fun _ hr => (Ag.tr Ag.rf (Ag.mo rfl hr)))
def WX11_real_b12 : List (Nat × Nat) := [(4, 5), (56, 57), (112, 113)]
theorem aX11_real_b12 {σ : Shp} {R : Nat → Nat → Option Nat} {I : Nat → Nat → Int32} {J : Nat → Nat → Int64} {x1 : Int32} {x2 : Int32} {x3 : Int32} : Ok (gX11_real_b12 σ R I J x1 x2 x3) (fun r => Ag WX11_real_b12 I r.1 ∧ Ag WX11_real_b12 J r.2.1) := by
  unfold gX11_real_b12
  refine Ok_i (fun g_1 => ?_) (fun _ => ?_)
  · exact Ok_s ⟨Ag.rf, Ag.rf⟩
  · refine Ok_i (fun g_2 => ?_) (fun _ => ?_)
    · exact Ok_s ⟨Ag.rf, Ag.rf⟩
    · refine Ok_i (fun g_3 => ?_) (fun _ => ?_)
      · refine Ok_g (fun g_4 => ?_)
        refine Ok_t ?_
        intro r3
        refine Ok_i (fun g_5 => ?_) (fun _ => ?_)
        · refine Ok_o (fun _ => ?_) (fun a8 e_6 => ?_)
          · refine Ok_b (aX11_fail) ?_
            intro rr hr
            obtain ⟨I9, r10⟩ := rr
            have h_7 := hr
            have m_8 : Ag WX11_real_b12 I I9 := Ag.tr Ag.rf (Ag.mo rfl h_7)
            exact Ok_s ⟨m_8, Ag.rf⟩
          · refine Ok_b (aX11_gatherNumbers) ?_
            intro rr hr
            obtain ⟨J12, r13⟩ := rr
            have h_9 := hr
            have m_10 : Ag WX11_real_b12 J J12 := Ag.tr Ag.rf (Ag.mo rfl h_9)
            refine Ok_i (fun g_11 => ?_) (fun _ => ?_)
            · exact Ok_s ⟨Ag.rf, m_10⟩
            · refine Ok_i (fun g_12 => ?_) (fun _ => ?_)
              · refine Ok_t ?_
                intro r22
                exact Ok_s ⟨Ag.rf, m_10⟩
              · refine Ok_b (aX11_sortByOrder ⟨_, rfl, (show inW [(56, 57), (112, 113)] 112 = true from rfl)⟩) ?_
                intro J15 hr
                have h_13 := hr
                have m_14 : Ag WX11_real_b12 J J15 := Ag.tr m_10 (Ag.mo rfl h_13)
                refine Ok_i (fun g_15 => ?_) (fun _ => ?_)
                · refine Ok_g (fun g_16 => ?_)
                  exact Ok_s ⟨Ag.rf, m_14⟩
                · refine Ok_i (fun g_17 => ?_) (fun _ => ?_)
                  · refine Ok_g (fun g_18 => ?_)
                    exact Ok_s ⟨Ag.rf, m_14⟩
                  · refine Ok_g (fun g_19 => ?_)
                    exact Ok_s ⟨Ag.rf, m_14⟩
        · refine Ok_b (aX11_fail) ?_
          intro rr hr
          obtain ⟨I5, r6⟩ := rr
          have h_20 := hr
          have m_21 : Ag WX11_real_b12 I I5 := Ag.tr Ag.rf (Ag.mo rfl h_20)
          exact Ok_s ⟨m_21, Ag.rf⟩
      · exact Ok_s ⟨Ag.rf, Ag.rf⟩
def WX11_real : List (Nat × Nat) := [(4, 5), (56, 57), (112, 113)]
theorem aX11_real {σ : Shp} {I : Nat → Nat → Int32} {J : Nat → Nat → Int64} {R : Nat → Nat → Option Nat} {x1 : Int32} {x2 : Int32} {x3 : Int32} : Ok (gX11_real σ I J R x1 x2 x3) (fun r => Ag WX11_real I r.1 ∧ Ag WX11_real J r.2.1) := by
  unfold gX11_real
  refine Ok_i (fun g_1 => ?_) (fun _ => ?_)
  · exact Ok_m (aX11_real_b12) (fun _ ⟨h0, h1⟩ => ⟨(Ag.tr Ag.rf (Ag.mo rfl h0)), (Ag.tr Ag.rf (Ag.mo rfl h1))⟩)
  · refine Ok_i (fun g_2 => ?_) (fun _ => ?_)
    · exact Ok_m (aX11_real_b12) (fun _ ⟨h0, h1⟩ => ⟨(Ag.tr Ag.rf (Ag.mo rfl h0)), (Ag.tr Ag.rf (Ag.mo rfl h1))⟩)
    · exact Ok_s ⟨Ag.rf, Ag.rf⟩
def WX11_wholeMean_l62 : List (Nat × Nat) := [(4, 5)]
theorem aX11_wholeMean_l62 {σ : Shp} {J : Nat → Nat → Int64} {R : Nat → Nat → Option Nat} : ∀ (n : Nat) (I : Nat → Nat → Int32) (x2 : Option Nat) (x4 : Int32) (x5 : Int64) (x7 : Int32), Ok (gX11_wholeMean_l62 σ J R n I x2 x4 x5 x7) (fun r => Ag WX11_wholeMean_l62 I r.1) := by
  intro n
  induction n with
  | zero => intro I x2 x4 x5 x7; exact Ok_e rfl
  | succ n ih =>
    intro I x2 x4 x5 x7
    rw [gX11_wholeMean_l62]
    refine Ok_i (fun g_1 => ?_) (fun _ => ?_)
    · refine Ok_g (fun g_2 => ?_)
      have m_3 := Ag.st (k := 18) (v := (Int64.toInt32 (x5 / (Int32.toInt64 x4)))) Ag.rf (show inW WX11_wholeMean_l62 4 = true from rfl)
      exact Ok_s m_3
    · refine Ok_bc (fun a18 e_4 => ?_)
      refine Ok_g (fun g_5 => ?_)
      refine Ok_bc (fun a20 e_6 => ?_)
      refine Ok_g (fun g_7 => ?_)
      refine Ok_g (fun g_8 => ?_)
      exact Ok_m (ih _ _ _ _ _) (fun _ hr => (Ag.tr Ag.rf (Ag.mo rfl hr)))
def WX11_wholeMean : List (Nat × Nat) := [(4, 5)]
theorem aX11_wholeMean {σ : Shp} {I : Nat → Nat → Int32} {J : Nat → Nat → Int64} {R : Nat → Nat → Option Nat} {x1 : Int32} : Ok (gX11_wholeMean σ I J R x1) (fun r => Ag WX11_wholeMean I r.1) := by
  unfold gX11_wholeMean
  refine Ok_i (fun g_1 => ?_) (fun _ => ?_)
  · exact Ok_s Ag.rf
  · refine Ok_g (fun g_2 => ?_)
    refine Ok_t ?_
    intro r3
    refine Ok_i (fun g_3 => ?_) (fun _ => ?_)
    · refine Ok_o (fun _ => ?_) (fun a8 e_4 => ?_)
      · refine Ok_b (aX11_fail) ?_
        intro rr hr
        obtain ⟨I9, r10⟩ := rr
        have h_5 := hr
        have m_6 : Ag WX11_wholeMean I I9 := Ag.tr Ag.rf (Ag.mo rfl h_5)
        exact Ok_s m_6
      · refine Ok_g (fun g_7 => ?_)
        refine Ok_bc (fun a13 e_8 => ?_)
        refine Ok_g (fun g_9 => ?_)
        refine Ok_i (fun g_10 => ?_) (fun _ => ?_)
        · refine Ok_b (aX11_fail) ?_
          intro rr hr
          obtain ⟨I25, r26⟩ := rr
          have h_11 := hr
          have m_12 : Ag WX11_wholeMean I I25 := Ag.tr Ag.rf (Ag.mo rfl h_11)
          exact Ok_s m_12
        · exact Ok_m (aX11_wholeMean_l62  _ _ _ _ _ _) (fun _ hr => (Ag.tr Ag.rf (Ag.mo rfl hr)))
    · refine Ok_b (aX11_fail) ?_
      intro rr hr
      obtain ⟨I5, r6⟩ := rr
      have h_13 := hr
      have m_14 : Ag WX11_wholeMean I I5 := Ag.tr Ag.rf (Ag.mo rfl h_13)
      exact Ok_s m_14
def WX11_salt : List (Nat × Nat) := [(73, 79)]
theorem aX11_salt {I : Nat → Nat → Int32} {x1 : Int32} {x2 : Int32} {x3 : Int32} : Ok (gX11_salt I x1 x2 x3) (fun r => Ag WX11_salt I r.1) := by
  unfold gX11_salt
  refine Ok_i (fun g_1 => ?_) (fun _ => ?_)
  · exact Ok_s Ag.rf
  · refine Ok_i (fun g_2 => ?_) (fun _ => ?_)
    · exact Ok_s Ag.rf
    · refine Ok_i (fun g_3 => ?_) (fun _ => ?_)
      · exact Ok_s Ag.rf
      · refine Ok_i (fun g_4 => ?_) (fun _ => ?_)
        · exact Ok_s Ag.rf
        · refine Ok_i (fun g_5 => ?_) (fun _ => ?_)
          · exact Ok_s Ag.rf
          · refine Ok_i (fun g_6 => ?_) (fun _ => ?_)
            · refine Ok_i (fun g_7 => ?_) (fun _ => ?_)
              · refine Ok_b (aX2_becomes) ?_
                intro rr hr
                obtain ⟨I1, r2⟩ := rr
                have h_8 := hr
                have m_9 : Ag WX11_salt I I1 := Ag.tr Ag.rf (Ag.mo rfl h_8)
                exact Ok_s m_9
              · exact Ok_s Ag.rf
            · refine Ok_i (fun g_10 => ?_) (fun _ => ?_)
              · refine Ok_b (aX2_becomes) ?_
                intro rr hr
                obtain ⟨I4, r5⟩ := rr
                have h_11 := hr
                have m_12 : Ag WX11_salt I I4 := Ag.tr Ag.rf (Ag.mo rfl h_11)
                exact Ok_s m_12
              · exact Ok_s Ag.rf
def WX11_work : List (Nat × Nat) := [(71, 72), (80, 83), (84, 87), (87, 88), (88, 89), (89, 90), (90, 91)]
theorem aX11_work {σ : Shp} {I : Nat → Nat → Int32} {J : Nat → Nat → Int64} {R : Nat → Nat → Option Nat} : Ok (gX11_work σ I J R) (fun r => Ag WX11_work I r.1 ∧ Ag WX11_work J r.2.1) := by
  unfold gX11_work
  refine Ok_b (aX2_solved) ?_
  intro rr hr
  obtain ⟨I1, J2, r3⟩ := rr
  obtain ⟨h_1, h_2⟩ := hr
  have m_3 : Ag WX11_work I I1 := Ag.tr Ag.rf (Ag.mo rfl h_1)
  have m_4 : Ag WX11_work J J2 := Ag.tr Ag.rf (Ag.mo rfl h_2)
  exact Ok_s ⟨m_3, m_4⟩
def WX11_count : List (Nat × Nat) := [(93, 95)]
theorem aX11_count {J : Nat → Nat → Int64} {x1 : Int32} {x2 : Int32} {x3 : Int32} : Ok (gX11_count J x1 x2 x3) (fun r => Ag WX11_count J r.1) := by
  unfold gX11_count
  refine Ok_i (fun g_1 => ?_) (fun _ => ?_)
  · exact Ok_s Ag.rf
  · refine Ok_i (fun g_2 => ?_) (fun _ => ?_)
    · exact Ok_s Ag.rf
    · refine Ok_i (fun g_3 => ?_) (fun _ => ?_)
      · exact Ok_s Ag.rf
      · refine Ok_i (fun g_4 => ?_) (fun _ => ?_)
        · refine Ok_g (fun g_5 => ?_)
          refine Ok_g (fun g_6 => ?_)
          have m_7 := Ag.st (k := (Int32.toNatClampNeg x2)) (v := (Int32.toInt64 x3)) Ag.rf (inW_r (L := WX11_count) (lo := 93) (n := 2) rfl (rowi g_5))
          exact Ok_s m_7
        · exact Ok_s Ag.rf
def WX11_parts : List (Nat × Nat) := [(96, 98), (99, 101), (102, 104)]
theorem aX11_parts {I : Nat → Nat → Int32} {x1 : Int32} {x2 : Int32} {x3 : Int32} {x4 : Int32} {x5 : Int32} : Ok (gX11_parts I x1 x2 x3 x4 x5) (fun r => Ag WX11_parts I r.1) := by
  unfold gX11_parts
  refine Ok_i (fun g_1 => ?_) (fun _ => ?_)
  · exact Ok_s Ag.rf
  · refine Ok_i (fun g_2 => ?_) (fun _ => ?_)
    · exact Ok_s Ag.rf
    · refine Ok_i (fun g_3 => ?_) (fun _ => ?_)
      · exact Ok_s Ag.rf
      · refine Ok_i (fun g_4 => ?_) (fun _ => ?_)
        · exact Ok_s Ag.rf
        · refine Ok_i (fun g_5 => ?_) (fun _ => ?_)
          · exact Ok_s Ag.rf
          · refine Ok_b (aX5_setParts) ?_
            intro I1 hr
            have h_6 := hr
            have m_7 : Ag WX11_parts I I1 := Ag.tr Ag.rf (Ag.mo rfl h_6)
            exact Ok_s m_7
def WX11_day_l34 : List (Nat × Nat) := [(91, 92), (93, 95), (104, 105), (105, 106), (106, 107), (107, 108), (112, 113)]
theorem aX11_day_l34 {σ : Shp} {R : Nat → Nat → Option Nat} : ∀ (n : Nat) (I : Nat → Nat → Int32) (J : Nat → Nat → Int64) (x1 : Int32) (x2 : Int32), Ok (gX11_day_l34 σ R n I J x1 x2) (fun r => Ag WX11_day_l34 I r.1 ∧ Ag WX11_day_l34 J r.2.1) := by
  intro n
  induction n with
  | zero => intro I J x1 x2; exact Ok_e rfl
  | succ n ih =>
    intro I J x1 x2
    rw [gX11_day_l34]
    refine Ok_i (fun g_1 => ?_) (fun _ => ?_)
    · exact Ok_s ⟨Ag.rf, Ag.rf⟩
    · refine Ok_b (aX5_passDay) ?_
      intro rr hr
      obtain ⟨I1, J2⟩ := rr
      obtain ⟨h_2, h_3⟩ := hr
      have m_4 : Ag WX11_day_l34 I I1 := Ag.tr Ag.rf (Ag.mo rfl h_2)
      have m_5 : Ag WX11_day_l34 J J2 := Ag.tr Ag.rf (Ag.mo rfl h_3)
      exact Ok_m (ih _ _ _ _) (fun _ ⟨h0, h1⟩ => ⟨(Ag.tr m_4 (Ag.mo rfl h0)), (Ag.tr m_5 (Ag.mo rfl h1))⟩)
def WX11_day : List (Nat × Nat) := [(91, 92), (93, 95), (104, 105), (105, 106), (106, 107), (107, 108), (112, 113)]
theorem aX11_day {σ : Shp} {I : Nat → Nat → Int32} {J : Nat → Nat → Int64} {R : Nat → Nat → Option Nat} {x1 : Int32} : Ok (gX11_day σ I J R x1) (fun r => Ag WX11_day I r.1 ∧ Ag WX11_day J r.2.1) := by
  unfold gX11_day
  refine Ok_i (fun g_1 => ?_) (fun _ => ?_)
  · exact Ok_s ⟨Ag.rf, Ag.rf⟩
  · refine Ok_i (fun g_2 => ?_) (fun _ => ?_)
    · refine Ok_i (fun g_3 => ?_) (fun _ => ?_)
      · exact Ok_m (aX11_day_l34  _ _ _ _ _) (fun _ ⟨h0, h1⟩ => ⟨(Ag.tr Ag.rf (Ag.mo rfl h0)), (Ag.tr Ag.rf (Ag.mo rfl h1))⟩)
      · exact Ok_s ⟨Ag.rf, Ag.rf⟩
    · exact Ok_s ⟨Ag.rf, Ag.rf⟩
def WX11_spray : List (Nat × Nat) := [(91, 92), (93, 95)]
theorem aX11_spray {σ : Shp} {I : Nat → Nat → Int32} {J : Nat → Nat → Int64} {R : Nat → Nat → Option Nat} {x1 : Int32} : Ok (gX11_spray σ I J R x1) (fun r => Ag WX11_spray I r.1 ∧ Ag WX11_spray J r.2.1) := by
  unfold gX11_spray
  refine Ok_i (fun g_1 => ?_) (fun _ => ?_)
  · exact Ok_s ⟨Ag.rf, Ag.rf⟩
  · refine Ok_b (aX5_lessen) ?_
    intro rr hr
    obtain ⟨I1, J2⟩ := rr
    obtain ⟨h_2, h_3⟩ := hr
    have m_4 : Ag WX11_spray I I1 := Ag.tr Ag.rf (Ag.mo rfl h_2)
    have m_5 : Ag WX11_spray J J2 := Ag.tr Ag.rf (Ag.mo rfl h_3)
    exact Ok_s ⟨m_4, m_5⟩
def WX11_write : List (Nat × Nat) := [(4, 5), (108, 109), (109, 110), (110, 111)]
theorem aX11_write {σ : Shp} {I : Nat → Nat → Int32} {J : Nat → Nat → Int64} {R : Nat → Nat → Option Nat} {x1 : Int32} : Ok (gX11_write σ I J R x1) (fun r => Ag WX11_write I r.1) := by
  unfold gX11_write
  refine Ok_i (fun g_1 => ?_) (fun _ => ?_)
  · exact Ok_s Ag.rf
  · refine Ok_g (fun g_2 => ?_)
    refine Ok_o (fun _ => ?_) (fun a3 e_3 => ?_)
    · refine Ok_b (aX11_fail) ?_
      intro rr hr
      obtain ⟨I4, r5⟩ := rr
      have h_4 := hr
      have m_5 : Ag WX11_write I I4 := Ag.tr Ag.rf (Ag.mo rfl h_4)
      exact Ok_s m_5
    · refine Ok_g (fun g_6 => ?_)
      refine Ok_i (fun g_7 => ?_) (fun _ => ?_)
      · refine Ok_b (aX11_fail) ?_
        intro rr hr
        obtain ⟨I12, r13⟩ := rr
        have h_8 := hr
        have m_9 : Ag WX11_write I I12 := Ag.tr Ag.rf (Ag.mo rfl h_8)
        exact Ok_s m_9
      · refine Ok_bc (fun a8 e_10 => ?_)
        refine Ok_b (aX1_written) ?_
        intro rr hr
        obtain ⟨I9, r10⟩ := rr
        have h_11 := hr
        have m_12 : Ag WX11_write I I9 := Ag.tr Ag.rf (Ag.mo rfl h_11)
        exact Ok_s m_12
def WX11_power : List (Nat × Nat) := [(108, 109)]
theorem aX11_power {I : Nat → Nat → Int32} {x1 : Int32} : Ok (gX11_power I x1) (fun r => Ag WX11_power I r.1) := by
  unfold gX11_power
  refine Ok_i (fun g_1 => ?_) (fun _ => ?_)
  · exact Ok_s Ag.rf
  · refine Ok_i (fun g_2 => ?_) (fun _ => ?_)
    · refine Ok_b (aX1_powerSet) ?_
      intro rr hr
      obtain ⟨I1, r2⟩ := rr
      have h_3 := hr
      have m_4 : Ag WX11_power I I1 := Ag.tr Ag.rf (Ag.mo rfl h_3)
      exact Ok_s m_4
    · exact Ok_s Ag.rf
def WX11_open1 : List (Nat × Nat) := [(108, 109), (111, 112)]
theorem aX11_open1 {σ : Shp} {I : Nat → Nat → Int32} {R : Nat → Nat → Option Nat} : Ok (gX11_open1 σ I R) (fun r => Ag WX11_open1 I r.1) := by
  unfold gX11_open1
  refine Ok_b (aX1_opened) ?_
  intro rr hr
  obtain ⟨I1, r2⟩ := rr
  have h_1 := hr
  have m_2 : Ag WX11_open1 I I1 := Ag.tr Ag.rf (Ag.mo rfl h_1)
  exact Ok_s m_2
def WX11_page : List (Nat × Nat) := [(111, 112)]
theorem aX11_page {σ : Shp} {I : Nat → Nat → Int32} {R : Nat → Nat → Option Nat} {x1 : Int32} {x2 : Int32} : Ok (gX11_page σ I R x1 x2) (fun r => Ag WX11_page I r.1) := by
  unfold gX11_page
  refine Ok_b (aX1_readOf) ?_
  intro rr hr
  obtain ⟨I1, r2⟩ := rr
  have h_1 := hr
  have m_2 : Ag WX11_page I I1 := Ag.tr Ag.rf (Ag.mo rfl h_1)
  exact Ok_s m_2
def WX11_damage : List (Nat × Nat) := [(109, 110)]
theorem aX11_damage {I : Nat → Nat → Int32} {x1 : Int32} {x2 : Int32} {x3 : Int32} : Ok (gX11_damage I x1 x2 x3) (fun r => Ag WX11_damage I r.1) := by
  unfold gX11_damage
  refine Ok_i (fun g_1 => ?_) (fun _ => ?_)
  · exact Ok_s Ag.rf
  · refine Ok_i (fun g_2 => ?_) (fun _ => ?_)
    · exact Ok_s Ag.rf
    · refine Ok_i (fun g_3 => ?_) (fun _ => ?_)
      · refine Ok_g (fun g_4 => ?_)
        have m_5 := Ag.st (k := (Int32.toNatClampNeg ((x1 * (64 : Int32)) + x2))) (v := ((I 109 (Int32.toNatClampNeg ((x1 * (64 : Int32)) + x2))) ^^^ x3)) Ag.rf (show inW WX11_damage 109 = true from rfl)
        exact Ok_s m_5
      · exact Ok_s Ag.rf
def WX11_told : List (Nat × Nat) := [(111, 112)]
theorem aX11_told {σ : Shp} {I : Nat → Nat → Int32} {R : Nat → Nat → Option Nat} {x1 : Int32} : Ok (gX11_told σ I R x1) (fun r => Ag WX11_told I r.1) := by
  unfold gX11_told
  refine Ok_i (fun g_1 => ?_) (fun _ => ?_)
  · exact Ok_s Ag.rf
  · refine Ok_i (fun g_2 => ?_) (fun _ => ?_)
    · exact Ok_s Ag.rf
    · refine Ok_i (fun g_3 => ?_) (fun _ => ?_)
      · exact Ok_s Ag.rf
      · refine Ok_i (fun g_4 => ?_) (fun _ => ?_)
        · exact Ok_s Ag.rf
        · refine Ok_i (fun g_5 => ?_) (fun _ => ?_)
          · exact Ok_s Ag.rf
          · refine Ok_i (fun g_6 => ?_) (fun _ => ?_)
            · refine Ok_i (fun g_7 => ?_) (fun _ => ?_)
              · exact Ok_s Ag.rf
              · exact Ok_s Ag.rf
            · refine Ok_i (fun g_8 => ?_) (fun _ => ?_)
              · refine Ok_t ?_
                intro r17
                exact Ok_s Ag.rf
              · refine Ok_i (fun g_9 => ?_) (fun _ => ?_)
                · exact Ok_s Ag.rf
                · refine Ok_i (fun g_10 => ?_) (fun _ => ?_)
                  · refine Ok_b (aX1_gatherRead) ?_
                    intro rr hr
                    obtain ⟨I14, r15⟩ := rr
                    have h_11 := hr
                    have m_12 : Ag WX11_told I I14 := Ag.tr Ag.rf (Ag.mo rfl h_11)
                    exact Ok_s m_12
                  · refine Ok_i (fun g_13 => ?_) (fun _ => ?_)
                    · refine Ok_t ?_
                      intro r12
                      exact Ok_s Ag.rf
                    · refine Ok_i (fun g_14 => ?_) (fun _ => ?_)
                      · exact Ok_s Ag.rf
                      · exact Ok_s Ag.rf
def WX12_no : List (Nat × Nat) := [(114, 115)]
theorem aX12_no {I : Nat → Nat → Int32} {x1 : Int32} : Ok (gX12_no I x1) (fun r => Ag WX12_no I r.1) := by
  unfold gX12_no
  have m_1 := Ag.st (k := 1) (v := ((I 114 1) + (1 : Int32))) Ag.rf (show inW WX12_no 114 = true from rfl)
  have m_2 := Ag.st (k := 2) (v := x1) m_1 (show inW WX12_no 114 = true from rfl)
  exact Ok_s m_2
def WX12_noBits : List (Nat × Nat) := [(114, 115)]
theorem aX12_noBits {I : Nat → Nat → Int32} {x1 : Int32} : Ok (gX12_noBits I x1) (fun r => Ag WX12_noBits I r.1) := by
  unfold gX12_noBits
  refine Ok_b (aX12_no) ?_
  intro rr hr
  obtain ⟨I1, r2⟩ := rr
  have h_1 := hr
  have m_2 : Ag WX12_noBits I I1 := Ag.tr Ag.rf (Ag.mo rfl h_1)
  exact Ok_s m_2
def WX12_thing : List (Nat × Nat) := [(114, 115), (116, 117), (117, 118)]
theorem aX12_thing {I : Nat → Nat → Int32} {x1 : Int32} {x2 : Int32} : Ok (gX12_thing I x1 x2) (fun r => Ag WX12_thing I r.1) := by
  unfold gX12_thing
  have m_1 := Ag.st (k := 0) (v := ((I 114 0) + (1 : Int32))) Ag.rf (show inW WX12_thing 114 = true from rfl)
  refine Ok_g (fun g_2 => ?_)
  have m_3 := Ag.st (k := (Int32.toNatClampNeg (I1 114 0))) (v := ((Int32.toInt8 ((Int32.toInt8 x1).toInt32)).toInt32)) m_1 (show inW WX12_thing 116 = true from rfl)
  refine Ok_g (fun g_4 => ?_)
  have m_5 := Ag.st (k := (Int32.toNatClampNeg (I3 114 0))) (v := ((Int32.toInt8 ((Int32.toInt8 x2).toInt32)).toInt32)) m_3 (show inW WX12_thing 117 = true from rfl)
  exact Ok_s m_5
def WX12_newRow : List (Nat × Nat) := [(114, 115), (116, 117), (117, 118), (118, 119)]
theorem aX12_newRow {I : Nat → Nat → Int32} {x1 : Int32} {x2 : Int32} : Ok (gX12_newRow I x1 x2) (fun r => Ag WX12_newRow I r.1) := by
  unfold gX12_newRow
  refine Ok_b (aX12_thing) ?_
  intro rr hr
  obtain ⟨I1, r2⟩ := rr
  have h_1 := hr
  have m_2 : Ag WX12_newRow I I1 := Ag.tr Ag.rf (Ag.mo rfl h_1)
  refine Ok_g (fun g_3 => ?_)
  have m_4 := Ag.st (k := (Int32.toNatClampNeg r2)) (v := (I1 114 7)) m_2 (show inW WX12_newRow 118 = true from rfl)
  have m_5 := Ag.st (k := 7) (v := ((I5 114 7) + x2)) m_4 (show inW WX12_newRow 114 = true from rfl)
  exact Ok_s m_5
def WX12_newPlaces : List (Nat × Nat) := [(114, 115), (116, 117), (117, 118), (118, 119)]
theorem aX12_newPlaces {I : Nat → Nat → Int32} {x1 : Int32} {x2 : Int32} : Ok (gX12_newPlaces I x1 x2) (fun r => Ag WX12_newPlaces I r.1) := by
  unfold gX12_newPlaces
  refine Ok_b (aX12_thing) ?_
  intro rr hr
  obtain ⟨I1, r2⟩ := rr
  have h_1 := hr
  have m_2 : Ag WX12_newPlaces I I1 := Ag.tr Ag.rf (Ag.mo rfl h_1)
  refine Ok_g (fun g_3 => ?_)
  have m_4 := Ag.st (k := (Int32.toNatClampNeg r2)) (v := (I1 114 9)) m_2 (show inW WX12_newPlaces 118 = true from rfl)
  have m_5 := Ag.st (k := 9) (v := ((I5 114 9) + x2)) m_4 (show inW WX12_newPlaces 114 = true from rfl)
  exact Ok_s m_5
def WX12_row : List (Nat × Nat) := [(114, 115), (115, 116), (116, 117), (117, 118), (118, 119)]
theorem aX12_row {I : Nat → Nat → Int32} {x1 : Int32} {x2 : Int32} {x3 : Int32} : Ok (gX12_row I x1 x2 x3) (fun r => Ag WX12_row I r.1) := by
  unfold gX12_row
  refine Ok_i (fun g_1 => ?_) (fun _ => ?_)
  · exact Ok_s Ag.rf
  · refine Ok_i (fun g_2 => ?_) (fun _ => ?_)
    · exact Ok_s Ag.rf
    · refine Ok_i (fun g_3 => ?_) (fun _ => ?_)
      · refine Ok_t ?_
        intro r1
        refine Ok_i (fun g_4 => ?_) (fun _ => ?_)
        · refine Ok_i (fun g_5 => ?_) (fun _ => ?_)
          · refine Ok_b (aX12_newRow) ?_
            intro rr hr
            obtain ⟨I3, r4⟩ := rr
            have h_6 := hr
            have m_7 : Ag WX12_row I I3 := Ag.tr Ag.rf (Ag.mo rfl h_6)
            refine Ok_g (fun g_8 => ?_)
            have m_9 := Ag.st (k := (Int32.toNatClampNeg x1)) (v := r4) m_7 (show inW WX12_row 115 = true from rfl)
            exact Ok_s m_9
          · refine Ok_b (aX12_no) ?_
            intro rr hr
            obtain ⟨I8, r9⟩ := rr
            have h_10 := hr
            have m_11 : Ag WX12_row I I8 := Ag.tr Ag.rf (Ag.mo rfl h_10)
            exact Ok_s m_11
        · exact Ok_s Ag.rf
      · exact Ok_s Ag.rf
def WX12_grid_l75 : List (Nat × Nat) := [(114, 115), (115, 116), (116, 117), (117, 118), (118, 119), (120, 121)]
theorem aX12_grid_l75 {σ : Shp} {R : Nat → Nat → Option Nat} : ∀ (n : Nat) (I : Nat → Nat → Int32) (x1 : Int32) (x2 : Int32) (x3 : Int32) (x4 : Int32) (x5 : Int32) (x6 : Int32) (x7 : Int32), Ok (gX12_grid_l75 σ R n I x1 x2 x3 x4 x5 x6 x7) (fun r => Ag WX12_grid_l75 I r.1) := by
  intro n
  induction n with
  | zero => intro I x1 x2 x3 x4 x5 x6 x7; exact Ok_e rfl
  | succ n ih =>
    intro I x1 x2 x3 x4 x5 x6 x7
    rw [gX12_grid_l75]
    refine Ok_i (fun g_1 => ?_) (fun _ => ?_)
    · refine Ok_g (fun g_2 => ?_)
      have m_3 := Ag.st (k := (Int32.toNatClampNeg x1)) (v := x6) Ag.rf (show inW WX12_grid_l75 115 = true from rfl)
      exact Ok_s m_3
    · refine Ok_i (fun g_4 => ?_) (fun _ => ?_)
      · refine Ok_g (fun g_5 => ?_)
        refine Ok_b (aX12_newRow) ?_
        intro rr hr
        obtain ⟨I14, r15⟩ := rr
        have h_6 := hr
        have m_7 : Ag WX12_grid_l75 I I14 := Ag.tr Ag.rf (Ag.mo rfl h_6)
        refine Ok_g (fun g_8 => ?_)
        have m_9 := Ag.st (k := (Int32.toNatClampNeg ((I 118 (Int32.toNatClampNeg x6)) + x7))) (v := ((Int32.toInt16 ((Int32.toInt16 r15).toInt32)).toInt32)) m_7 (show inW WX12_grid_l75 120 = true from rfl)
        exact Ok_m (ih _ _ _ _ _ _ _ _) (fun _ hr => (Ag.tr m_9 (Ag.mo rfl hr)))
      · refine Ok_g (fun g_10 => ?_)
        have m_11 := Ag.st (k := (Int32.toNatClampNeg x1)) (v := x6) Ag.rf (show inW WX12_grid_l75 115 = true from rfl)
        exact Ok_s m_11
def WX12_grid : List (Nat × Nat) := [(114, 115), (115, 116), (116, 117), (117, 118), (118, 119), (120, 121)]
theorem aX12_grid {σ : Shp} {I : Nat → Nat → Int32} {R : Nat → Nat → Option Nat} {x1 : Int32} {x2 : Int32} {x3 : Int32} {x4 : Int32} {x5 : Int32} : Ok (gX12_grid σ I R x1 x2 x3 x4 x5) (fun r => Ag WX12_grid I r.1) := by
  unfold gX12_grid
  refine Ok_i (fun g_1 => ?_) (fun _ => ?_)
  · exact Ok_s Ag.rf
  · refine Ok_i (fun g_2 => ?_) (fun _ => ?_)
    · exact Ok_s Ag.rf
    · refine Ok_i (fun g_3 => ?_) (fun _ => ?_)
      · exact Ok_s Ag.rf
      · refine Ok_i (fun g_4 => ?_) (fun _ => ?_)
        · refine Ok_t ?_
          intro r1
          refine Ok_i (fun g_5 => ?_) (fun _ => ?_)
          · refine Ok_i (fun g_6 => ?_) (fun _ => ?_)
            · refine Ok_b (aX12_no) ?_
              intro rr hr
              obtain ⟨I3, r4⟩ := rr
              have h_7 := hr
              have m_8 : Ag WX12_grid I I3 := Ag.tr Ag.rf (Ag.mo rfl h_7)
              exact Ok_s m_8
            · refine Ok_i (fun g_9 => ?_) (fun _ => ?_)
              · refine Ok_i (fun g_10 => ?_) (fun _ => ?_)
                · refine Ok_b (aX12_newPlaces) ?_
                  intro rr hr
                  obtain ⟨I20, r21⟩ := rr
                  have h_11 := hr
                  have m_12 : Ag WX12_grid I I20 := Ag.tr Ag.rf (Ag.mo rfl h_11)
                  exact Ok_m (aX12_grid_l75  _ _ _ _ _ _ _ _ _) (fun _ hr => (Ag.tr m_12 (Ag.mo rfl hr)))
                · refine Ok_b (aX12_no) ?_
                  intro rr hr
                  obtain ⟨I23, r24⟩ := rr
                  have h_13 := hr
                  have m_14 : Ag WX12_grid I I23 := Ag.tr Ag.rf (Ag.mo rfl h_13)
                  exact Ok_s m_14
              · refine Ok_b (aX12_newPlaces) ?_
                intro rr hr
                obtain ⟨I6, r7⟩ := rr
                have h_15 := hr
                have m_16 : Ag WX12_grid I I6 := Ag.tr Ag.rf (Ag.mo rfl h_15)
                exact Ok_m (aX12_grid_l75  _ _ _ _ _ _ _ _ _) (fun _ hr => (Ag.tr m_16 (Ag.mo rfl hr)))
          · exact Ok_s Ag.rf
        · exact Ok_s Ag.rf
def WX12_hollow : List (Nat × Nat) := [(114, 115), (115, 116), (116, 117), (117, 118), (118, 119)]
theorem aX12_hollow {I : Nat → Nat → Int32} {x1 : Int32} {x2 : Int32} {x3 : Int32} {x4 : Int32} : Ok (gX12_hollow I x1 x2 x3 x4) (fun r => Ag WX12_hollow I r.1) := by
  unfold gX12_hollow
  refine Ok_i (fun g_1 => ?_) (fun _ => ?_)
  · exact Ok_s Ag.rf
  · refine Ok_i (fun g_2 => ?_) (fun _ => ?_)
    · refine Ok_t ?_
      intro r1
      refine Ok_i (fun g_3 => ?_) (fun _ => ?_)
      · refine Ok_i (fun g_4 => ?_) (fun _ => ?_)
        · refine Ok_b (aX12_newPlaces) ?_
          intro rr hr
          obtain ⟨I3, r4⟩ := rr
          have h_5 := hr
          have m_6 : Ag WX12_hollow I I3 := Ag.tr Ag.rf (Ag.mo rfl h_5)
          refine Ok_g (fun g_7 => ?_)
          have m_8 := Ag.st (k := (Int32.toNatClampNeg x1)) (v := r4) m_6 (show inW WX12_hollow 115 = true from rfl)
          exact Ok_s m_8
        · refine Ok_b (aX12_no) ?_
          intro rr hr
          obtain ⟨I8, r9⟩ := rr
          have h_9 := hr
          have m_10 : Ag WX12_hollow I I8 := Ag.tr Ag.rf (Ag.mo rfl h_9)
          exact Ok_s m_10
      · exact Ok_s Ag.rf
    · exact Ok_s Ag.rf
def WX12_storeys : List (Nat × Nat) := [(114, 115), (115, 116), (116, 117), (117, 118), (118, 119)]
theorem aX12_storeys {I : Nat → Nat → Int32} {x1 : Int32} {x2 : Int32} : Ok (gX12_storeys I x1 x2) (fun r => Ag WX12_storeys I r.1) := by
  unfold gX12_storeys
  refine Ok_b (aX12_hollow) ?_
  intro rr hr
  obtain ⟨I1, r2⟩ := rr
  have h_1 := hr
  have m_2 : Ag WX12_storeys I I1 := Ag.tr Ag.rf (Ag.mo rfl h_1)
  exact Ok_s m_2
def WX12_tray : List (Nat × Nat) := [(114, 115), (115, 116), (116, 117), (117, 118), (118, 119)]
theorem aX12_tray {I : Nat → Nat → Int32} {x1 : Int32} {x2 : Int32} {x3 : Int32} : Ok (gX12_tray I x1 x2 x3) (fun r => Ag WX12_tray I r.1) := by
  unfold gX12_tray
  refine Ok_i (fun g_1 => ?_) (fun _ => ?_)
  · exact Ok_s Ag.rf
  · refine Ok_b (aX12_hollow) ?_
    intro rr hr
    obtain ⟨I1, r2⟩ := rr
    have h_2 := hr
    have m_3 : Ag WX12_tray I I1 := Ag.tr Ag.rf (Ag.mo rfl h_2)
    exact Ok_s m_3
def WX12_share_b22 : List (Nat × Nat) := [(115, 116)]
theorem aX12_share_b22 {σ : Shp} {R : Nat → Nat → Option Nat} {I : Nat → Nat → Int32} {x1 : Int32} {x2 : Int32} : Ok (gX12_share_b22 σ R I x1 x2) (fun r => Ag WX12_share_b22 I r.1) := by
  unfold gX12_share_b22
  refine Ok_i (fun g_1 => ?_) (fun _ => ?_)
  · refine Ok_g (fun g_2 => ?_)
    have m_3 := Ag.st (k := (Int32.toNatClampNeg x1)) (v := (0 : Int32)) Ag.rf (show inW WX12_share_b22 115 = true from rfl)
    exact Ok_s m_3
  · refine Ok_g (fun g_4 => ?_)
    refine Ok_g (fun g_5 => ?_)
    have m_6 := Ag.st (k := (Int32.toNatClampNeg x1)) (v := (I 115 (Int32.toNatClampNeg x2))) Ag.rf (show inW WX12_share_b22 115 = true from rfl)
    exact Ok_s m_6
def WX12_share : List (Nat × Nat) := [(115, 116)]
theorem aX12_share {σ : Shp} {I : Nat → Nat → Int32} {R : Nat → Nat → Option Nat} {x1 : Int32} {x2 : Int32} : Ok (gX12_share σ I R x1 x2) (fun r => Ag WX12_share I r.1) := by
  unfold gX12_share
  refine Ok_i (fun g_1 => ?_) (fun _ => ?_)
  · exact Ok_s Ag.rf
  · refine Ok_i (fun g_2 => ?_) (fun _ => ?_)
    · exact Ok_m (aX12_share_b22) (fun _ hr => (Ag.tr Ag.rf (Ag.mo rfl hr)))
    · refine Ok_i (fun g_3 => ?_) (fun _ => ?_)
      · exact Ok_s Ag.rf
      · exact Ok_m (aX12_share_b22) (fun _ hr => (Ag.tr Ag.rf (Ag.mo rfl hr)))
def WX12_get : List (Nat × Nat) := [(114, 115)]
theorem aX12_get {I : Nat → Nat → Int32} {J : Nat → Nat → Int64} {x1 : Int32} {x2 : Int32} {x3 : Int32} : Ok (gX12_get I J x1 x2 x3) (fun r => Ag WX12_get I r.1) := by
  unfold gX12_get
  refine Ok_i (fun g_1 => ?_) (fun _ => ?_)
  · exact Ok_s Ag.rf
  · refine Ok_i (fun g_2 => ?_) (fun _ => ?_)
    · exact Ok_s Ag.rf
    · refine Ok_g (fun g_3 => ?_)
      refine Ok_t ?_
      intro r3
      refine Ok_i (fun g_4 => ?_) (fun _ => ?_)
      · refine Ok_g (fun g_5 => ?_)
        refine Ok_g (fun g_6 => ?_)
        exact Ok_s Ag.rf
      · refine Ok_b (aX12_noBits) ?_
        intro rr hr
        obtain ⟨I7, r8⟩ := rr
        have h_7 := hr
        have m_8 : Ag WX12_get I I7 := Ag.tr Ag.rf (Ag.mo rfl h_7)
        exact Ok_s m_8
def WX12_put : List (Nat × Nat) := [(114, 115), (119, 120)]
theorem aX12_put {I : Nat → Nat → Int32} {J : Nat → Nat → Int64} {x1 : Int32} {x2 : Int32} {x3 : Int32} {x4 : Int64} : Ok (gX12_put I J x1 x2 x3 x4) (fun r => Ag WX12_put I r.1 ∧ Ag WX12_put J r.2.1) := by
  unfold gX12_put
  refine Ok_i (fun g_1 => ?_) (fun _ => ?_)
  · exact Ok_s ⟨Ag.rf, Ag.rf⟩
  · refine Ok_i (fun g_2 => ?_) (fun _ => ?_)
    · exact Ok_s ⟨Ag.rf, Ag.rf⟩
    · refine Ok_g (fun g_3 => ?_)
      refine Ok_t ?_
      intro r3
      refine Ok_i (fun g_4 => ?_) (fun _ => ?_)
      · refine Ok_g (fun g_5 => ?_)
        refine Ok_g (fun g_6 => ?_)
        have m_7 := Ag.st (k := (Int32.toNatClampNeg ((I 118 (Int32.toNatClampNeg v2)) + x3))) (v := (fX12_fitted x2 x4)) Ag.rf (show inW WX12_put 119 = true from rfl)
        exact Ok_s ⟨Ag.rf, m_7⟩
      · refine Ok_b (aX12_no) ?_
        intro rr hr
        obtain ⟨I8, r9⟩ := rr
        have h_8 := hr
        have m_9 : Ag WX12_put I I8 := Ag.tr Ag.rf (Ag.mo rfl h_8)
        exact Ok_s ⟨m_9, Ag.rf⟩
def WX12_againstBed : List (Nat × Nat) := [(114, 115)]
theorem aX12_againstBed {I : Nat → Nat → Int32} {x1 : Int32} {x2 : Int32} {x3 : Int32} {x4 : Int32} : Ok (gX12_againstBed I x1 x2 x3 x4) (fun r => Ag WX12_againstBed I r.1) := by
  unfold gX12_againstBed
  refine Ok_t ?_
  intro r1
  refine Ok_i (fun g_1 => ?_) (fun _ => ?_)
  · refine Ok_g (fun g_2 => ?_)
    refine Ok_g (fun g_3 => ?_)
    refine Ok_t ?_
    intro r6
    refine Ok_g (fun g_4 => ?_)
    have m_5 := Ag.st (k := 20) (v := ((I 118 (Int32.toNatClampNeg v5)) + x4)) Ag.rf (show inW WX12_againstBed 114 = true from rfl)
    exact Ok_s m_5
  · exact Ok_s Ag.rf
def WX12_bed : List (Nat × Nat) := [(114, 115)]
theorem aX12_bed {I : Nat → Nat → Int32} {J : Nat → Nat → Int64} {x1 : Int32} {x2 : Int32} {x3 : Int32} {x4 : Int32} : Ok (gX12_bed I J x1 x2 x3 x4) (fun r => Ag WX12_bed I r.1) := by
  unfold gX12_bed
  refine Ok_i (fun g_1 => ?_) (fun _ => ?_)
  · exact Ok_s Ag.rf
  · refine Ok_i (fun g_2 => ?_) (fun _ => ?_)
    · exact Ok_s Ag.rf
    · refine Ok_g (fun g_3 => ?_)
      refine Ok_b (aX12_againstBed) ?_
      intro rr hr
      obtain ⟨I2, r3⟩ := rr
      have h_4 := hr
      have m_5 : Ag WX12_bed I I2 := Ag.tr Ag.rf (Ag.mo rfl h_4)
      refine Ok_i (fun g_6 => ?_) (fun _ => ?_)
      · refine Ok_g (fun g_7 => ?_)
        exact Ok_s m_5
      · refine Ok_b (aX12_noBits) ?_
        intro rr hr
        obtain ⟨I6, r7⟩ := rr
        have h_8 := hr
        have m_9 : Ag WX12_bed I I6 := Ag.tr m_5 (Ag.mo rfl h_8)
        exact Ok_s m_9
def WX12_setBed : List (Nat × Nat) := [(114, 115), (119, 120)]
theorem aX12_setBed {I : Nat → Nat → Int32} {J : Nat → Nat → Int64} {x1 : Int32} {x2 : Int32} {x3 : Int32} {x4 : Int32} {x5 : Int64} : Ok (gX12_setBed I J x1 x2 x3 x4 x5) (fun r => Ag WX12_setBed I r.1 ∧ Ag WX12_setBed J r.2.1) := by
  unfold gX12_setBed
  refine Ok_i (fun g_1 => ?_) (fun _ => ?_)
  · exact Ok_s ⟨Ag.rf, Ag.rf⟩
  · refine Ok_i (fun g_2 => ?_) (fun _ => ?_)
    · exact Ok_s ⟨Ag.rf, Ag.rf⟩
    · refine Ok_g (fun g_3 => ?_)
      refine Ok_b (aX12_againstBed) ?_
      intro rr hr
      obtain ⟨I2, r3⟩ := rr
      have h_4 := hr
      have m_5 : Ag WX12_setBed I I2 := Ag.tr Ag.rf (Ag.mo rfl h_4)
      refine Ok_i (fun g_6 => ?_) (fun _ => ?_)
      · refine Ok_g (fun g_7 => ?_)
        have m_8 := Ag.st (k := (Int32.toNatClampNeg (I2 114 20))) (v := (fX12_fitted (fX12_laneOf x2) x5)) Ag.rf (show inW WX12_setBed 119 = true from rfl)
        exact Ok_s ⟨m_5, m_8⟩
      · refine Ok_b (aX12_no) ?_
        intro rr hr
        obtain ⟨I7, r8⟩ := rr
        have h_9 := hr
        have m_10 : Ag WX12_setBed I I7 := Ag.tr m_5 (Ag.mo rfl h_9)
        exact Ok_s ⟨m_10, Ag.rf⟩
def WX12_countUp_b58 : List (Nat × Nat) := [(114, 115), (119, 120)]
theorem aX12_countUp_b58 {σ : Shp} {R : Nat → Nat → Option Nat} {I : Nat → Nat → Int32} {J : Nat → Nat → Int64} {x5 : Int32} {x7 : Int32} : Ok (gX12_countUp_b58 σ R I J x5 x7) (fun r => Ag WX12_countUp_b58 I r.1 ∧ Ag WX12_countUp_b58 J r.2.1) := by
  unfold gX12_countUp_b58
  refine Ok_i (fun g_1 => ?_) (fun _ => ?_)
  · refine Ok_g (fun g_2 => ?_)
    have m_3 := Ag.st (k := (Int32.toNatClampNeg (I 114 20))) (v := (Int32.toInt64 (v6 + (1 : Int32)))) Ag.rf (show inW WX12_countUp_b58 119 = true from rfl)
    refine Ok_i (fun g_4 => ?_) (fun _ => ?_)
    · exact Ok_s ⟨Ag.rf, m_3⟩
    · exact Ok_s ⟨Ag.rf, m_3⟩
  · refine Ok_b (aX12_no) ?_
    intro rr hr
    obtain ⟨I8, r9⟩ := rr
    have h_5 := hr
    have m_6 : Ag WX12_countUp_b58 I I8 := Ag.tr Ag.rf (Ag.mo rfl h_5)
    exact Ok_s ⟨m_6, Ag.rf⟩
def WX12_countUp : List (Nat × Nat) := [(114, 115), (119, 120)]
theorem aX12_countUp {σ : Shp} {I : Nat → Nat → Int32} {J : Nat → Nat → Int64} {R : Nat → Nat → Option Nat} {x1 : Int32} {x2 : Int32} {x3 : Int32} {x4 : Int32} {x5 : Int32} : Ok (gX12_countUp σ I J R x1 x2 x3 x4 x5) (fun r => Ag WX12_countUp I r.1 ∧ Ag WX12_countUp J r.2.1) := by
  unfold gX12_countUp
  refine Ok_i (fun g_1 => ?_) (fun _ => ?_)
  · exact Ok_s ⟨Ag.rf, Ag.rf⟩
  · refine Ok_g (fun g_2 => ?_)
    refine Ok_t ?_
    intro r3
    refine Ok_i (fun g_3 => ?_) (fun _ => ?_)
    · refine Ok_g (fun g_4 => ?_)
      refine Ok_g (fun g_5 => ?_)
      refine Ok_b (aX12_againstBed) ?_
      intro rr hr
      obtain ⟨I13, r14⟩ := rr
      have h_6 := hr
      have m_7 : Ag WX12_countUp I I13 := Ag.tr Ag.rf (Ag.mo rfl h_6)
      exact Ok_m (aX12_countUp_b58) (fun _ ⟨h0, h1⟩ => ⟨(Ag.tr m_7 (Ag.mo rfl h0)), (Ag.tr Ag.rf (Ag.mo rfl h1))⟩)
    · exact Ok_m (aX12_countUp_b58) (fun _ ⟨h0, h1⟩ => ⟨(Ag.tr Ag.rf (Ag.mo rfl h0)), (Ag.tr Ag.rf (Ag.mo rfl h1))⟩)
def WX12_set_b65 : List (Nat × Nat) := [(114, 115), (120, 121)]
theorem aX12_set_b65 {σ : Shp} {R : Nat → Nat → Option Nat} {I : Nat → Nat → Int32} {x2 : Int32} {x3 : Int32} {x4 : Int32} {s0 : Int32} : Ok (gX12_set_b65 σ R I x2 x3 x4 s0) (fun r => Ag WX12_set_b65 I r.1) := by
  unfold gX12_set_b65
  refine Ok_i (fun g_1 => ?_) (fun _ => ?_)
  · refine Ok_g (fun g_2 => ?_)
    refine Ok_g (fun g_3 => ?_)
    refine Ok_g (fun g_4 => ?_)
    have m_5 := Ag.st (k := (Int32.toNatClampNeg ((I 118 (Int32.toNatClampNeg x4)) + x2))) (v := ((Int32.toInt16 ((Int32.toInt16 (I 115 (Int32.toNatClampNeg x3))).toInt32)).toInt32)) Ag.rf (show inW WX12_set_b65 120 = true from rfl)
    exact Ok_s m_5
  · refine Ok_b (aX12_no) ?_
    intro rr hr
    obtain ⟨I9, r10⟩ := rr
    have h_6 := hr
    have m_7 : Ag WX12_set_b65 I I9 := Ag.tr Ag.rf (Ag.mo rfl h_6)
    exact Ok_s m_7
def WX12_set : List (Nat × Nat) := [(114, 115), (120, 121)]
theorem aX12_set {σ : Shp} {I : Nat → Nat → Int32} {R : Nat → Nat → Option Nat} {x1 : Int32} {x2 : Int32} {x3 : Int32} : Ok (gX12_set σ I R x1 x2 x3) (fun r => Ag WX12_set I r.1) := by
  unfold gX12_set
  refine Ok_i (fun g_1 => ?_) (fun _ => ?_)
  · exact Ok_s Ag.rf
  · refine Ok_i (fun g_2 => ?_) (fun _ => ?_)
    · exact Ok_s Ag.rf
    · refine Ok_g (fun g_3 => ?_)
      refine Ok_t ?_
      intro r3
      refine Ok_i (fun g_4 => ?_) (fun _ => ?_)
      · refine Ok_g (fun g_5 => ?_)
        refine Ok_g (fun g_6 => ?_)
        refine Ok_t ?_
        intro r14
        refine Ok_i (fun g_7 => ?_) (fun _ => ?_)
        · exact Ok_m (aX12_set_b65) (fun _ hr => (Ag.tr Ag.rf (Ag.mo rfl hr)))
        · exact Ok_m (aX12_set_b65) (fun _ hr => (Ag.tr Ag.rf (Ag.mo rfl hr)))
      · exact Ok_m (aX12_set_b65) (fun _ hr => (Ag.tr Ag.rf (Ag.mo rfl hr)))
def WX12_lift : List (Nat × Nat) := [(114, 115), (115, 116)]
theorem aX12_lift {I : Nat → Nat → Int32} {x1 : Int32} {x2 : Int32} {x3 : Int32} : Ok (gX12_lift I x1 x2 x3) (fun r => Ag WX12_lift I r.1) := by
  unfold gX12_lift
  refine Ok_i (fun g_1 => ?_) (fun _ => ?_)
  · exact Ok_s Ag.rf
  · refine Ok_i (fun g_2 => ?_) (fun _ => ?_)
    · exact Ok_s Ag.rf
    · refine Ok_g (fun g_3 => ?_)
      refine Ok_t ?_
      intro r3
      refine Ok_i (fun g_4 => ?_) (fun _ => ?_)
      · refine Ok_g (fun g_5 => ?_)
        refine Ok_g (fun g_6 => ?_)
        refine Ok_g (fun g_7 => ?_)
        have m_8 := Ag.st (k := (Int32.toNatClampNeg x1)) (v := (I 120 (Int32.toNatClampNeg ((I 118 (Int32.toNatClampNeg v2)) + x3)))) Ag.rf (show inW WX12_lift 115 = true from rfl)
        exact Ok_s m_8
      · refine Ok_b (aX12_no) ?_
        intro rr hr
        obtain ⟨I9, r10⟩ := rr
        have h_9 := hr
        have m_10 : Ag WX12_lift I I9 := Ag.tr Ag.rf (Ag.mo rfl h_9)
        exact Ok_s m_10
def WX12_liftAs_b79 : List (Nat × Nat) := [(114, 115), (115, 116)]
theorem aX12_liftAs_b79 {σ : Shp} {R : Nat → Nat → Option Nat} {I : Nat → Nat → Int32} {x1 : Int32} {x3 : Int32} {x5 : Int32} {s0 : Int32} : Ok (gX12_liftAs_b79 σ R I x1 x3 x5 s0) (fun r => Ag WX12_liftAs_b79 I r.1) := by
  unfold gX12_liftAs_b79
  refine Ok_i (fun g_1 => ?_) (fun _ => ?_)
  · refine Ok_g (fun g_2 => ?_)
    refine Ok_g (fun g_3 => ?_)
    refine Ok_g (fun g_4 => ?_)
    have m_5 := Ag.st (k := (Int32.toNatClampNeg x1)) (v := (I 120 (Int32.toNatClampNeg ((I 118 (Int32.toNatClampNeg x5)) + x3)))) Ag.rf (show inW WX12_liftAs_b79 115 = true from rfl)
    exact Ok_s m_5
  · refine Ok_b (aX12_no) ?_
    intro rr hr
    obtain ⟨I9, r10⟩ := rr
    have h_6 := hr
    have m_7 : Ag WX12_liftAs_b79 I I9 := Ag.tr Ag.rf (Ag.mo rfl h_6)
    exact Ok_s m_7
def WX12_liftAs : List (Nat × Nat) := [(114, 115), (115, 116)]
theorem aX12_liftAs {σ : Shp} {I : Nat → Nat → Int32} {R : Nat → Nat → Option Nat} {x1 : Int32} {x2 : Int32} {x3 : Int32} {x4 : Int32} : Ok (gX12_liftAs σ I R x1 x2 x3 x4) (fun r => Ag WX12_liftAs I r.1) := by
  unfold gX12_liftAs
  refine Ok_i (fun g_1 => ?_) (fun _ => ?_)
  · exact Ok_s Ag.rf
  · refine Ok_i (fun g_2 => ?_) (fun _ => ?_)
    · exact Ok_s Ag.rf
    · refine Ok_i (fun g_3 => ?_) (fun _ => ?_)
      · exact Ok_s Ag.rf
      · refine Ok_g (fun g_4 => ?_)
        refine Ok_t ?_
        intro r3
        refine Ok_i (fun g_5 => ?_) (fun _ => ?_)
        · refine Ok_g (fun g_6 => ?_)
          refine Ok_g (fun g_7 => ?_)
          refine Ok_t ?_
          intro r14
          refine Ok_i (fun g_8 => ?_) (fun _ => ?_)
          · exact Ok_m (aX12_liftAs_b79) (fun _ hr => (Ag.tr Ag.rf (Ag.mo rfl hr)))
          · exact Ok_m (aX12_liftAs_b79) (fun _ hr => (Ag.tr Ag.rf (Ag.mo rfl hr)))
        · exact Ok_m (aX12_liftAs_b79) (fun _ hr => (Ag.tr Ag.rf (Ag.mo rfl hr)))
def WX12_shift_l142 : List (Nat × Nat) := [(114, 115), (119, 120), (120, 121)]
theorem aX12_shift_l142 {σ : Shp} {R : Nat → Nat → Option Nat} : ∀ (n : Nat) (I : Nat → Nat → Int32) (J : Nat → Nat → Int64) (x4 : Int32) (x5 : Int32) (x7 : Int32) (x9 : Int32) (x10 : Int32), Ok (gX12_shift_l142 σ R n I J x4 x5 x7 x9 x10) (fun r => Ag WX12_shift_l142 I r.1 ∧ Ag WX12_shift_l142 J r.2.1) := by
  intro n
  induction n with
  | zero => intro I J x4 x5 x7 x9 x10; exact Ok_e rfl
  | succ n ih =>
    intro I J x4 x5 x7 x9 x10
    rw [gX12_shift_l142]
    refine Ok_i (fun g_1 => ?_) (fun _ => ?_)
    · exact Ok_s ⟨Ag.rf, Ag.rf⟩
    · refine Ok_i (fun g_2 => ?_) (fun _ => ?_)
      · refine Ok_g (fun g_3 => ?_)
        refine Ok_g (fun g_4 => ?_)
        refine Ok_t ?_
        intro r12
        refine Ok_i (fun g_5 => ?_) (fun _ => ?_)
        · refine Ok_b (aX12_no) ?_
          intro rr hr
          obtain ⟨I19, r20⟩ := rr
          have h_6 := hr
          have m_7 : Ag WX12_shift_l142 I I19 := Ag.tr Ag.rf (Ag.mo rfl h_6)
          exact Ok_s ⟨m_7, Ag.rf⟩
        · refine Ok_g (fun g_8 => ?_)
          refine Ok_g (fun g_9 => ?_)
          have m_10 := Ag.st (k := (Int32.toNatClampNeg (((I 118 (Int32.toNatClampNeg x7)) + x4) + x10))) (v := ((Int32.toInt16 ((Int32.toInt16 (Int64.toInt32 (J 128 (Int32.toNatClampNeg x10)))).toInt32)).toInt32)) Ag.rf (show inW WX12_shift_l142 120 = true from rfl)
          have m_11 := Ag.st (k := 22) (v := ((I16 114 22) + (1 : Int32))) m_10 (show inW WX12_shift_l142 114 = true from rfl)
          exact Ok_m (ih _ _ _ _ _ _ _) (fun _ ⟨h0, h1⟩ => ⟨(Ag.tr m_11 (Ag.mo rfl h0)), (Ag.tr Ag.rf (Ag.mo rfl h1))⟩)
      · refine Ok_g (fun g_12 => ?_)
        refine Ok_g (fun g_13 => ?_)
        refine Ok_g (fun g_14 => ?_)
        have m_15 := Ag.st (k := (Int32.toNatClampNeg (((I 118 (Int32.toNatClampNeg x7)) + x4) + x10))) (v := (J 128 (Int32.toNatClampNeg x10))) Ag.rf (show inW WX12_shift_l142 119 = true from rfl)
        have m_16 := Ag.st (k := 22) (v := ((I 114 22) + (1 : Int32))) Ag.rf (show inW WX12_shift_l142 114 = true from rfl)
        exact Ok_m (ih _ _ _ _ _ _ _) (fun _ ⟨h0, h1⟩ => ⟨(Ag.tr m_16 (Ag.mo rfl h0)), (Ag.tr m_15 (Ag.mo rfl h1))⟩)
def WX12_shift_l76 : List (Nat × Nat) := [(114, 115), (119, 120), (120, 121), (128, 129)]
theorem aX12_shift_l76 {σ : Shp} {R : Nat → Nat → Option Nat} : ∀ (n : Nat) (I : Nat → Nat → Int32) (J : Nat → Nat → Int64) (x2 : Int32) (x4 : Int32) (x5 : Int32) (x6 : Int32) (x7 : Int32) (x9 : Int32) (x10 : Int32), Ok (gX12_shift_l76 σ R n I J x2 x4 x5 x6 x7 x9 x10) (fun r => Ag WX12_shift_l76 I r.1 ∧ Ag WX12_shift_l76 J r.2.1) := by
  intro n
  induction n with
  | zero => intro I J x2 x4 x5 x6 x7 x9 x10; exact Ok_e rfl
  | succ n ih =>
    intro I J x2 x4 x5 x6 x7 x9 x10
    rw [gX12_shift_l76]
    refine Ok_i (fun g_1 => ?_) (fun _ => ?_)
    · exact Ok_m (aX12_shift_l142  _ _ _ _ _ _ _ _) (fun _ ⟨h0, h1⟩ => ⟨(Ag.tr Ag.rf (Ag.mo rfl h0)), (Ag.tr Ag.rf (Ag.mo rfl h1))⟩)
    · refine Ok_i (fun g_2 => ?_) (fun _ => ?_)
      · refine Ok_g (fun g_3 => ?_)
        refine Ok_g (fun g_4 => ?_)
        refine Ok_g (fun g_5 => ?_)
        have m_6 := Ag.st (k := (Int32.toNatClampNeg x10)) (v := (Int32.toInt64 (I 120 (Int32.toNatClampNeg (((I 118 (Int32.toNatClampNeg x6)) + x2) + x10))))) Ag.rf (show inW WX12_shift_l76 128 = true from rfl)
        exact Ok_m (ih _ _ _ _ _ _ _ _ _) (fun _ ⟨h0, h1⟩ => ⟨(Ag.tr Ag.rf (Ag.mo rfl h0)), (Ag.tr m_6 (Ag.mo rfl h1))⟩)
      · refine Ok_g (fun g_7 => ?_)
        refine Ok_g (fun g_8 => ?_)
        refine Ok_g (fun g_9 => ?_)
        have m_10 := Ag.st (k := (Int32.toNatClampNeg x10)) (v := (J 119 (Int32.toNatClampNeg (((I 118 (Int32.toNatClampNeg x6)) + x2) + x10)))) Ag.rf (show inW WX12_shift_l76 128 = true from rfl)
        exact Ok_m (ih _ _ _ _ _ _ _ _ _) (fun _ ⟨h0, h1⟩ => ⟨(Ag.tr Ag.rf (Ag.mo rfl h0)), (Ag.tr m_10 (Ag.mo rfl h1))⟩)
def WX12_shift : List (Nat × Nat) := [(114, 115), (119, 120), (120, 121), (128, 129)]
theorem aX12_shift {σ : Shp} {I : Nat → Nat → Int32} {J : Nat → Nat → Int64} {R : Nat → Nat → Option Nat} {x1 : Int32} {x2 : Int32} {x3 : Int32} {x4 : Int32} {x5 : Int32} : Ok (gX12_shift σ I J R x1 x2 x3 x4 x5) (fun r => Ag WX12_shift I r.1 ∧ Ag WX12_shift J r.2.1) := by
  unfold gX12_shift
  refine Ok_i (fun g_1 => ?_) (fun _ => ?_)
  · exact Ok_s ⟨Ag.rf, Ag.rf⟩
  · refine Ok_i (fun g_2 => ?_) (fun _ => ?_)
    · exact Ok_s ⟨Ag.rf, Ag.rf⟩
    · have m_3 := Ag.st (k := 22) (v := (0 : Int32)) Ag.rf (show inW WX12_shift 114 = true from rfl)
      refine Ok_g (fun g_4 => ?_)
      refine Ok_g (fun g_5 => ?_)
      refine Ok_t ?_
      intro r6
      refine Ok_i (fun g_6 => ?_) (fun _ => ?_)
      · refine Ok_t ?_
        intro r8
        exact Ok_m (aX12_shift_l76  _ _ _ _ _ _ _ _ _ _) (fun _ ⟨h0, h1⟩ => ⟨(Ag.tr m_3 (Ag.mo rfl h0)), (Ag.tr Ag.rf (Ag.mo rfl h1))⟩)
      · refine Ok_b (aX12_no) ?_
        intro rr hr
        obtain ⟨I38, r39⟩ := rr
        have h_7 := hr
        have m_8 : Ag WX12_shift I I38 := Ag.tr m_3 (Ag.mo rfl h_7)
        exact Ok_s ⟨m_8, Ag.rf⟩
def WX12_rowCopy_l19 : List (Nat × Nat) := [(119, 120)]
theorem aX12_rowCopy_l19 {σ : Shp} {R : Nat → Nat → Option Nat} : ∀ (n : Nat) (I : Nat → Nat → Int32) (J : Nat → Nat → Int64) (x1 : Int32) (x2 : Int32) (x3 : Int32), Ok (gX12_rowCopy_l19 σ R n I J x1 x2 x3) (fun r => Ag WX12_rowCopy_l19 I r.1 ∧ Ag WX12_rowCopy_l19 J r.2.1) := by
  intro n
  induction n with
  | zero => intro I J x1 x2 x3; exact Ok_e rfl
  | succ n ih =>
    intro I J x1 x2 x3
    rw [gX12_rowCopy_l19]
    refine Ok_g (fun g_1 => ?_)
    refine Ok_i (fun g_2 => ?_) (fun _ => ?_)
    · exact Ok_s ⟨Ag.rf, Ag.rf⟩
    · refine Ok_g (fun g_3 => ?_)
      refine Ok_g (fun g_4 => ?_)
      refine Ok_g (fun g_5 => ?_)
      refine Ok_g (fun g_6 => ?_)
      have m_7 := Ag.st (k := (Int32.toNatClampNeg ((I 118 (Int32.toNatClampNeg x2)) + x3))) (v := (J 119 (Int32.toNatClampNeg ((I 118 (Int32.toNatClampNeg x1)) + x3)))) Ag.rf (show inW WX12_rowCopy_l19 119 = true from rfl)
      exact Ok_m (ih _ _ _ _ _) (fun _ ⟨h0, h1⟩ => ⟨(Ag.tr Ag.rf (Ag.mo rfl h0)), (Ag.tr m_7 (Ag.mo rfl h1))⟩)
def WX12_rowCopy : List (Nat × Nat) := [(114, 115), (116, 117), (117, 118), (118, 119), (119, 120)]
theorem aX12_rowCopy {σ : Shp} {I : Nat → Nat → Int32} {J : Nat → Nat → Int64} {R : Nat → Nat → Option Nat} {x1 : Int32} : Ok (gX12_rowCopy σ I J R x1) (fun r => Ag WX12_rowCopy I r.1 ∧ Ag WX12_rowCopy J r.2.1) := by
  unfold gX12_rowCopy
  refine Ok_g (fun g_1 => ?_)
  refine Ok_g (fun g_2 => ?_)
  refine Ok_b (aX12_newRow) ?_
  intro rr hr
  obtain ⟨I3, r4⟩ := rr
  have h_3 := hr
  have m_4 : Ag WX12_rowCopy I I3 := Ag.tr Ag.rf (Ag.mo rfl h_3)
  exact Ok_m (aX12_rowCopy_l19  _ _ _ _ _ _) (fun _ ⟨h0, h1⟩ => ⟨(Ag.tr m_4 (Ag.mo rfl h0)), (Ag.tr Ag.rf (Ag.mo rfl h1))⟩)
def WX12_gridCopy_l19 : List (Nat × Nat) := [(114, 115), (116, 117), (117, 118), (118, 119), (119, 120), (120, 121)]
theorem aX12_gridCopy_l19 {σ : Shp} {R : Nat → Nat → Option Nat} : ∀ (n : Nat) (I : Nat → Nat → Int32) (J : Nat → Nat → Int64) (x1 : Int32) (x2 : Int32) (x3 : Int32), Ok (gX12_gridCopy_l19 σ R n I J x1 x2 x3) (fun r => Ag WX12_gridCopy_l19 I r.1 ∧ Ag WX12_gridCopy_l19 J r.2.1) := by
  intro n
  induction n with
  | zero => intro I J x1 x2 x3; exact Ok_e rfl
  | succ n ih =>
    intro I J x1 x2 x3
    rw [gX12_gridCopy_l19]
    refine Ok_g (fun g_1 => ?_)
    refine Ok_i (fun g_2 => ?_) (fun _ => ?_)
    · exact Ok_s ⟨Ag.rf, Ag.rf⟩
    · refine Ok_g (fun g_3 => ?_)
      refine Ok_g (fun g_4 => ?_)
      refine Ok_g (fun g_5 => ?_)
      refine Ok_i (fun g_6 => ?_) (fun _ => ?_)
      · refine Ok_g (fun g_7 => ?_)
        have m_8 := Ag.st (k := (Int32.toNatClampNeg ((I 118 (Int32.toNatClampNeg x2)) + x3))) (v := ((Int32.toInt16 ((Int32.toInt16 (0 : Int32)).toInt32)).toInt32)) Ag.rf (show inW WX12_gridCopy_l19 120 = true from rfl)
        exact Ok_m (ih _ _ _ _ _) (fun _ ⟨h0, h1⟩ => ⟨(Ag.tr m_8 (Ag.mo rfl h0)), (Ag.tr Ag.rf (Ag.mo rfl h1))⟩)
      · refine Ok_b (aX12_rowCopy) ?_
        intro rr hr
        obtain ⟨I11, J12, r13⟩ := rr
        obtain ⟨h_9, h_10⟩ := hr
        have m_11 : Ag WX12_gridCopy_l19 I I11 := Ag.tr Ag.rf (Ag.mo rfl h_9)
        have m_12 : Ag WX12_gridCopy_l19 J J12 := Ag.tr Ag.rf (Ag.mo rfl h_10)
        refine Ok_g (fun g_13 => ?_)
        have m_14 := Ag.st (k := (Int32.toNatClampNeg ((I 118 (Int32.toNatClampNeg x2)) + x3))) (v := ((Int32.toInt16 ((Int32.toInt16 r13).toInt32)).toInt32)) m_11 (show inW WX12_gridCopy_l19 120 = true from rfl)
        exact Ok_m (ih _ _ _ _ _) (fun _ ⟨h0, h1⟩ => ⟨(Ag.tr m_14 (Ag.mo rfl h0)), (Ag.tr m_12 (Ag.mo rfl h1))⟩)
def WX12_gridCopy : List (Nat × Nat) := [(114, 115), (116, 117), (117, 118), (118, 119), (119, 120), (120, 121)]
theorem aX12_gridCopy {σ : Shp} {I : Nat → Nat → Int32} {J : Nat → Nat → Int64} {R : Nat → Nat → Option Nat} {x1 : Int32} : Ok (gX12_gridCopy σ I J R x1) (fun r => Ag WX12_gridCopy I r.1 ∧ Ag WX12_gridCopy J r.2.1) := by
  unfold gX12_gridCopy
  refine Ok_g (fun g_1 => ?_)
  refine Ok_g (fun g_2 => ?_)
  refine Ok_b (aX12_newPlaces) ?_
  intro rr hr
  obtain ⟨I3, r4⟩ := rr
  have h_3 := hr
  have m_4 : Ag WX12_gridCopy I I3 := Ag.tr Ag.rf (Ag.mo rfl h_3)
  exact Ok_m (aX12_gridCopy_l19  _ _ _ _ _ _) (fun _ ⟨h0, h1⟩ => ⟨(Ag.tr m_4 (Ag.mo rfl h0)), (Ag.tr Ag.rf (Ag.mo rfl h1))⟩)
def WX12_placesCopy_b93 : List (Nat × Nat) := [(114, 115), (116, 117), (117, 118), (118, 119), (119, 120), (120, 121)]
theorem aX12_placesCopy_b93 {q41 : (Nat → Nat → Int32) → (Nat → Nat → Int64) → (Int32) → (Int32) → (Int32) → (Int32) → (Option ((Nat → Nat → Int32) × (Nat → Nat → Int64) × (Int32)))} {σ : Shp} {R : Nat → Nat → Option Nat} {I : Nat → Nat → Int32} {J : Nat → Nat → Int64} {x1 : Int32} {x2 : Int32} {x3 : Int32} {x4 : Int32} {x5 : Int32} {s0 : Int32} (hq41 : ∀ (I : Nat → Nat → Int32) (J : Nat → Nat → Int64) (x1 : Int32) (x2 : Int32) (x3 : Int32) (x4 : Int32), Ok (q41 I J x1 x2 x3 x4) (fun r => Ag WX12_placesCopy_l41 I r.1 ∧ Ag WX12_placesCopy_l41 J r.2.1)) : Ok (gX12_placesCopy_b93 q41 σ R I J x1 x2 x3 x4 x5 s0) (fun r => Ag WX12_placesCopy_b93 I r.1 ∧ Ag WX12_placesCopy_b93 J r.2.1) := by
  unfold gX12_placesCopy_b93
  refine Ok_g (fun g_1 => ?_)
  refine Ok_i (fun g_2 => ?_) (fun _ => ?_)
  · refine Ok_g (fun g_3 => ?_)
    have m_4 := Ag.st (k := (Int32.toNatClampNeg ((I 118 (Int32.toNatClampNeg x3)) + x4))) (v := ((Int32.toInt16 ((Int32.toInt16 x5).toInt32)).toInt32)) Ag.rf (show inW WX12_placesCopy_b93 120 = true from rfl)
    exact Ok_m (hq41 _ _ _ _ _ _) (fun _ ⟨h0, h1⟩ => ⟨(Ag.tr m_4 (Ag.mo rfl h0)), (Ag.tr Ag.rf (Ag.mo rfl h1))⟩)
  · refine Ok_b (aX12_gridCopy) ?_
    intro rr hr
    obtain ⟨I14, J15, r16⟩ := rr
    obtain ⟨h_5, h_6⟩ := hr
    have m_7 : Ag WX12_placesCopy_b93 I I14 := Ag.tr Ag.rf (Ag.mo rfl h_5)
    have m_8 : Ag WX12_placesCopy_b93 J J15 := Ag.tr Ag.rf (Ag.mo rfl h_6)
    refine Ok_g (fun g_9 => ?_)
    have m_10 := Ag.st (k := (Int32.toNatClampNeg ((I 118 (Int32.toNatClampNeg x3)) + x4))) (v := ((Int32.toInt16 ((Int32.toInt16 r16).toInt32)).toInt32)) m_7 (show inW WX12_placesCopy_b93 120 = true from rfl)
    exact Ok_m (hq41 _ _ _ _ _ _) (fun _ ⟨h0, h1⟩ => ⟨(Ag.tr m_10 (Ag.mo rfl h0)), (Ag.tr m_8 (Ag.mo rfl h1))⟩)
def WX12_placesCopy_l41 : List (Nat × Nat) := [(114, 115), (116, 117), (117, 118), (118, 119), (119, 120), (120, 121)]
theorem aX12_placesCopy_l41 {σ : Shp} {R : Nat → Nat → Option Nat} : ∀ (n : Nat) (I : Nat → Nat → Int32) (J : Nat → Nat → Int64) (x1 : Int32) (x2 : Int32) (x3 : Int32) (x4 : Int32), Ok (gX12_placesCopy_l41 σ R n I J x1 x2 x3 x4) (fun r => Ag WX12_placesCopy_l41 I r.1 ∧ Ag WX12_placesCopy_l41 J r.2.1) := by
  intro n
  induction n with
  | zero => intro I J x1 x2 x3 x4; exact Ok_e rfl
  | succ n ih =>
    intro I J x1 x2 x3 x4
    rw [gX12_placesCopy_l41]
    refine Ok_g (fun g_1 => ?_)
    refine Ok_i (fun g_2 => ?_) (fun _ => ?_)
    · exact Ok_s ⟨Ag.rf, Ag.rf⟩
    · refine Ok_g (fun g_3 => ?_)
      refine Ok_g (fun g_4 => ?_)
      refine Ok_i (fun g_5 => ?_) (fun _ => ?_)
      · exact Ok_m (aX12_placesCopy_b93 ih) (fun _ ⟨h0, h1⟩ => ⟨(Ag.tr Ag.rf (Ag.mo rfl h0)), (Ag.tr Ag.rf (Ag.mo rfl h1))⟩)
      · refine Ok_g (fun g_6 => ?_)
        refine Ok_i (fun g_7 => ?_) (fun _ => ?_)
        · refine Ok_i (fun g_8 => ?_) (fun _ => ?_)
          · exact Ok_m (aX12_placesCopy_b93 ih) (fun _ ⟨h0, h1⟩ => ⟨(Ag.tr Ag.rf (Ag.mo rfl h0)), (Ag.tr Ag.rf (Ag.mo rfl h1))⟩)
          · exact Ok_m (aX12_placesCopy_b93 ih) (fun _ ⟨h0, h1⟩ => ⟨(Ag.tr Ag.rf (Ag.mo rfl h0)), (Ag.tr Ag.rf (Ag.mo rfl h1))⟩)
        · exact Ok_m (aX12_placesCopy_b93 ih) (fun _ ⟨h0, h1⟩ => ⟨(Ag.tr Ag.rf (Ag.mo rfl h0)), (Ag.tr Ag.rf (Ag.mo rfl h1))⟩)
def WX12_placesCopy : List (Nat × Nat) := [(114, 115), (116, 117), (117, 118), (118, 119), (119, 120), (120, 121)]
theorem aX12_placesCopy {σ : Shp} {I : Nat → Nat → Int32} {J : Nat → Nat → Int64} {R : Nat → Nat → Option Nat} {x1 : Int32} {x2 : Int32} : Ok (gX12_placesCopy σ I J R x1 x2) (fun r => Ag WX12_placesCopy I r.1 ∧ Ag WX12_placesCopy J r.2.1) := by
  unfold gX12_placesCopy
  refine Ok_i (fun g_1 => ?_) (fun _ => ?_)
  · refine Ok_g (fun g_2 => ?_)
    refine Ok_g (fun g_3 => ?_)
    refine Ok_b (aX12_newPlaces) ?_
    intro rr hr
    obtain ⟨I3, r4⟩ := rr
    have h_4 := hr
    have m_5 : Ag WX12_placesCopy I I3 := Ag.tr Ag.rf (Ag.mo rfl h_4)
    exact Ok_m (aX12_placesCopy_l41  _ _ _ _ _ _ _) (fun _ ⟨h0, h1⟩ => ⟨(Ag.tr m_5 (Ag.mo rfl h0)), (Ag.tr Ag.rf (Ag.mo rfl h1))⟩)
  · refine Ok_g (fun g_6 => ?_)
    refine Ok_i (fun g_7 => ?_) (fun _ => ?_)
    · refine Ok_g (fun g_8 => ?_)
      refine Ok_b (aX12_newPlaces) ?_
      intro rr hr
      obtain ⟨I24, r25⟩ := rr
      have h_9 := hr
      have m_10 : Ag WX12_placesCopy I I24 := Ag.tr Ag.rf (Ag.mo rfl h_9)
      exact Ok_m (aX12_placesCopy_l41  _ _ _ _ _ _ _) (fun _ ⟨h0, h1⟩ => ⟨(Ag.tr m_10 (Ag.mo rfl h0)), (Ag.tr Ag.rf (Ag.mo rfl h1))⟩)
    · refine Ok_b (aX12_gridCopy) ?_
      intro rr hr
      obtain ⟨I27, J28, r29⟩ := rr
      obtain ⟨h_11, h_12⟩ := hr
      have m_13 : Ag WX12_placesCopy I I27 := Ag.tr Ag.rf (Ag.mo rfl h_11)
      have m_14 : Ag WX12_placesCopy J J28 := Ag.tr Ag.rf (Ag.mo rfl h_12)
      exact Ok_s ⟨m_13, m_14⟩
def WX12_newCard : List (Nat × Nat) := [(114, 115), (116, 117), (117, 118), (118, 119), (121, 122)]
theorem aX12_newCard {I : Nat → Nat → Int32} : Ok (gX12_newCard I) (fun r => Ag WX12_newCard I r.1) := by
  unfold gX12_newCard
  refine Ok_b (aX12_thing) ?_
  intro rr hr
  obtain ⟨I1, r2⟩ := rr
  have h_1 := hr
  have m_2 : Ag WX12_newCard I I1 := Ag.tr Ag.rf (Ag.mo rfl h_1)
  refine Ok_g (fun g_3 => ?_)
  have m_4 := Ag.st (k := (Int32.toNatClampNeg r2)) (v := (I1 114 7)) m_2 (show inW WX12_newCard 118 = true from rfl)
  have m_5 := Ag.st (k := 7) (v := ((I5 114 7) + (8 : Int32))) m_4 (show inW WX12_newCard 114 = true from rfl)
  refine Ok_g (fun g_6 => ?_)
  have m_7 := Ag.st (k := (Int32.toNatClampNeg r2)) (v := (I6 114 19)) m_5 (show inW WX12_newCard 121 = true from rfl)
  have m_8 := Ag.st (k := 19) (v := ((I8 114 19) + (1 : Int32))) m_7 (show inW WX12_newCard 114 = true from rfl)
  exact Ok_s m_8
def WX12_cardCopy_l7 : List (Nat × Nat) := [(119, 120), (125, 126), (126, 127)]
theorem aX12_cardCopy_l7 {σ : Shp} {R : Nat → Nat → Option Nat} : ∀ (n : Nat) (I : Nat → Nat → Int32) (J : Nat → Nat → Int64) (x1 : Int32) (x2 : Int32) (x3 : Int32), Ok (gX12_cardCopy_l7 σ R n I J x1 x2 x3) (fun r => Ag WX12_cardCopy_l7 I r.1 ∧ Ag WX12_cardCopy_l7 J r.2.1) := by
  intro n
  induction n with
  | zero => intro I J x1 x2 x3; exact Ok_e rfl
  | succ n ih =>
    intro I J x1 x2 x3
    rw [gX12_cardCopy_l7]
    refine Ok_i (fun g_1 => ?_) (fun _ => ?_)
    · refine Ok_g (fun g_2 => ?_)
      refine Ok_g (fun g_3 => ?_)
      have m_4 := Ag.st (k := (Int32.toNatClampNeg x2)) (v := ((Int32.toInt16 (I 125 (Int32.toNatClampNeg x1))).toInt32)) Ag.rf (show inW WX12_cardCopy_l7 125 = true from rfl)
      refine Ok_g (fun g_5 => ?_)
      refine Ok_g (fun g_6 => ?_)
      have m_7 := Ag.st (k := (Int32.toNatClampNeg x2)) (v := ((Int32.toInt16 (I6 126 (Int32.toNatClampNeg x1))).toInt32)) m_4 (show inW WX12_cardCopy_l7 126 = true from rfl)
      exact Ok_s ⟨m_7, Ag.rf⟩
    · refine Ok_g (fun g_8 => ?_)
      refine Ok_g (fun g_9 => ?_)
      refine Ok_g (fun g_10 => ?_)
      refine Ok_g (fun g_11 => ?_)
      have m_12 := Ag.st (k := (Int32.toNatClampNeg ((I 118 (Int32.toNatClampNeg x2)) + x3))) (v := (J 119 (Int32.toNatClampNeg ((I 118 (Int32.toNatClampNeg x1)) + x3)))) Ag.rf (show inW WX12_cardCopy_l7 119 = true from rfl)
      exact Ok_m (ih _ _ _ _ _) (fun _ ⟨h0, h1⟩ => ⟨(Ag.tr Ag.rf (Ag.mo rfl h0)), (Ag.tr m_12 (Ag.mo rfl h1))⟩)
def WX12_cardCopy : List (Nat × Nat) := [(114, 115), (116, 117), (117, 118), (118, 119), (119, 120), (121, 122), (125, 126), (126, 127)]
theorem aX12_cardCopy {σ : Shp} {I : Nat → Nat → Int32} {J : Nat → Nat → Int64} {R : Nat → Nat → Option Nat} {x1 : Int32} : Ok (gX12_cardCopy σ I J R x1) (fun r => Ag WX12_cardCopy I r.1 ∧ Ag WX12_cardCopy J r.2.1) := by
  unfold gX12_cardCopy
  refine Ok_b (aX12_newCard) ?_
  intro rr hr
  obtain ⟨I1, r2⟩ := rr
  have h_1 := hr
  have m_2 : Ag WX12_cardCopy I I1 := Ag.tr Ag.rf (Ag.mo rfl h_1)
  exact Ok_m (aX12_cardCopy_l7  _ _ _ _ _ _) (fun _ ⟨h0, h1⟩ => ⟨(Ag.tr m_2 (Ag.mo rfl h0)), (Ag.tr Ag.rf (Ag.mo rfl h1))⟩)
def WX12_copy : List (Nat × Nat) := [(114, 115), (115, 116), (116, 117), (117, 118), (118, 119), (119, 120), (120, 121), (121, 122), (125, 126), (126, 127)]
theorem aX12_copy {σ : Shp} {I : Nat → Nat → Int32} {J : Nat → Nat → Int64} {R : Nat → Nat → Option Nat} {x1 : Int32} {x2 : Int32} {x3 : Int32} : Ok (gX12_copy σ I J R x1 x2 x3) (fun r => Ag WX12_copy I r.1 ∧ Ag WX12_copy J r.2.1) := by
  unfold gX12_copy
  refine Ok_i (fun g_1 => ?_) (fun _ => ?_)
  · exact Ok_s ⟨Ag.rf, Ag.rf⟩
  · refine Ok_i (fun g_2 => ?_) (fun _ => ?_)
    · exact Ok_s ⟨Ag.rf, Ag.rf⟩
    · refine Ok_t ?_
      intro r1
      refine Ok_i (fun g_3 => ?_) (fun _ => ?_)
      · refine Ok_g (fun g_4 => ?_)
        refine Ok_i (fun g_5 => ?_) (fun _ => ?_)
        · refine Ok_g (fun g_6 => ?_)
          have m_7 := Ag.st (k := (Int32.toNatClampNeg x1)) (v := v4) Ag.rf (show inW WX12_copy 115 = true from rfl)
          exact Ok_s ⟨m_7, Ag.rf⟩
        · refine Ok_g (fun g_8 => ?_)
          refine Ok_i (fun g_9 => ?_) (fun _ => ?_)
          · refine Ok_g (fun g_10 => ?_)
            have m_11 := Ag.st (k := (Int32.toNatClampNeg x1)) (v := v4) Ag.rf (show inW WX12_copy 115 = true from rfl)
            exact Ok_s ⟨m_11, Ag.rf⟩
          · refine Ok_t ?_
            intro r8
            refine Ok_i (fun g_12 => ?_) (fun _ => ?_)
            · refine Ok_i (fun g_13 => ?_) (fun _ => ?_)
              · refine Ok_b (aX12_cardCopy) ?_
                intro rr hr
                obtain ⟨I16, J17, r18⟩ := rr
                obtain ⟨h_14, h_15⟩ := hr
                have m_16 : Ag WX12_copy I I16 := Ag.tr Ag.rf (Ag.mo rfl h_14)
                have m_17 : Ag WX12_copy J J17 := Ag.tr Ag.rf (Ag.mo rfl h_15)
                refine Ok_g (fun g_18 => ?_)
                have m_19 := Ag.st (k := (Int32.toNatClampNeg x1)) (v := r18) m_16 (show inW WX12_copy 115 = true from rfl)
                exact Ok_s ⟨m_19, m_17⟩
              · refine Ok_b (aX12_placesCopy) ?_
                intro rr hr
                obtain ⟨I10, J11, r12⟩ := rr
                obtain ⟨h_20, h_21⟩ := hr
                have m_22 : Ag WX12_copy I I10 := Ag.tr Ag.rf (Ag.mo rfl h_20)
                have m_23 : Ag WX12_copy J J11 := Ag.tr Ag.rf (Ag.mo rfl h_21)
                refine Ok_g (fun g_24 => ?_)
                have m_25 := Ag.st (k := (Int32.toNatClampNeg x1)) (v := r12) m_22 (show inW WX12_copy 115 = true from rfl)
                exact Ok_s ⟨m_25, m_23⟩
            · refine Ok_b (aX12_rowCopy) ?_
              intro rr hr
              obtain ⟨I22, J23, r24⟩ := rr
              obtain ⟨h_26, h_27⟩ := hr
              have m_28 : Ag WX12_copy I I22 := Ag.tr Ag.rf (Ag.mo rfl h_26)
              have m_29 : Ag WX12_copy J J23 := Ag.tr Ag.rf (Ag.mo rfl h_27)
              refine Ok_g (fun g_30 => ?_)
              have m_31 := Ag.st (k := (Int32.toNatClampNeg x1)) (v := r24) m_28 (show inW WX12_copy 115 = true from rfl)
              exact Ok_s ⟨m_31, m_29⟩
      · exact Ok_s ⟨Ag.rf, Ag.rf⟩
def WX12_size_l61 : List (Nat × Nat) := []
theorem aX12_size_l61 {σ : Shp} {R : Nat → Nat → Option Nat} : ∀ (n : Nat) (I : Nat → Nat → Int32) (x2 : Int32) (x3 : Int32) (x4 : Int32) (x5 : Int32), Ok (gX12_size_l61 σ R n I x2 x3 x4 x5) (fun r => Ag WX12_size_l61 I r.1) := by
  intro n
  induction n with
  | zero => intro I x2 x3 x4 x5; exact Ok_e rfl
  | succ n ih =>
    intro I x2 x3 x4 x5
    rw [gX12_size_l61]
    refine Ok_g (fun g_1 => ?_)
    refine Ok_i (fun g_2 => ?_) (fun _ => ?_)
    · refine Ok_i (fun g_3 => ?_) (fun _ => ?_)
      · exact Ok_s Ag.rf
      · exact Ok_s Ag.rf
    · refine Ok_t ?_
      intro r11
      refine Ok_i (fun g_4 => ?_) (fun _ => ?_)
      · refine Ok_g (fun g_5 => ?_)
        refine Ok_g (fun g_6 => ?_)
        refine Ok_i (fun g_7 => ?_) (fun _ => ?_)
        · exact Ok_m (ih _ _ _ _ _) (fun _ hr => (Ag.tr Ag.rf (Ag.mo rfl hr)))
        · exact Ok_m (ih _ _ _ _ _) (fun _ hr => (Ag.tr Ag.rf (Ag.mo rfl hr)))
      · refine Ok_i (fun g_8 => ?_) (fun _ => ?_)
        · exact Ok_s Ag.rf
        · exact Ok_s Ag.rf
def WX12_size : List (Nat × Nat) := [(114, 115)]
theorem aX12_size {σ : Shp} {I : Nat → Nat → Int32} {R : Nat → Nat → Option Nat} {x1 : Int32} {x2 : Int32} : Ok (gX12_size σ I R x1 x2) (fun r => Ag WX12_size I r.1) := by
  unfold gX12_size
  refine Ok_i (fun g_1 => ?_) (fun _ => ?_)
  · exact Ok_s Ag.rf
  · refine Ok_i (fun g_2 => ?_) (fun _ => ?_)
    · exact Ok_s Ag.rf
    · refine Ok_g (fun g_3 => ?_)
      refine Ok_i (fun g_4 => ?_) (fun _ => ?_)
      · refine Ok_i (fun g_5 => ?_) (fun _ => ?_)
        · refine Ok_b (aX12_no) ?_
          intro rr hr
          obtain ⟨I6, r7⟩ := rr
          have h_6 := hr
          have m_7 : Ag WX12_size I I6 := Ag.tr Ag.rf (Ag.mo rfl h_6)
          exact Ok_s m_7
        · refine Ok_b (aX12_no) ?_
          intro rr hr
          obtain ⟨I3, r4⟩ := rr
          have h_8 := hr
          have m_9 : Ag WX12_size I I3 := Ag.tr Ag.rf (Ag.mo rfl h_8)
          exact Ok_s m_9
      · refine Ok_g (fun g_10 => ?_)
        refine Ok_i (fun g_11 => ?_) (fun _ => ?_)
        · exact Ok_m (aX12_size_l61  _ _ _ _ _ _) (fun _ hr => (Ag.tr Ag.rf (Ag.mo rfl hr)))
        · refine Ok_i (fun g_12 => ?_) (fun _ => ?_)
          · refine Ok_b (aX12_no) ?_
            intro rr hr
            obtain ⟨I22, r23⟩ := rr
            have h_13 := hr
            have m_14 : Ag WX12_size I I22 := Ag.tr Ag.rf (Ag.mo rfl h_13)
            exact Ok_s m_14
          · refine Ok_b (aX12_no) ?_
            intro rr hr
            obtain ⟨I19, r20⟩ := rr
            have h_15 := hr
            have m_16 : Ag WX12_size I I19 := Ag.tr Ag.rf (Ag.mo rfl h_15)
            exact Ok_s m_16
def WX12_plant_b244 : List (Nat × Nat) := [(114, 115), (115, 116), (121, 122), (126, 127), (127, 128)]
theorem aX12_plant_b244 {σ : Shp} {R : Nat → Nat → Option Nat} {I : Nat → Nat → Int32} {x1 : Int32} {x7 : Int32} {x8 : Int32} {s0 : Option Nat} {s1 : Int32} {s2 : Int32} (hs_s0 : Cin [(126, 127)] s0) : Ok (gX12_plant_b244 σ R I x1 x7 x8 s0 s1 s2) (fun r => Ag WX12_plant_b244 I r.1) := by
  unfold gX12_plant_b244
  refine Ok_bc (fun a16 e_1 => ?_)
  refine Ok_g (fun g_2 => ?_)
  refine Ok_g (fun g_3 => ?_)
  have m_4 := Ag.st (k := (Int32.toNatClampNeg s1)) (v := ((Int32.toInt16 ((Int32.toInt16 s2).toInt32)).toInt32)) Ag.rf (inW_mo (L := [(126, 127)]) (M := WX12_plant_b244) rfl (Cin.get hs_s0 e_1))
  refine Ok_g (fun g_5 => ?_)
  have m_6 := Ag.st (k := (Int32.toNatClampNeg x8)) (v := ((Int32.toInt8 ((Int32.toInt8 x7).toInt32)).toInt32)) m_4 (show inW WX12_plant_b244 127 = true from rfl)
  refine Ok_g (fun g_7 => ?_)
  have m_8 := Ag.st (k := (Int32.toNatClampNeg x8)) (v := (I21 114 18)) m_6 (show inW WX12_plant_b244 121 = true from rfl)
  have m_9 := Ag.st (k := 18) (v := ((I23 114 18) + (1 : Int32))) m_8 (show inW WX12_plant_b244 114 = true from rfl)
  refine Ok_g (fun g_10 => ?_)
  have m_11 := Ag.st (k := (Int32.toNatClampNeg x1)) (v := x8) m_9 (show inW WX12_plant_b244 115 = true from rfl)
  exact Ok_s m_11
def WX12_plant_b220 : List (Nat × Nat) := [(114, 115), (115, 116), (121, 122), (125, 126), (126, 127), (127, 128)]
theorem aX12_plant_b220 {σ : Shp} {R : Nat → Nat → Option Nat} {I : Nat → Nat → Int32} {x1 : Int32} {x2 : Int32} {x6 : Int32} {x7 : Int32} {x8 : Int32} {s0 : Option Nat} {s1 : Int32} {s2 : Int32} (hs_s0 : Cin [(125, 126)] s0) : Ok (gX12_plant_b220 σ R I x1 x2 x6 x7 x8 s0 s1 s2) (fun r => Ag WX12_plant_b220 I r.1) := by
  unfold gX12_plant_b220
  refine Ok_bc (fun a12 e_1 => ?_)
  refine Ok_g (fun g_2 => ?_)
  refine Ok_g (fun g_3 => ?_)
  have m_4 := Ag.st (k := (Int32.toNatClampNeg s1)) (v := ((Int32.toInt16 ((Int32.toInt16 s2).toInt32)).toInt32)) Ag.rf (inW_mo (L := [(125, 126)]) (M := WX12_plant_b220) rfl (Cin.get hs_s0 e_1))
  refine Ok_i (fun g_5 => ?_) (fun _ => ?_)
  · refine Ok_g (fun g_6 => ?_)
    exact Ok_m (aX12_plant_b244 ⟨_, rfl, (show inW [(126, 127)] 126 = true from rfl)⟩) (fun _ hr => (Ag.tr m_4 (Ag.mo rfl hr)))
  · exact Ok_m (aX12_plant_b244 ⟨_, rfl, (show inW [(126, 127)] 126 = true from rfl)⟩) (fun _ hr => (Ag.tr m_4 (Ag.mo rfl hr)))
def WX12_plant_b163 : List (Nat × Nat) := [(114, 115), (115, 116), (116, 117), (117, 118), (121, 122), (122, 123), (123, 124), (124, 125), (125, 126), (126, 127), (127, 128)]
theorem aX12_plant_b163 {σ : Shp} {R : Nat → Nat → Option Nat} {I : Nat → Nat → Int32} {x1 : Int32} {x2 : Int32} {x3 : Int32} {x4 : Int32} {x5 : Int32} {x6 : Int32} {x7 : Int32} : Ok (gX12_plant_b163 σ R I x1 x2 x3 x4 x5 x6 x7) (fun r => Ag WX12_plant_b163 I r.1) := by
  unfold gX12_plant_b163
  refine Ok_b (aX12_thing) ?_
  intro rr hr
  obtain ⟨I3, r4⟩ := rr
  have h_1 := hr
  have m_2 : Ag WX12_plant_b163 I I3 := Ag.tr Ag.rf (Ag.mo rfl h_1)
  refine Ok_g (fun g_3 => ?_)
  have m_4 := Ag.st (k := (Int32.toNatClampNeg r4)) (v := ((Int32.toInt8 ((Int32.toInt8 x2).toInt32)).toInt32)) m_2 (show inW WX12_plant_b163 122 = true from rfl)
  refine Ok_g (fun g_5 => ?_)
  have m_6 := Ag.st (k := (Int32.toNatClampNeg r4)) (v := x3) m_4 (show inW WX12_plant_b163 123 = true from rfl)
  refine Ok_g (fun g_7 => ?_)
  have m_8 := Ag.st (k := (Int32.toNatClampNeg r4)) (v := x4) m_6 (show inW WX12_plant_b163 124 = true from rfl)
  refine Ok_i (fun g_9 => ?_) (fun _ => ?_)
  · refine Ok_g (fun g_10 => ?_)
    exact Ok_m (aX12_plant_b220 ⟨_, rfl, (show inW [(125, 126)] 125 = true from rfl)⟩) (fun _ hr => (Ag.tr m_8 (Ag.mo rfl hr)))
  · exact Ok_m (aX12_plant_b220 ⟨_, rfl, (show inW [(125, 126)] 125 = true from rfl)⟩) (fun _ hr => (Ag.tr m_8 (Ag.mo rfl hr)))
def WX12_plant_b40 : List (Nat × Nat) := [(114, 115), (115, 116), (116, 117), (117, 118), (121, 122), (122, 123), (123, 124), (124, 125), (125, 126), (126, 127), (127, 128)]
theorem aX12_plant_b40 {σ : Shp} {R : Nat → Nat → Option Nat} {I : Nat → Nat → Int32} {x1 : Int32} {x2 : Int32} {x3 : Int32} {x4 : Int32} {x5 : Int32} {x6 : Int32} : Ok (gX12_plant_b40 σ R I x1 x2 x3 x4 x5 x6) (fun r => Ag WX12_plant_b40 I r.1) := by
  unfold gX12_plant_b40
  refine Ok_t ?_
  intro r1
  refine Ok_i (fun g_1 => ?_) (fun _ => ?_)
  · refine Ok_i (fun g_2 => ?_) (fun _ => ?_)
    · refine Ok_g (fun g_3 => ?_)
      refine Ok_t ?_
      intro r30
      refine Ok_i (fun g_4 => ?_) (fun _ => ?_)
      · refine Ok_b (aX12_no) ?_
        intro rr hr
        obtain ⟨I32, r33⟩ := rr
        have h_5 := hr
        have m_6 : Ag WX12_plant_b40 I I32 := Ag.tr Ag.rf (Ag.mo rfl h_5)
        exact Ok_s m_6
      · refine Ok_g (fun g_7 => ?_)
        refine Ok_t ?_
        intro r36
        refine Ok_i (fun g_8 => ?_) (fun _ => ?_)
        · refine Ok_b (aX12_no) ?_
          intro rr hr
          obtain ⟨I42, r43⟩ := rr
          have h_9 := hr
          have m_10 : Ag WX12_plant_b40 I I42 := Ag.tr Ag.rf (Ag.mo rfl h_9)
          exact Ok_s m_10
        · refine Ok_g (fun g_11 => ?_)
          refine Ok_g (fun g_12 => ?_)
          refine Ok_i (fun g_13 => ?_) (fun _ => ?_)
          · refine Ok_i (fun g_14 => ?_) (fun _ => ?_)
            · exact Ok_m (aX12_plant_b163) (fun _ hr => (Ag.tr Ag.rf (Ag.mo rfl hr)))
            · exact Ok_s Ag.rf
          · refine Ok_i (fun g_15 => ?_) (fun _ => ?_)
            · exact Ok_m (aX12_plant_b163) (fun _ hr => (Ag.tr Ag.rf (Ag.mo rfl hr)))
            · exact Ok_s Ag.rf
    · exact Ok_m (aX12_plant_b163) (fun _ hr => (Ag.tr Ag.rf (Ag.mo rfl hr)))
  · exact Ok_s Ag.rf
def WX12_plant : List (Nat × Nat) := [(114, 115), (115, 116), (116, 117), (117, 118), (121, 122), (122, 123), (123, 124), (124, 125), (125, 126), (126, 127), (127, 128)]
theorem aX12_plant {σ : Shp} {I : Nat → Nat → Int32} {R : Nat → Nat → Option Nat} {x1 : Int32} {x2 : Int32} {x3 : Int32} {x4 : Int32} {x5 : Int32} {x6 : Int32} : Ok (gX12_plant σ I R x1 x2 x3 x4 x5 x6) (fun r => Ag WX12_plant I r.1) := by
  unfold gX12_plant
  refine Ok_i (fun g_1 => ?_) (fun _ => ?_)
  · exact Ok_s Ag.rf
  · refine Ok_i (fun g_2 => ?_) (fun _ => ?_)
    · exact Ok_s Ag.rf
    · refine Ok_i (fun g_3 => ?_) (fun _ => ?_)
      · refine Ok_i (fun g_4 => ?_) (fun _ => ?_)
        · exact Ok_s Ag.rf
        · refine Ok_i (fun g_5 => ?_) (fun _ => ?_)
          · exact Ok_s Ag.rf
          · exact Ok_m (aX12_plant_b40) (fun _ hr => (Ag.tr Ag.rf (Ag.mo rfl hr)))
      · exact Ok_m (aX12_plant_b40) (fun _ hr => (Ag.tr Ag.rf (Ag.mo rfl hr)))
def WX12_body : List (Nat × Nat) := [(114, 115), (129, 130)]
theorem aX12_body {I : Nat → Nat → Int32} {x1 : Int32} : Ok (gX12_body I x1) (fun r => Ag WX12_body I r) := by
  unfold gX12_body
  refine Ok_g (fun g_1 => ?_)
  have m_2 := Ag.st (k := (Int32.toNatClampNeg (I 114 24))) (v := x1) Ag.rf (show inW WX12_body 129 = true from rfl)
  have m_3 := Ag.st (k := 24) (v := ((I2 114 24) + (1 : Int32))) m_2 (show inW WX12_body 114 = true from rfl)
  exact Ok_s m_3
def WX12_plainSize_b62 : List (Nat × Nat) := []
theorem aX12_plainSize_b62 {σ : Shp} {R : Nat → Nat → Option Nat} {I : Nat → Nat → Int32} {x1 : Int32} : Ok (gX12_plainSize_b62 σ R I x1) (fun r => Ag WX12_plainSize_b62 I r.1) := by
  unfold gX12_plainSize_b62
  refine Ok_g (fun g_1 => ?_)
  refine Ok_i (fun g_2 => ?_) (fun _ => ?_)
  · refine Ok_g (fun g_3 => ?_)
    refine Ok_g (fun g_4 => ?_)
    exact Ok_s Ag.rf
  · refine Ok_i (fun g_5 => ?_) (fun _ => ?_)
    · refine Ok_g (fun g_6 => ?_)
      refine Ok_g (fun g_7 => ?_)
      refine Ok_g (fun g_8 => ?_)
      exact Ok_s Ag.rf
    · refine Ok_g (fun g_9 => ?_)
      exact Ok_s Ag.rf
def WX12_plainSize_b30 : List (Nat × Nat) := [(114, 115), (129, 130)]
theorem aX12_plainSize_b30 {σ : Shp} {R : Nat → Nat → Option Nat} {I : Nat → Nat → Int32} {x1 : Int32} : Ok (gX12_plainSize_b30 σ R I x1) (fun r => Ag WX12_plainSize_b30 I r.1) := by
  unfold gX12_plainSize_b30
  refine Ok_b (aX12_body) ?_
  intro I2 hr
  have h_1 := hr
  have m_2 : Ag WX12_plainSize_b30 I I2 := Ag.tr Ag.rf (Ag.mo rfl h_1)
  refine Ok_g (fun g_3 => ?_)
  refine Ok_i (fun g_4 => ?_) (fun _ => ?_)
  · refine Ok_g (fun g_5 => ?_)
    refine Ok_i (fun g_6 => ?_) (fun _ => ?_)
    · have m_7 := Ag.st (k := 30) (v := (6 : Int32)) m_2 (show inW WX12_plainSize_b30 114 = true from rfl)
      exact Ok_s m_7
    · exact Ok_m (aX12_plainSize_b62) (fun _ hr => (Ag.tr m_2 (Ag.mo rfl hr)))
  · exact Ok_m (aX12_plainSize_b62) (fun _ hr => (Ag.tr m_2 (Ag.mo rfl hr)))
def WX12_plainSize : List (Nat × Nat) := [(114, 115), (129, 130)]
theorem aX12_plainSize {σ : Shp} {I : Nat → Nat → Int32} {R : Nat → Nat → Option Nat} {x1 : Int32} : Ok (gX12_plainSize σ I R x1) (fun r => Ag WX12_plainSize I r.1) := by
  unfold gX12_plainSize
  refine Ok_g (fun g_1 => ?_)
  refine Ok_i (fun g_2 => ?_) (fun _ => ?_)
  · refine Ok_b (aX12_body) ?_
    intro I16 hr
    have h_3 := hr
    have m_4 : Ag WX12_plainSize I I16 := Ag.tr Ag.rf (Ag.mo rfl h_3)
    refine Ok_i (fun g_5 => ?_) (fun _ => ?_)
    · refine Ok_b (aX12_body) ?_
      intro I18 hr
      have h_6 := hr
      have m_7 : Ag WX12_plainSize I I18 := Ag.tr m_4 (Ag.mo rfl h_6)
      exact Ok_m (aX12_plainSize_b30) (fun _ hr => (Ag.tr m_7 (Ag.mo rfl hr)))
    · exact Ok_m (aX12_plainSize_b30) (fun _ hr => (Ag.tr m_4 (Ag.mo rfl hr)))
  · refine Ok_i (fun g_8 => ?_) (fun _ => ?_)
    · refine Ok_b (aX12_body) ?_
      intro I14 hr
      have h_9 := hr
      have m_10 : Ag WX12_plainSize I I14 := Ag.tr Ag.rf (Ag.mo rfl h_9)
      exact Ok_m (aX12_plainSize_b30) (fun _ hr => (Ag.tr m_10 (Ag.mo rfl hr)))
    · exact Ok_m (aX12_plainSize_b30) (fun _ hr => (Ag.tr Ag.rf (Ag.mo rfl hr)))
def WX12_sizeOf_b193 : List (Nat × Nat) := [(114, 115), (129, 130), (130, 131), (131, 132), (132, 133)]
theorem aX12_sizeOf_b193 {q18 : (Nat → Nat → Int32) → (Int32) → (Int32) → (Option ((Nat → Nat → Int32) × (Int32)))} {σ : Shp} {R : Nat → Nat → Option Nat} {I : Nat → Nat → Int32} {x2 : Int32} {x3 : Int32} {s0 : Int32} (hq18 : ∀ (I : Nat → Nat → Int32) (x2 : Int32) (x3 : Int32), Ok (q18 I x2 x3) (fun r => Ag WX12_sizeOf_l18 I r.1)) : Ok (gX12_sizeOf_b193 q18 σ R I x2 x3 s0) (fun r => Ag WX12_sizeOf_b193 I r.1) := by
  unfold gX12_sizeOf_b193
  refine Ok_i (fun g_1 => ?_) (fun _ => ?_)
  · have m_2 := Ag.st (k := 30) (v := (1 : Int32)) Ag.rf (show inW WX12_sizeOf_b193 114 = true from rfl)
    exact Ok_m (hq18 _ _ _) (fun _ hr => (Ag.tr m_2 (Ag.mo rfl hr)))
  · refine Ok_g (fun g_3 => ?_)
    have m_4 := Ag.st (k := (Int32.toNatClampNeg x2)) (v := s0) Ag.rf (show inW WX12_sizeOf_b193 130 = true from rfl)
    refine Ok_g (fun g_5 => ?_)
    have m_6 := Ag.st (k := (Int32.toNatClampNeg x2)) (v := (0 : Int32)) m_4 (show inW WX12_sizeOf_b193 131 = true from rfl)
    exact Ok_m (hq18 _ _ _) (fun _ hr => (Ag.tr m_6 (Ag.mo rfl hr)))
def WX12_sizeOf_b109 : List (Nat × Nat) := [(114, 115), (129, 130), (130, 131), (131, 132), (132, 133)]
theorem aX12_sizeOf_b109 {q18 : (Nat → Nat → Int32) → (Int32) → (Int32) → (Option ((Nat → Nat → Int32) × (Int32)))} {σ : Shp} {R : Nat → Nat → Option Nat} {I : Nat → Nat → Int32} {x2 : Int32} {x3 : Int32} {x4 : Int32} {x5 : Int32} {s0 : Option Nat} {s1 : Int32} {s2 : Int32} (hq18 : ∀ (I : Nat → Nat → Int32) (x2 : Int32) (x3 : Int32), Ok (q18 I x2 x3) (fun r => Ag WX12_sizeOf_l18 I r.1)) (hs_s0 : Cin [(132, 133)] s0) : Ok (gX12_sizeOf_b109 q18 σ R I x2 x3 x4 x5 s0 s1 s2) (fun r => Ag WX12_sizeOf_b109 I r.1) := by
  unfold gX12_sizeOf_b109
  refine Ok_bc (fun a11 e_1 => ?_)
  refine Ok_g (fun g_2 => ?_)
  refine Ok_g (fun g_3 => ?_)
  have m_4 := Ag.st (k := (Int32.toNatClampNeg s1)) (v := s2) Ag.rf (inW_mo (L := [(132, 133)]) (M := WX12_sizeOf_b109) rfl (Cin.get hs_s0 e_1))
  refine Ok_g (fun g_5 => ?_)
  have m_6 := Ag.st (k := (Int32.toNatClampNeg (x2 - (1 : Int32)))) (v := ((I14 131 (Int32.toNatClampNeg (x2 - (1 : Int32)))) + (1 : Int32))) m_4 (show inW WX12_sizeOf_b109 131 = true from rfl)
  refine Ok_i (fun g_7 => ?_) (fun _ => ?_)
  · refine Ok_b (aX12_body) ?_
    intro I25 hr
    have h_8 := hr
    have m_9 : Ag WX12_sizeOf_b109 I I25 := Ag.tr m_6 (Ag.mo rfl h_8)
    refine Ok_b (aX12_body) ?_
    intro I27 hr
    have h_10 := hr
    have m_11 : Ag WX12_sizeOf_b109 I I27 := Ag.tr m_9 (Ag.mo rfl h_10)
    refine Ok_g (fun g_12 => ?_)
    refine Ok_g (fun g_13 => ?_)
    refine Ok_g (fun g_14 => ?_)
    exact Ok_m (hq18 _ _ _) (fun _ hr => (Ag.tr m_11 (Ag.mo rfl hr)))
  · refine Ok_i (fun g_15 => ?_) (fun _ => ?_)
    · refine Ok_g (fun g_16 => ?_)
      exact Ok_m (aX12_sizeOf_b193 hq18) (fun _ hr => (Ag.tr m_6 (Ag.mo rfl hr)))
    · refine Ok_g (fun g_17 => ?_)
      exact Ok_m (aX12_sizeOf_b193 hq18) (fun _ hr => (Ag.tr m_6 (Ag.mo rfl hr)))
def WX12_sizeOf_b83 : List (Nat × Nat) := [(114, 115), (129, 130), (130, 131), (131, 132), (132, 133)]
theorem aX12_sizeOf_b83 {q18 : (Nat → Nat → Int32) → (Int32) → (Int32) → (Option ((Nat → Nat → Int32) × (Int32)))} {σ : Shp} {R : Nat → Nat → Option Nat} {I : Nat → Nat → Int32} {x2 : Int32} {x3 : Int32} {x4 : Int32} {x5 : Int32} (hq18 : ∀ (I : Nat → Nat → Int32) (x2 : Int32) (x3 : Int32), Ok (q18 I x2 x3) (fun r => Ag WX12_sizeOf_l18 I r.1)) : Ok (gX12_sizeOf_b83 q18 σ R I x2 x3 x4 x5) (fun r => Ag WX12_sizeOf_b83 I r.1) := by
  unfold gX12_sizeOf_b83
  refine Ok_i (fun g_1 => ?_) (fun _ => ?_)
  · exact Ok_m (aX12_sizeOf_b109 hq18 ⟨_, rfl, (show inW [(132, 133)] 132 = true from rfl)⟩) (fun _ hr => (Ag.tr Ag.rf (Ag.mo rfl hr)))
  · refine Ok_g (fun g_2 => ?_)
    exact Ok_m (aX12_sizeOf_b109 hq18 ⟨_, rfl, (show inW [(132, 133)] 132 = true from rfl)⟩) (fun _ hr => (Ag.tr Ag.rf (Ag.mo rfl hr)))
def WX12_sizeOf_l18 : List (Nat × Nat) := [(114, 115), (129, 130), (130, 131), (131, 132), (132, 133)]
theorem aX12_sizeOf_l18 {σ : Shp} {R : Nat → Nat → Option Nat} : ∀ (n : Nat) (I : Nat → Nat → Int32) (x2 : Int32) (x3 : Int32), Ok (gX12_sizeOf_l18 σ R n I x2 x3) (fun r => Ag WX12_sizeOf_l18 I r.1) := by
  intro n
  induction n with
  | zero => intro I x2 x3; exact Ok_e rfl
  | succ n ih =>
    intro I x2 x3
    rw [gX12_sizeOf_l18]
    refine Ok_i (fun g_1 => ?_) (fun _ => ?_)
    · exact Ok_s Ag.rf
    · refine Ok_i (fun g_2 => ?_) (fun _ => ?_)
      · refine Ok_g (fun g_3 => ?_)
        refine Ok_g (fun g_4 => ?_)
        refine Ok_i (fun g_5 => ?_) (fun _ => ?_)
        · refine Ok_g (fun g_6 => ?_)
          refine Ok_i (fun g_7 => ?_) (fun _ => ?_)
          · refine Ok_b (aX12_body) ?_
            intro I34 hr
            have h_8 := hr
            have m_9 : Ag WX12_sizeOf_l18 I I34 := Ag.tr Ag.rf (Ag.mo rfl h_8)
            exact Ok_m (aX12_sizeOf_b83 ih) (fun _ hr => (Ag.tr m_9 (Ag.mo rfl hr)))
          · exact Ok_m (aX12_sizeOf_b83 ih) (fun _ hr => (Ag.tr Ag.rf (Ag.mo rfl hr)))
        · refine Ok_b (aX12_plainSize) ?_
          intro rr hr
          obtain ⟨I36, r37⟩ := rr
          have h_10 := hr
          have m_11 : Ag WX12_sizeOf_l18 I I36 := Ag.tr Ag.rf (Ag.mo rfl h_10)
          exact Ok_m (ih _ _ _) (fun _ hr => (Ag.tr m_11 (Ag.mo rfl hr)))
      · exact Ok_s Ag.rf
def WX12_sizeOf : List (Nat × Nat) := [(114, 115), (129, 130), (130, 131), (131, 132), (132, 133)]
theorem aX12_sizeOf {σ : Shp} {I : Nat → Nat → Int32} {R : Nat → Nat → Option Nat} {x1 : Int32} : Ok (gX12_sizeOf σ I R x1) (fun r => Ag WX12_sizeOf I r.1) := by
  unfold gX12_sizeOf
  refine Ok_g (fun g_1 => ?_)
  have m_2 := Ag.st (k := (Int32.toNatClampNeg (0 : Int32))) (v := x1) Ag.rf (show inW WX12_sizeOf 130 = true from rfl)
  refine Ok_g (fun g_3 => ?_)
  have m_4 := Ag.st (k := (Int32.toNatClampNeg (0 : Int32))) (v := (0 : Int32)) m_2 (show inW WX12_sizeOf 131 = true from rfl)
  exact Ok_m (aX12_sizeOf_l18  _ _ _ _) (fun _ hr => (Ag.tr m_4 (Ag.mo rfl hr)))
def WX12_thirstOf_b36 : List (Nat × Nat) := [(114, 115), (129, 130), (130, 131), (131, 132), (132, 133)]
theorem aX12_thirstOf_b36 {σ : Shp} {R : Nat → Nat → Option Nat} {I : Nat → Nat → Int32} {x1 : Int32} {x2 : Int32} : Ok (gX12_thirstOf_b36 σ R I x1 x2) (fun r => Ag WX12_thirstOf_b36 I r.1) := by
  unfold gX12_thirstOf_b36
  refine Ok_b (aX12_body) ?_
  intro I3 hr
  have h_1 := hr
  have m_2 : Ag WX12_thirstOf_b36 I I3 := Ag.tr Ag.rf (Ag.mo rfl h_1)
  refine Ok_b (aX12_sizeOf) ?_
  intro rr hr
  obtain ⟨I5, r6⟩ := rr
  have h_3 := hr
  have m_4 : Ag WX12_thirstOf_b36 I I5 := Ag.tr m_2 (Ag.mo rfl h_3)
  refine Ok_i (fun g_5 => ?_) (fun _ => ?_)
  · exact Ok_s m_4
  · exact Ok_s m_4
def WX12_thirstOf : List (Nat × Nat) := [(114, 115), (129, 130), (130, 131), (131, 132), (132, 133)]
theorem aX12_thirstOf {σ : Shp} {I : Nat → Nat → Int32} {R : Nat → Nat → Option Nat} {x1 : Int32} : Ok (gX12_thirstOf σ I R x1) (fun r => Ag WX12_thirstOf I r.1) := by
  unfold gX12_thirstOf
  refine Ok_g (fun g_1 => ?_)
  refine Ok_i (fun g_2 => ?_) (fun _ => ?_)
  · refine Ok_b (aX12_body) ?_
    intro I11 hr
    have h_3 := hr
    have m_4 : Ag WX12_thirstOf I I11 := Ag.tr Ag.rf (Ag.mo rfl h_3)
    refine Ok_g (fun g_5 => ?_)
    exact Ok_s m_4
  · refine Ok_i (fun g_6 => ?_) (fun _ => ?_)
    · exact Ok_m (aX12_thirstOf_b36) (fun _ hr => (Ag.tr Ag.rf (Ag.mo rfl hr)))
    · refine Ok_b (aX12_body) ?_
      intro I9 hr
      have h_7 := hr
      have m_8 : Ag WX12_thirstOf I I9 := Ag.tr Ag.rf (Ag.mo rfl h_7)
      exact Ok_m (aX12_thirstOf_b36) (fun _ hr => (Ag.tr m_8 (Ag.mo rfl hr)))
def WX12_costOf_b16 : List (Nat × Nat) := [(114, 115), (129, 130), (130, 131), (131, 132), (132, 133)]
theorem aX12_costOf_b16 {σ : Shp} {R : Nat → Nat → Option Nat} {I : Nat → Nat → Int32} {x1 : Int32} : Ok (gX12_costOf_b16 σ R I x1) (fun r => Ag WX12_costOf_b16 I r.1) := by
  unfold gX12_costOf_b16
  refine Ok_b (aX12_body) ?_
  intro I2 hr
  have h_1 := hr
  have m_2 : Ag WX12_costOf_b16 I I2 := Ag.tr Ag.rf (Ag.mo rfl h_1)
  refine Ok_g (fun g_3 => ?_)
  refine Ok_i (fun g_4 => ?_) (fun _ => ?_)
  · have m_5 := Ag.st (k := 30) (v := (6 : Int32)) m_2 (show inW WX12_costOf_b16 114 = true from rfl)
    exact Ok_s m_5
  · refine Ok_g (fun g_6 => ?_)
    refine Ok_g (fun g_7 => ?_)
    refine Ok_i (fun g_8 => ?_) (fun _ => ?_)
    · refine Ok_b (aX12_thirstOf) ?_
      intro rr hr
      obtain ⟨I8, r9⟩ := rr
      have h_9 := hr
      have m_10 : Ag WX12_costOf_b16 I I8 := Ag.tr m_2 (Ag.mo rfl h_9)
      exact Ok_s m_10
    · exact Ok_s m_2
def WX12_costOf : List (Nat × Nat) := [(114, 115), (129, 130), (130, 131), (131, 132), (132, 133)]
theorem aX12_costOf {σ : Shp} {I : Nat → Nat → Int32} {R : Nat → Nat → Option Nat} {x1 : Int32} : Ok (gX12_costOf σ I R x1) (fun r => Ag WX12_costOf I r.1) := by
  unfold gX12_costOf
  refine Ok_g (fun g_1 => ?_)
  refine Ok_i (fun g_2 => ?_) (fun _ => ?_)
  · refine Ok_b (aX12_body) ?_
    intro I12 hr
    have h_3 := hr
    have m_4 : Ag WX12_costOf I I12 := Ag.tr Ag.rf (Ag.mo rfl h_3)
    exact Ok_m (aX12_costOf_b16) (fun _ hr => (Ag.tr m_4 (Ag.mo rfl hr)))
  · exact Ok_m (aX12_costOf_b16) (fun _ hr => (Ag.tr Ag.rf (Ag.mo rfl hr)))
def WX12_askOf_b153 : List (Nat × Nat) := [(114, 115), (129, 130)]
theorem aX12_askOf_b153 {σ : Shp} {R : Nat → Nat → Option Nat} {I : Nat → Nat → Int32} {x1 : Int32} {x3 : Int32} {s0 : Option Nat} {s1 : Int32} (hs_s0 : Cin [(114, 115)] s0) (hS : Skel σ R) : Ok (gX12_askOf_b153 σ R I x1 x3 s0 s1) (fun r => Ag WX12_askOf_b153 I r.1) := by
  unfold gX12_askOf_b153
  refine Ok_bc (fun a21 e_1 => ?_)
  refine Ok_g (fun g_2 => ?_)
  have ea := hs_s0.get1 e_1
  rw [ea, eX12_body hS]
  refine Ok_b aX12_body ?_
  intro I23 hr
  have h_3 := hr
  have m_4 : Ag WX12_askOf_b153 I I23 := Ag.tr Ag.rf (Ag.mo rfl h_3)
  refine Ok_i (fun g_5 => ?_) (fun _ => ?_)
  · refine Ok_g (fun g_6 => ?_)
    have m_7 := Ag.st (k := 29) (v := ((9 : Int32) + (I23 124 (Int32.toNatClampNeg x1)))) m_4 (show inW WX12_askOf_b153 114 = true from rfl)
    exact Ok_s m_7
  · have m_8 := Ag.st (k := 29) (v := (7 : Int32)) m_4 (show inW WX12_askOf_b153 114 = true from rfl)
    exact Ok_s m_8
def WX12_askOf_b61 : List (Nat × Nat) := [(114, 115), (129, 130), (130, 131), (131, 132), (132, 133)]
theorem aX12_askOf_b61 {σ : Shp} {R : Nat → Nat → Option Nat} {I : Nat → Nat → Int32} {x1 : Int32} {x2 : Int32} {x3 : Int32} (hS : Skel σ R) : Ok (gX12_askOf_b61 σ R I x1 x2 x3) (fun r => Ag WX12_askOf_b61 I r.1) := by
  unfold gX12_askOf_b61
  refine Ok_i (fun g_1 => ?_) (fun _ => ?_)
  · refine Ok_b (aX12_sizeOf) ?_
    intro rr hr
    obtain ⟨I36, r37⟩ := rr
    have h_2 := hr
    have m_3 : Ag WX12_askOf_b61 I I36 := Ag.tr Ag.rf (Ag.mo rfl h_2)
    have m_4 := Ag.st (k := 29) (v := r37) m_3 (show inW WX12_askOf_b61 114 = true from rfl)
    exact Ok_s m_4
  · refine Ok_i (fun g_5 => ?_) (fun _ => ?_)
    · refine Ok_b (aX12_thirstOf) ?_
      intro rr hr
      obtain ⟨I32, r33⟩ := rr
      have h_6 := hr
      have m_7 : Ag WX12_askOf_b61 I I32 := Ag.tr Ag.rf (Ag.mo rfl h_6)
      have m_8 := Ag.st (k := 29) (v := r33) m_7 (show inW WX12_askOf_b61 114 = true from rfl)
      exact Ok_s m_8
    · refine Ok_i (fun g_9 => ?_) (fun _ => ?_)
      · refine Ok_b (aX12_costOf) ?_
        intro rr hr
        obtain ⟨I28, r29⟩ := rr
        have h_10 := hr
        have m_11 : Ag WX12_askOf_b61 I I28 := Ag.tr Ag.rf (Ag.mo rfl h_10)
        have m_12 := Ag.st (k := 29) (v := r29) m_11 (show inW WX12_askOf_b61 114 = true from rfl)
        exact Ok_s m_12
      · refine Ok_i (fun g_13 => ?_) (fun _ => ?_)
        · refine Ok_i (fun g_14 => ?_) (fun _ => ?_)
          · exact Ok_m (aX12_askOf_b153 ⟨_, rfl, (show inW [(114, 115)] 114 = true from rfl)⟩ hS) (fun _ hr => (Ag.tr Ag.rf (Ag.mo rfl hr)))
          · exact Ok_m (aX12_askOf_b153 ⟨_, rfl, (show inW [(114, 115)] 114 = true from rfl)⟩ hS) (fun _ hr => (Ag.tr Ag.rf (Ag.mo rfl hr)))
        · refine Ok_i (fun g_15 => ?_) (fun _ => ?_)
          · refine Ok_i (fun g_16 => ?_) (fun _ => ?_)
            · have m_17 := Ag.st (k := 29) (v := (9 : Int32)) Ag.rf (show inW WX12_askOf_b61 114 = true from rfl)
              exact Ok_s m_17
            · have m_18 := Ag.st (k := 29) (v := (7 : Int32)) Ag.rf (show inW WX12_askOf_b61 114 = true from rfl)
              exact Ok_s m_18
          · refine Ok_i (fun g_19 => ?_) (fun _ => ?_)
            · refine Ok_g (fun g_20 => ?_)
              have m_21 := Ag.st (k := 29) (v := (I 121 (Int32.toNatClampNeg x1))) Ag.rf (show inW WX12_askOf_b61 114 = true from rfl)
              exact Ok_s m_21
            · refine Ok_i (fun g_22 => ?_) (fun _ => ?_)
              · have m_23 := Ag.st (k := 29) (v := x3) Ag.rf (show inW WX12_askOf_b61 114 = true from rfl)
                exact Ok_s m_23
              · refine Ok_g (fun g_24 => ?_)
                have m_25 := Ag.st (k := 29) (v := (I 127 (Int32.toNatClampNeg x1))) Ag.rf (show inW WX12_askOf_b61 114 = true from rfl)
                exact Ok_s m_25
def WX12_askOf : List (Nat × Nat) := [(114, 115), (129, 130), (130, 131), (131, 132), (132, 133)]
theorem aX12_askOf {σ : Shp} {I : Nat → Nat → Int32} {R : Nat → Nat → Option Nat} {x1 : Int32} {x2 : Int32} (hS : Skel σ R) : Ok (gX12_askOf σ I R x1 x2) (fun r => Ag WX12_askOf I r.1) := by
  unfold gX12_askOf
  have m_1 := Ag.st (k := 24) (v := (0 : Int32)) Ag.rf (show inW WX12_askOf 114 = true from rfl)
  have m_2 := Ag.st (k := 30) (v := (0 : Int32)) m_1 (show inW WX12_askOf 114 = true from rfl)
  refine Ok_t ?_
  intro r3
  refine Ok_i (fun g_3 => ?_) (fun _ => ?_)
  · exact Ok_s m_2
  · refine Ok_i (fun g_4 => ?_) (fun _ => ?_)
    · exact Ok_s m_2
    · refine Ok_g (fun g_5 => ?_)
      refine Ok_i (fun g_6 => ?_) (fun _ => ?_)
      · refine Ok_i (fun g_7 => ?_) (fun _ => ?_)
        · exact Ok_s m_2
        · refine Ok_i (fun g_8 => ?_) (fun _ => ?_)
          · exact Ok_s m_2
          · refine Ok_i (fun g_9 => ?_) (fun _ => ?_)
            · refine Ok_i (fun g_10 => ?_) (fun _ => ?_)
              · exact Ok_s m_2
              · exact Ok_m (aX12_askOf_b61 hS) (fun _ hr => (Ag.tr m_2 (Ag.mo rfl hr)))
            · exact Ok_m (aX12_askOf_b61 hS) (fun _ hr => (Ag.tr m_2 (Ag.mo rfl hr)))
      · refine Ok_i (fun g_11 => ?_) (fun _ => ?_)
        · refine Ok_i (fun g_12 => ?_) (fun _ => ?_)
          · exact Ok_s m_2
          · exact Ok_m (aX12_askOf_b61 hS) (fun _ hr => (Ag.tr m_2 (Ag.mo rfl hr)))
        · exact Ok_m (aX12_askOf_b61 hS) (fun _ hr => (Ag.tr m_2 (Ag.mo rfl hr)))
def WX12_ask : List (Nat × Nat) := [(114, 115), (129, 130), (130, 131), (131, 132), (132, 133)]
theorem aX12_ask {σ : Shp} {I : Nat → Nat → Int32} {R : Nat → Nat → Option Nat} {x1 : Int32} {x2 : Int32} (hS : Skel σ R) : Ok (gX12_ask σ I R x1 x2) (fun r => Ag WX12_ask I r.1) := by
  unfold gX12_ask
  refine Ok_i (fun g_1 => ?_) (fun _ => ?_)
  · exact Ok_s Ag.rf
  · refine Ok_i (fun g_2 => ?_) (fun _ => ?_)
    · exact Ok_s Ag.rf
    · refine Ok_g (fun g_3 => ?_)
      refine Ok_b (aX12_askOf hS) ?_
      intro rr hr
      obtain ⟨I2, r3⟩ := rr
      have h_4 := hr
      have m_5 : Ag WX12_ask I I2 := Ag.tr Ag.rf (Ag.mo rfl h_4)
      refine Ok_i (fun g_6 => ?_) (fun _ => ?_)
      · have m_7 := Ag.st (k := 25) (v := (I2 114 29)) m_5 (show inW WX12_ask 114 = true from rfl)
        exact Ok_s m_7
      · refine Ok_b (aX12_no) ?_
        intro rr hr
        obtain ⟨I6, r7⟩ := rr
        have h_8 := hr
        have m_9 : Ag WX12_ask I I6 := Ag.tr m_5 (Ag.mo rfl h_8)
        exact Ok_s m_9
def WX12_card : List (Nat × Nat) := [(114, 115), (115, 116), (116, 117), (117, 118), (118, 119), (121, 122)]
theorem aX12_card {I : Nat → Nat → Int32} {x1 : Int32} : Ok (gX12_card I x1) (fun r => Ag WX12_card I r.1) := by
  unfold gX12_card
  refine Ok_i (fun g_1 => ?_) (fun _ => ?_)
  · exact Ok_s Ag.rf
  · refine Ok_t ?_
    intro r1
    refine Ok_i (fun g_2 => ?_) (fun _ => ?_)
    · refine Ok_b (aX12_newCard) ?_
      intro rr hr
      obtain ⟨I3, r4⟩ := rr
      have h_3 := hr
      have m_4 : Ag WX12_card I I3 := Ag.tr Ag.rf (Ag.mo rfl h_3)
      refine Ok_g (fun g_5 => ?_)
      have m_6 := Ag.st (k := (Int32.toNatClampNeg x1)) (v := r4) m_4 (show inW WX12_card 115 = true from rfl)
      refine Ok_g (fun g_7 => ?_)
      exact Ok_s m_6
    · exact Ok_s Ag.rf
def WX12_field : List (Nat × Nat) := [(114, 115)]
theorem aX12_field {I : Nat → Nat → Int32} {J : Nat → Nat → Int64} {x1 : Int32} {x2 : Int32} : Ok (gX12_field I J x1 x2) (fun r => Ag WX12_field I r.1) := by
  unfold gX12_field
  refine Ok_i (fun g_1 => ?_) (fun _ => ?_)
  · exact Ok_s Ag.rf
  · refine Ok_i (fun g_2 => ?_) (fun _ => ?_)
    · exact Ok_s Ag.rf
    · refine Ok_g (fun g_3 => ?_)
      refine Ok_t ?_
      intro r2
      refine Ok_i (fun g_4 => ?_) (fun _ => ?_)
      · refine Ok_g (fun g_5 => ?_)
        refine Ok_g (fun g_6 => ?_)
        exact Ok_s Ag.rf
      · refine Ok_b (aX12_noBits) ?_
        intro rr hr
        obtain ⟨I6, r7⟩ := rr
        have h_7 := hr
        have m_8 : Ag WX12_field I I6 := Ag.tr Ag.rf (Ag.mo rfl h_7)
        exact Ok_s m_8
def WX12_setField : List (Nat × Nat) := [(114, 115), (119, 120)]
theorem aX12_setField {I : Nat → Nat → Int32} {J : Nat → Nat → Int64} {x1 : Int32} {x2 : Int32} {x3 : Int64} : Ok (gX12_setField I J x1 x2 x3) (fun r => Ag WX12_setField I r.1 ∧ Ag WX12_setField J r.2.1) := by
  unfold gX12_setField
  refine Ok_i (fun g_1 => ?_) (fun _ => ?_)
  · exact Ok_s ⟨Ag.rf, Ag.rf⟩
  · refine Ok_i (fun g_2 => ?_) (fun _ => ?_)
    · exact Ok_s ⟨Ag.rf, Ag.rf⟩
    · refine Ok_g (fun g_3 => ?_)
      refine Ok_t ?_
      intro r2
      refine Ok_i (fun g_4 => ?_) (fun _ => ?_)
      · refine Ok_g (fun g_5 => ?_)
        refine Ok_g (fun g_6 => ?_)
        have m_7 := Ag.st (k := (Int32.toNatClampNeg ((I 118 (Int32.toNatClampNeg (I 115 (Int32.toNatClampNeg x1)))) + x2))) (v := (fX12_fitted x2 x3)) Ag.rf (show inW WX12_setField 119 = true from rfl)
        exact Ok_s ⟨Ag.rf, m_7⟩
      · refine Ok_b (aX12_no) ?_
        intro rr hr
        obtain ⟨I7, r8⟩ := rr
        have h_8 := hr
        have m_9 : Ag WX12_setField I I7 := Ag.tr Ag.rf (Ag.mo rfl h_8)
        exact Ok_s ⟨m_9, Ag.rf⟩
def WX12_lead_b83 : List (Nat × Nat) := [(114, 115), (125, 126), (126, 127)]
theorem aX12_lead_b83 {σ : Shp} {R : Nat → Nat → Option Nat} {I : Nat → Nat → Int32} {x2 : Int32} {x3 : Int32} {x4 : Int32} {s0 : Int32} : Ok (gX12_lead_b83 σ R I x2 x3 x4 s0) (fun r => Ag WX12_lead_b83 I r.1) := by
  unfold gX12_lead_b83
  refine Ok_i (fun g_1 => ?_) (fun _ => ?_)
  · refine Ok_i (fun g_2 => ?_) (fun _ => ?_)
    · refine Ok_g (fun g_3 => ?_)
      refine Ok_g (fun g_4 => ?_)
      have m_5 := Ag.st (k := (Int32.toNatClampNeg x4)) (v := ((Int32.toInt16 ((Int32.toInt16 (I 115 (Int32.toNatClampNeg x3))).toInt32)).toInt32)) Ag.rf (show inW WX12_lead_b83 125 = true from rfl)
      exact Ok_s m_5
    · refine Ok_g (fun g_6 => ?_)
      refine Ok_g (fun g_7 => ?_)
      have m_8 := Ag.st (k := (Int32.toNatClampNeg x4)) (v := ((Int32.toInt16 ((Int32.toInt16 (I 115 (Int32.toNatClampNeg x3))).toInt32)).toInt32)) Ag.rf (show inW WX12_lead_b83 126 = true from rfl)
      exact Ok_s m_8
  · refine Ok_b (aX12_no) ?_
    intro rr hr
    obtain ⟨I11, r12⟩ := rr
    have h_9 := hr
    have m_10 : Ag WX12_lead_b83 I I11 := Ag.tr Ag.rf (Ag.mo rfl h_9)
    exact Ok_s m_10
def WX12_lead : List (Nat × Nat) := [(114, 115), (125, 126), (126, 127)]
theorem aX12_lead {σ : Shp} {I : Nat → Nat → Int32} {R : Nat → Nat → Option Nat} {x1 : Int32} {x2 : Int32} {x3 : Int32} : Ok (gX12_lead σ I R x1 x2 x3) (fun r => Ag WX12_lead I r.1) := by
  unfold gX12_lead
  refine Ok_i (fun g_1 => ?_) (fun _ => ?_)
  · exact Ok_s Ag.rf
  · refine Ok_i (fun g_2 => ?_) (fun _ => ?_)
    · exact Ok_s Ag.rf
    · refine Ok_i (fun g_3 => ?_) (fun _ => ?_)
      · exact Ok_s Ag.rf
      · refine Ok_g (fun g_4 => ?_)
        refine Ok_t ?_
        intro r3
        refine Ok_i (fun g_5 => ?_) (fun _ => ?_)
        · exact Ok_m (aX12_lead_b83) (fun _ hr => (Ag.tr Ag.rf (Ag.mo rfl hr)))
        · refine Ok_g (fun g_6 => ?_)
          refine Ok_i (fun g_7 => ?_) (fun _ => ?_)
          · refine Ok_t ?_
            intro r17
            refine Ok_i (fun g_8 => ?_) (fun _ => ?_)
            · exact Ok_m (aX12_lead_b83) (fun _ hr => (Ag.tr Ag.rf (Ag.mo rfl hr)))
            · refine Ok_i (fun g_9 => ?_) (fun _ => ?_)
              · exact Ok_m (aX12_lead_b83) (fun _ hr => (Ag.tr Ag.rf (Ag.mo rfl hr)))
              · exact Ok_m (aX12_lead_b83) (fun _ hr => (Ag.tr Ag.rf (Ag.mo rfl hr)))
          · refine Ok_t ?_
            intro r15
            refine Ok_i (fun g_10 => ?_) (fun _ => ?_)
            · exact Ok_m (aX12_lead_b83) (fun _ hr => (Ag.tr Ag.rf (Ag.mo rfl hr)))
            · refine Ok_i (fun g_11 => ?_) (fun _ => ?_)
              · exact Ok_m (aX12_lead_b83) (fun _ hr => (Ag.tr Ag.rf (Ag.mo rfl hr)))
              · exact Ok_m (aX12_lead_b83) (fun _ hr => (Ag.tr Ag.rf (Ag.mo rfl hr)))
def WX12_follow : List (Nat × Nat) := [(114, 115), (115, 116)]
theorem aX12_follow {I : Nat → Nat → Int32} {x1 : Int32} {x2 : Int32} {x3 : Int32} : Ok (gX12_follow I x1 x2 x3) (fun r => Ag WX12_follow I r.1) := by
  unfold gX12_follow
  refine Ok_i (fun g_1 => ?_) (fun _ => ?_)
  · exact Ok_s Ag.rf
  · refine Ok_i (fun g_2 => ?_) (fun _ => ?_)
    · exact Ok_s Ag.rf
    · refine Ok_i (fun g_3 => ?_) (fun _ => ?_)
      · exact Ok_s Ag.rf
      · refine Ok_g (fun g_4 => ?_)
        refine Ok_t ?_
        intro r3
        refine Ok_i (fun g_5 => ?_) (fun _ => ?_)
        · refine Ok_i (fun g_6 => ?_) (fun _ => ?_)
          · refine Ok_g (fun g_7 => ?_)
            refine Ok_g (fun g_8 => ?_)
            have m_9 := Ag.st (k := (Int32.toNatClampNeg x1)) (v := (I 125 (Int32.toNatClampNeg v2))) Ag.rf (show inW WX12_follow 115 = true from rfl)
            exact Ok_s m_9
          · refine Ok_g (fun g_10 => ?_)
            refine Ok_g (fun g_11 => ?_)
            have m_12 := Ag.st (k := (Int32.toNatClampNeg x1)) (v := (I 126 (Int32.toNatClampNeg v2))) Ag.rf (show inW WX12_follow 115 = true from rfl)
            exact Ok_s m_12
        · refine Ok_b (aX12_no) ?_
          intro rr hr
          obtain ⟨I11, r12⟩ := rr
          have h_13 := hr
          have m_14 : Ag WX12_follow I I11 := Ag.tr Ag.rf (Ag.mo rfl h_13)
          exact Ok_s m_14
def WX12_led_b113 : List (Nat × Nat) := []
theorem aX12_led_b113 {σ : Shp} {R : Nat → Nat → Option Nat} {I : Nat → Nat → Int32} {x2 : Int32} {x4 : Int32} {x5 : Int32} {x6 : Int32} : Ok (gX12_led_b113 σ R I x2 x4 x5 x6) (fun r => Ag WX12_led_b113 I r.1) := by
  unfold gX12_led_b113
  refine Ok_i (fun g_1 => ?_) (fun _ => ?_)
  · exact Ok_s Ag.rf
  · refine Ok_i (fun g_2 => ?_) (fun _ => ?_)
    · refine Ok_i (fun g_3 => ?_) (fun _ => ?_)
      · exact Ok_s Ag.rf
      · refine Ok_g (fun g_4 => ?_)
        exact Ok_s Ag.rf
    · refine Ok_g (fun g_5 => ?_)
      exact Ok_s Ag.rf
def WX12_led_l64 : List (Nat × Nat) := [(133, 134)]
theorem aX12_led_l64 {σ : Shp} {R : Nat → Nat → Option Nat} : ∀ (n : Nat) (I : Nat → Nat → Int32) (x2 : Int32) (x4 : Int32) (x5 : Int32) (x6 : Int32), Ok (gX12_led_l64 σ R n I x2 x4 x5 x6) (fun r => Ag WX12_led_l64 I r.1) := by
  intro n
  induction n with
  | zero => intro I x2 x4 x5 x6; exact Ok_e rfl
  | succ n ih =>
    intro I x2 x4 x5 x6
    rw [gX12_led_l64]
    refine Ok_i (fun g_1 => ?_) (fun _ => ?_)
    · exact Ok_m (aX12_led_b113) (fun _ hr => (Ag.tr Ag.rf (Ag.mo rfl hr)))
    · refine Ok_g (fun g_2 => ?_)
      refine Ok_i (fun g_3 => ?_) (fun _ => ?_)
      · exact Ok_m (aX12_led_b113) (fun _ hr => (Ag.tr Ag.rf (Ag.mo rfl hr)))
      · have m_4 := Ag.st (k := (Int32.toNatClampNeg x6)) (v := (I 114 32)) Ag.rf (show inW WX12_led_l64 133 = true from rfl)
        refine Ok_g (fun g_5 => ?_)
        exact Ok_m (ih _ _ _ _ _) (fun _ hr => (Ag.tr m_4 (Ag.mo rfl hr)))
def WX12_led : List (Nat × Nat) := [(114, 115), (133, 134)]
theorem aX12_led {σ : Shp} {I : Nat → Nat → Int32} {R : Nat → Nat → Option Nat} {x1 : Int32} {x2 : Int32} : Ok (gX12_led σ I R x1 x2) (fun r => Ag WX12_led I r.1) := by
  unfold gX12_led
  refine Ok_i (fun g_1 => ?_) (fun _ => ?_)
  · exact Ok_s Ag.rf
  · refine Ok_i (fun g_2 => ?_) (fun _ => ?_)
    · exact Ok_s Ag.rf
    · refine Ok_g (fun g_3 => ?_)
      refine Ok_t ?_
      intro r2
      refine Ok_i (fun g_4 => ?_) (fun _ => ?_)
      · have m_5 := Ag.st (k := 32) (v := ((I 114 32) + (1 : Int32))) Ag.rf (show inW WX12_led 114 = true from rfl)
        exact Ok_m (aX12_led_l64  _ _ _ _ _ _) (fun _ hr => (Ag.tr m_5 (Ag.mo rfl hr)))
      · refine Ok_b (aX12_no) ?_
        intro rr hr
        obtain ⟨I13, r14⟩ := rr
        have h_6 := hr
        have m_7 : Ag WX12_led I I13 := Ag.tr Ag.rf (Ag.mo rfl h_6)
        exact Ok_s m_7
def WX12_step : List (Nat × Nat) := [(134, 135), (135, 136), (136, 137), (137, 138), (138, 139)]
theorem aX12_step {I : Nat → Nat → Int32} {x1 : Int32} {x2 : Int32} {x3 : Int32} {x4 : Int32} {x5 : Int32} : Ok (gX12_step I x1 x2 x3 x4 x5) (fun r => Ag WX12_step I r.1) := by
  unfold gX12_step
  refine Ok_i (fun g_1 => ?_) (fun _ => ?_)
  · exact Ok_s Ag.rf
  · refine Ok_i (fun g_2 => ?_) (fun _ => ?_)
    · exact Ok_s Ag.rf
    · refine Ok_g (fun g_3 => ?_)
      refine Ok_i (fun g_4 => ?_) (fun _ => ?_)
      · exact Ok_s Ag.rf
      · refine Ok_g (fun g_5 => ?_)
        have m_6 := Ag.st (k := (Int32.toNatClampNeg v2)) (v := x2) Ag.rf (show inW WX12_step 135 = true from rfl)
        refine Ok_g (fun g_7 => ?_)
        have m_8 := Ag.st (k := (Int32.toNatClampNeg v2)) (v := x3) m_6 (show inW WX12_step 136 = true from rfl)
        refine Ok_g (fun g_9 => ?_)
        have m_10 := Ag.st (k := (Int32.toNatClampNeg v2)) (v := x4) m_8 (show inW WX12_step 137 = true from rfl)
        refine Ok_g (fun g_11 => ?_)
        have m_12 := Ag.st (k := (Int32.toNatClampNeg v2)) (v := x5) m_10 (show inW WX12_step 138 = true from rfl)
        have m_13 := Ag.st (k := (Int32.toNatClampNeg x1)) (v := ((I10 134 (Int32.toNatClampNeg x1)) + (1 : Int32))) m_12 (show inW WX12_step 134 = true from rfl)
        exact Ok_s m_13
def WX12_drop : List (Nat × Nat) := [(134, 135)]
theorem aX12_drop {I : Nat → Nat → Int32} {x1 : Int32} : Ok (gX12_drop I x1) (fun r => Ag WX12_drop I r.1) := by
  unfold gX12_drop
  refine Ok_i (fun g_1 => ?_) (fun _ => ?_)
  · exact Ok_s Ag.rf
  · refine Ok_g (fun g_2 => ?_)
    have m_3 := Ag.st (k := (Int32.toNatClampNeg x1)) (v := (0 : Int32)) Ag.rf (show inW WX12_drop 134 = true from rfl)
    exact Ok_s m_3
def WX12_wrong_b99 : List (Nat × Nat) := [(142, 143)]
theorem aX12_wrong_b99 {q7 : (Nat → Nat → Int32) → (Int32) → (Int32) → (Int32) → (Int32) → (Option ((Nat → Nat → Int32) × (Int32)))} {σ : Shp} {R : Nat → Nat → Option Nat} {I : Nat → Nat → Int32} {x1 : Int32} {x2 : Int32} {x4 : Int32} {x5 : Int32} (hq7 : ∀ (I : Nat → Nat → Int32) (x1 : Int32) (x2 : Int32) (x3 : Int32) (x4 : Int32), Ok (q7 I x1 x2 x3 x4) (fun r => Ag WX12_wrong_l7 I r.1)) : Ok (gX12_wrong_b99 q7 σ R I x1 x2 x4 x5) (fun r => Ag WX12_wrong_b99 I r.1) := by
  unfold gX12_wrong_b99
  refine Ok_i (fun g_1 => ?_) (fun _ => ?_)
  · exact Ok_m (hq7 _ _ _ _ _) (fun _ hr => (Ag.tr Ag.rf (Ag.mo rfl hr)))
  · refine Ok_g (fun g_2 => ?_)
    have m_3 := Ag.st (k := (Int32.toNatClampNeg x2)) (v := x5) Ag.rf (show inW WX12_wrong_b99 142 = true from rfl)
    exact Ok_m (hq7 _ _ _ _ _) (fun _ hr => (Ag.tr m_3 (Ag.mo rfl hr)))
def WX12_wrong_l7 : List (Nat × Nat) := [(142, 143)]
theorem aX12_wrong_l7 {σ : Shp} {R : Nat → Nat → Option Nat} : ∀ (n : Nat) (I : Nat → Nat → Int32) (x1 : Int32) (x2 : Int32) (x3 : Int32) (x4 : Int32), Ok (gX12_wrong_l7 σ R n I x1 x2 x3 x4) (fun r => Ag WX12_wrong_l7 I r.1) := by
  intro n
  induction n with
  | zero => intro I x1 x2 x3 x4; exact Ok_e rfl
  | succ n ih =>
    intro I x1 x2 x3 x4
    rw [gX12_wrong_l7]
    refine Ok_g (fun g_1 => ?_)
    refine Ok_i (fun g_2 => ?_) (fun _ => ?_)
    · refine Ok_i (fun g_3 => ?_) (fun _ => ?_)
      · exact Ok_s Ag.rf
      · exact Ok_s Ag.rf
    · refine Ok_g (fun g_4 => ?_)
      refine Ok_i (fun g_5 => ?_) (fun _ => ?_)
      · refine Ok_i (fun g_6 => ?_) (fun _ => ?_)
        · exact Ok_s Ag.rf
        · refine Ok_g (fun g_7 => ?_)
          refine Ok_i (fun g_8 => ?_) (fun _ => ?_)
          · exact Ok_m (ih _ _ _ _ _) (fun _ hr => (Ag.tr Ag.rf (Ag.mo rfl hr)))
          · refine Ok_i (fun g_9 => ?_) (fun _ => ?_)
            · exact Ok_m (ih _ _ _ _ _) (fun _ hr => (Ag.tr Ag.rf (Ag.mo rfl hr)))
            · exact Ok_m (ih _ _ _ _ _) (fun _ hr => (Ag.tr Ag.rf (Ag.mo rfl hr)))
      · refine Ok_i (fun g_10 => ?_) (fun _ => ?_)
        · refine Ok_i (fun g_11 => ?_) (fun _ => ?_)
          · exact Ok_s Ag.rf
          · exact Ok_m (aX12_wrong_b99 ih) (fun _ hr => (Ag.tr Ag.rf (Ag.mo rfl hr)))
        · refine Ok_i (fun g_12 => ?_) (fun _ => ?_)
          · refine Ok_i (fun g_13 => ?_) (fun _ => ?_)
            · exact Ok_s Ag.rf
            · exact Ok_m (aX12_wrong_b99 ih) (fun _ hr => (Ag.tr Ag.rf (Ag.mo rfl hr)))
          · exact Ok_m (aX12_wrong_b99 ih) (fun _ hr => (Ag.tr Ag.rf (Ag.mo rfl hr)))
def WX12_wrong : List (Nat × Nat) := [(142, 143)]
theorem aX12_wrong {σ : Shp} {I : Nat → Nat → Int32} {R : Nat → Nat → Option Nat} {x1 : Int32} : Ok (gX12_wrong σ I R x1) (fun r => Ag WX12_wrong I r.1) := by
  unfold gX12_wrong
  exact Ok_m (aX12_wrong_l7  _ _ _ _ _ _) (fun _ hr => (Ag.tr Ag.rf (Ag.mo rfl hr)))
def WX12_formed : List (Nat × Nat) := [(142, 143)]
theorem aX12_formed {σ : Shp} {I : Nat → Nat → Int32} {R : Nat → Nat → Option Nat} {x1 : Int32} : Ok (gX12_formed σ I R x1) (fun r => Ag WX12_formed I r.1) := by
  unfold gX12_formed
  refine Ok_i (fun g_1 => ?_) (fun _ => ?_)
  · exact Ok_s Ag.rf
  · refine Ok_b (aX12_wrong) ?_
    intro rr hr
    obtain ⟨I1, r2⟩ := rr
    have h_2 := hr
    have m_3 : Ag WX12_formed I I1 := Ag.tr Ag.rf (Ag.mo rfl h_2)
    exact Ok_s m_3
def WX12_note : List (Nat × Nat) := [(114, 115), (154, 155), (155, 156)]
theorem aX12_note {I : Nat → Nat → Int32} {J : Nat → Nat → Int64} {x1 : Int32} {x2 : Int64} : Ok (gX12_note I J x1 x2) (fun r => Ag WX12_note I r.1 ∧ Ag WX12_note J r.2) := by
  unfold gX12_note
  refine Ok_g (fun g_1 => ?_)
  have m_2 := Ag.st (k := (Int32.toNatClampNeg (I 114 54))) (v := x1) Ag.rf (show inW WX12_note 154 = true from rfl)
  refine Ok_g (fun g_3 => ?_)
  have m_4 := Ag.st (k := (Int32.toNatClampNeg (I2 114 54))) (v := x2) Ag.rf (show inW WX12_note 155 = true from rfl)
  have m_5 := Ag.st (k := 54) (v := ((I2 114 54) + (1 : Int32))) m_2 (show inW WX12_note 114 = true from rfl)
  exact Ok_s ⟨m_5, m_4⟩
def WX12_setCell : List (Nat × Nat) := [(114, 115), (119, 120), (154, 155), (155, 156)]
theorem aX12_setCell {I : Nat → Nat → Int32} {J : Nat → Nat → Int64} {x1 : Int32} {x2 : Int64} : Ok (gX12_setCell I J x1 x2) (fun r => Ag WX12_setCell I r.1 ∧ Ag WX12_setCell J r.2) := by
  unfold gX12_setCell
  refine Ok_g (fun g_1 => ?_)
  refine Ok_b (aX12_note) ?_
  intro rr hr
  obtain ⟨I2, J3⟩ := rr
  obtain ⟨h_2, h_3⟩ := hr
  have m_4 : Ag WX12_setCell I I2 := Ag.tr Ag.rf (Ag.mo rfl h_2)
  have m_5 : Ag WX12_setCell J J3 := Ag.tr Ag.rf (Ag.mo rfl h_3)
  have m_6 := Ag.st (k := (Int32.toNatClampNeg x1)) (v := x2) m_5 (show inW WX12_setCell 119 = true from rfl)
  exact Ok_s ⟨m_4, m_6⟩
def WX12_changeStock : List (Nat × Nat) := [(114, 115), (139, 140), (154, 155), (155, 156)]
theorem aX12_changeStock {I : Nat → Nat → Int32} {J : Nat → Nat → Int64} {x1 : Int32} {x2 : Int64} : Ok (gX12_changeStock I J x1 x2) (fun r => Ag WX12_changeStock I r.1 ∧ Ag WX12_changeStock J r.2) := by
  unfold gX12_changeStock
  refine Ok_g (fun g_1 => ?_)
  refine Ok_b (aX12_note) ?_
  intro rr hr
  obtain ⟨I2, J3⟩ := rr
  obtain ⟨h_2, h_3⟩ := hr
  have m_4 : Ag WX12_changeStock I I2 := Ag.tr Ag.rf (Ag.mo rfl h_2)
  have m_5 : Ag WX12_changeStock J J3 := Ag.tr Ag.rf (Ag.mo rfl h_3)
  have m_6 := Ag.st (k := (Int32.toNatClampNeg x1)) (v := x2) m_5 (show inW WX12_changeStock 139 = true from rfl)
  exact Ok_s ⟨m_4, m_6⟩
def WX12_undoTo_l0 : List (Nat × Nat) := [(114, 115), (119, 120), (139, 140)]
theorem aX12_undoTo_l0 {σ : Shp} {R : Nat → Nat → Option Nat} : ∀ (n : Nat) (I : Nat → Nat → Int32) (J : Nat → Nat → Int64) (x1 : Int32), Ok (gX12_undoTo_l0 σ R n I J x1) (fun r => Ag WX12_undoTo_l0 I r.1 ∧ Ag WX12_undoTo_l0 J r.2) := by
  intro n
  induction n with
  | zero => intro I J x1; exact Ok_e rfl
  | succ n ih =>
    intro I J x1
    rw [gX12_undoTo_l0]
    refine Ok_i (fun g_1 => ?_) (fun _ => ?_)
    · exact Ok_s ⟨Ag.rf, Ag.rf⟩
    · have m_2 := Ag.st (k := 54) (v := ((I 114 54) - (1 : Int32))) Ag.rf (show inW WX12_undoTo_l0 114 = true from rfl)
      refine Ok_g (fun g_3 => ?_)
      refine Ok_i (fun g_4 => ?_) (fun _ => ?_)
      · refine Ok_g (fun g_5 => ?_)
        refine Ok_g (fun g_6 => ?_)
        have m_7 := Ag.st (k := (Int32.toNatClampNeg v3)) (v := (J 155 (Int32.toNatClampNeg (I1 114 54)))) Ag.rf (show inW WX12_undoTo_l0 119 = true from rfl)
        exact Ok_m (ih _ _ _) (fun _ ⟨h0, h1⟩ => ⟨(Ag.tr m_2 (Ag.mo rfl h0)), (Ag.tr m_7 (Ag.mo rfl h1))⟩)
      · refine Ok_g (fun g_8 => ?_)
        refine Ok_g (fun g_9 => ?_)
        have m_10 := Ag.st (k := (Int32.toNatClampNeg ((-1 : Int32) - v3))) (v := (J 155 (Int32.toNatClampNeg (I1 114 54)))) Ag.rf (show inW WX12_undoTo_l0 139 = true from rfl)
        exact Ok_m (ih _ _ _) (fun _ ⟨h0, h1⟩ => ⟨(Ag.tr m_2 (Ag.mo rfl h0)), (Ag.tr m_10 (Ag.mo rfl h1))⟩)
def WX12_undoTo : List (Nat × Nat) := [(114, 115), (119, 120), (139, 140)]
theorem aX12_undoTo {σ : Shp} {I : Nat → Nat → Int32} {J : Nat → Nat → Int64} {R : Nat → Nat → Option Nat} {x1 : Int32} : Ok (gX12_undoTo σ I J R x1) (fun r => Ag WX12_undoTo I r.1 ∧ Ag WX12_undoTo J r.2) := by
  unfold gX12_undoTo
  exact Ok_m (aX12_undoTo_l0  _ _ _ _) (fun _ ⟨h0, h1⟩ => ⟨(Ag.tr Ag.rf (Ag.mo rfl h0)), (Ag.tr Ag.rf (Ag.mo rfl h1))⟩)
def WX12_fails_b22 : List (Nat × Nat) := [(114, 115)]
theorem aX12_fails_b22 {σ : Shp} {I : Nat → Nat → Int32} {s0 : Option Nat} {s1 : Int32} (hs_s0 : Cin [(114, 115)] s0) : Ok (gX12_fails_b22 σ I s0 s1) (fun r => Ag WX12_fails_b22 I r) := by
  unfold gX12_fails_b22
  refine Ok_bc (fun a3 e_1 => ?_)
  refine Ok_g (fun g_2 => ?_)
  have m_3 := Ag.st (k := 61) (v := s1) Ag.rf (inW_mo (L := [(114, 115)]) (M := WX12_fails_b22) rfl (Cin.get hs_s0 e_1))
  have m_4 := Ag.st (k := 62) (v := (I5 114 58)) m_3 (show inW WX12_fails_b22 114 = true from rfl)
  have m_5 := Ag.st (k := 63) (v := (0 : Int32)) m_4 (show inW WX12_fails_b22 114 = true from rfl)
  have m_6 := Ag.st (k := 70) (v := ((I7 114 70) + (1 : Int32))) m_5 (show inW WX12_fails_b22 114 = true from rfl)
  have m_7 := Ag.st (k := 1) (v := ((I8 114 1) + (1 : Int32))) m_6 (show inW WX12_fails_b22 114 = true from rfl)
  exact Ok_s m_7
def WX12_fails : List (Nat × Nat) := [(114, 115)]
theorem aX12_fails {σ : Shp} {I : Nat → Nat → Int32} {x1 : Int32} {x2 : Int32} : Ok (gX12_fails σ I x1 x2) (fun r => Ag WX12_fails I r) := by
  unfold gX12_fails
  have m_1 := Ag.st (k := 59) (v := (1 : Int32)) Ag.rf (show inW WX12_fails 114 = true from rfl)
  have m_2 := Ag.st (k := 60) (v := x1) m_1 (show inW WX12_fails 114 = true from rfl)
  refine Ok_i (fun g_3 => ?_) (fun _ => ?_)
  · exact Ok_m (aX12_fails_b22 ⟨_, rfl, (show inW [(114, 115)] 114 = true from rfl)⟩) (fun _ hr => (Ag.tr m_2 (Ag.mo rfl hr)))
  · exact Ok_m (aX12_fails_b22 ⟨_, rfl, (show inW [(114, 115)] 114 = true from rfl)⟩) (fun _ hr => (Ag.tr m_2 (Ag.mo rfl hr)))
def WX12_push : List (Nat × Nat) := [(114, 115), (143, 144), (144, 145), (145, 146), (146, 147), (147, 148)]
theorem aX12_push {I : Nat → Nat → Int32} {x1 : Int32} : Ok (gX12_push I x1) (fun r => Ag WX12_push I r) := by
  unfold gX12_push
  refine Ok_g (fun g_1 => ?_)
  have m_2 := Ag.st (k := (Int32.toNatClampNeg (I 114 42))) (v := x1) Ag.rf (show inW WX12_push 143 = true from rfl)
  refine Ok_g (fun g_3 => ?_)
  have m_4 := Ag.st (k := (Int32.toNatClampNeg (I2 114 42))) (v := (I2 114 57)) m_2 (show inW WX12_push 144 = true from rfl)
  refine Ok_g (fun g_5 => ?_)
  have m_6 := Ag.st (k := (Int32.toNatClampNeg (I4 114 42))) (v := (I4 114 58)) m_4 (show inW WX12_push 145 = true from rfl)
  refine Ok_g (fun g_7 => ?_)
  have m_8 := Ag.st (k := (Int32.toNatClampNeg (I6 114 42))) (v := (I6 114 54)) m_6 (show inW WX12_push 146 = true from rfl)
  refine Ok_g (fun g_9 => ?_)
  have m_10 := Ag.st (k := (Int32.toNatClampNeg (I8 114 42))) (v := (1 : Int32)) m_8 (show inW WX12_push 147 = true from rfl)
  have m_11 := Ag.st (k := 42) (v := ((I10 114 42) + (1 : Int32))) m_10 (show inW WX12_push 114 = true from rfl)
  exact Ok_s m_11
def WX12_enter_b194 : List (Nat × Nat) := [(114, 115), (139, 140), (140, 141), (141, 142), (143, 144), (144, 145), (145, 146), (146, 147), (147, 148), (154, 155), (155, 156)]
theorem aX12_enter_b194 {σ : Shp} {R : Nat → Nat → Option Nat} {I : Nat → Nat → Int32} {J : Nat → Nat → Int64} {x1 : Int32} : Ok (gX12_enter_b194 σ R I J x1) (fun r => Ag WX12_enter_b194 I r.1 ∧ Ag WX12_enter_b194 J r.2) := by
  unfold gX12_enter_b194
  refine Ok_b (aX12_push) ?_
  intro I4 hr
  have h_1 := hr
  have m_2 : Ag WX12_enter_b194 I I4 := Ag.tr Ag.rf (Ag.mo rfl h_1)
  refine Ok_i (fun g_3 => ?_) (fun _ => ?_)
  · refine Ok_t ?_
    intro r25
    refine Ok_g (fun g_4 => ?_)
    have m_5 := Ag.st (k := (Int32.toNatClampNeg r25)) (v := ((I4 141 (Int32.toNatClampNeg r25)) + (1 : Int32))) m_2 (show inW WX12_enter_b194 141 = true from rfl)
    refine Ok_g (fun g_6 => ?_)
    refine Ok_g (fun g_7 => ?_)
    refine Ok_g (fun g_8 => ?_)
    refine Ok_i (fun g_9 => ?_) (fun _ => ?_)
    · have m_10 := Ag.st (k := 69) (v := (I28 114 69)) m_5 (show inW WX12_enter_b194 114 = true from rfl)
      have m_11 := Ag.st (k := 58) (v := ((I33 114 58) + (1 : Int32))) m_10 (show inW WX12_enter_b194 114 = true from rfl)
      exact Ok_s ⟨m_11, Ag.rf⟩
    · have m_12 := Ag.st (k := 69) (v := v32) m_5 (show inW WX12_enter_b194 114 = true from rfl)
      have m_13 := Ag.st (k := 58) (v := ((I35 114 58) + (1 : Int32))) m_12 (show inW WX12_enter_b194 114 = true from rfl)
      exact Ok_s ⟨m_13, Ag.rf⟩
  · refine Ok_i (fun g_14 => ?_) (fun _ => ?_)
    · refine Ok_t ?_
      intro r14
      refine Ok_t ?_
      intro r16
      refine Ok_g (fun g_15 => ?_)
      refine Ok_t ?_
      intro r19
      refine Ok_b (aX12_changeStock) ?_
      intro rr hr
      obtain ⟨I21, J22⟩ := rr
      obtain ⟨h_16, h_17⟩ := hr
      have m_18 : Ag WX12_enter_b194 I I21 := Ag.tr m_2 (Ag.mo rfl h_16)
      have m_19 : Ag WX12_enter_b194 J J22 := Ag.tr Ag.rf (Ag.mo rfl h_17)
      have m_20 := Ag.st (k := 58) (v := ((I21 114 58) + (1 : Int32))) m_18 (show inW WX12_enter_b194 114 = true from rfl)
      exact Ok_s ⟨m_20, m_19⟩
    · refine Ok_i (fun g_21 => ?_) (fun _ => ?_)
      · refine Ok_t ?_
        intro r7
        refine Ok_t ?_
        intro r9
        refine Ok_g (fun g_22 => ?_)
        have m_23 := Ag.st (k := (Int32.toNatClampNeg r7)) (v := r9) m_2 (show inW WX12_enter_b194 140 = true from rfl)
        have m_24 := Ag.st (k := 58) (v := ((I12 114 58) + (1 : Int32))) m_23 (show inW WX12_enter_b194 114 = true from rfl)
        exact Ok_s ⟨m_24, Ag.rf⟩
      · have m_25 := Ag.st (k := 58) (v := ((I4 114 58) + (1 : Int32))) m_2 (show inW WX12_enter_b194 114 = true from rfl)
        exact Ok_s ⟨m_25, Ag.rf⟩
def WX12_enter_b161 : List (Nat × Nat) := [(114, 115), (139, 140), (140, 141), (141, 142), (143, 144), (144, 145), (145, 146), (146, 147), (147, 148), (154, 155), (155, 156)]
theorem aX12_enter_b161 {σ : Shp} {R : Nat → Nat → Option Nat} {I : Nat → Nat → Int32} {J : Nat → Nat → Int64} {x1 : Int32} : Ok (gX12_enter_b161 σ R I J x1) (fun r => Ag WX12_enter_b161 I r.1 ∧ Ag WX12_enter_b161 J r.2) := by
  unfold gX12_enter_b161
  refine Ok_t ?_
  intro r1
  refine Ok_g (fun g_1 => ?_)
  refine Ok_i (fun g_2 => ?_) (fun _ => ?_)
  · exact Ok_m (aX12_enter_b194) (fun _ ⟨h0, h1⟩ => ⟨(Ag.tr Ag.rf (Ag.mo rfl h0)), (Ag.tr Ag.rf (Ag.mo rfl h1))⟩)
  · refine Ok_t ?_
    intro r37
    have m_3 := Ag.st (k := 58) (v := (r37 + (1 : Int32))) Ag.rf (show inW WX12_enter_b161 114 = true from rfl)
    exact Ok_s ⟨m_3, Ag.rf⟩
def WX12_enter_b121 : List (Nat × Nat) := [(114, 115), (139, 140), (140, 141), (141, 142), (143, 144), (144, 145), (145, 146), (146, 147), (147, 148), (154, 155), (155, 156)]
theorem aX12_enter_b121 {σ : Shp} {R : Nat → Nat → Option Nat} {I : Nat → Nat → Int32} {J : Nat → Nat → Int64} {x1 : Int32} : Ok (gX12_enter_b121 σ R I J x1) (fun r => Ag WX12_enter_b121 I r.1 ∧ Ag WX12_enter_b121 J r.2) := by
  unfold gX12_enter_b121
  refine Ok_i (fun g_1 => ?_) (fun _ => ?_)
  · refine Ok_t ?_
    intro r40
    refine Ok_i (fun g_2 => ?_) (fun _ => ?_)
    · refine Ok_b (aX12_fails) ?_
      intro I42 hr
      have h_3 := hr
      have m_4 : Ag WX12_enter_b121 I I42 := Ag.tr Ag.rf (Ag.mo rfl h_3)
      exact Ok_s ⟨m_4, Ag.rf⟩
    · refine Ok_i (fun g_5 => ?_) (fun _ => ?_)
      · exact Ok_m (aX12_enter_b161) (fun _ ⟨h0, h1⟩ => ⟨(Ag.tr Ag.rf (Ag.mo rfl h0)), (Ag.tr Ag.rf (Ag.mo rfl h1))⟩)
      · refine Ok_i (fun g_6 => ?_) (fun _ => ?_)
        · exact Ok_m (aX12_enter_b161) (fun _ ⟨h0, h1⟩ => ⟨(Ag.tr Ag.rf (Ag.mo rfl h0)), (Ag.tr Ag.rf (Ag.mo rfl h1))⟩)
        · exact Ok_m (aX12_enter_b194) (fun _ ⟨h0, h1⟩ => ⟨(Ag.tr Ag.rf (Ag.mo rfl h0)), (Ag.tr Ag.rf (Ag.mo rfl h1))⟩)
  · refine Ok_i (fun g_7 => ?_) (fun _ => ?_)
    · exact Ok_m (aX12_enter_b161) (fun _ ⟨h0, h1⟩ => ⟨(Ag.tr Ag.rf (Ag.mo rfl h0)), (Ag.tr Ag.rf (Ag.mo rfl h1))⟩)
    · refine Ok_i (fun g_8 => ?_) (fun _ => ?_)
      · exact Ok_m (aX12_enter_b161) (fun _ ⟨h0, h1⟩ => ⟨(Ag.tr Ag.rf (Ag.mo rfl h0)), (Ag.tr Ag.rf (Ag.mo rfl h1))⟩)
      · exact Ok_m (aX12_enter_b194) (fun _ ⟨h0, h1⟩ => ⟨(Ag.tr Ag.rf (Ag.mo rfl h0)), (Ag.tr Ag.rf (Ag.mo rfl h1))⟩)
def WX12_enter_b81 : List (Nat × Nat) := [(114, 115), (139, 140), (140, 141), (141, 142), (143, 144), (144, 145), (145, 146), (146, 147), (147, 148), (154, 155), (155, 156)]
theorem aX12_enter_b81 {σ : Shp} {R : Nat → Nat → Option Nat} {I : Nat → Nat → Int32} {J : Nat → Nat → Int64} {x1 : Int32} : Ok (gX12_enter_b81 σ R I J x1) (fun r => Ag WX12_enter_b81 I r.1 ∧ Ag WX12_enter_b81 J r.2) := by
  unfold gX12_enter_b81
  refine Ok_i (fun g_1 => ?_) (fun _ => ?_)
  · refine Ok_t ?_
    intro r44
    refine Ok_i (fun g_2 => ?_) (fun _ => ?_)
    · refine Ok_b (aX12_fails) ?_
      intro I46 hr
      have h_3 := hr
      have m_4 : Ag WX12_enter_b81 I I46 := Ag.tr Ag.rf (Ag.mo rfl h_3)
      exact Ok_s ⟨m_4, Ag.rf⟩
    · refine Ok_t ?_
      intro r48
      refine Ok_g (fun g_5 => ?_)
      refine Ok_t ?_
      intro r51
      refine Ok_i (fun g_6 => ?_) (fun _ => ?_)
      · exact Ok_m (aX12_enter_b121) (fun _ ⟨h0, h1⟩ => ⟨(Ag.tr Ag.rf (Ag.mo rfl h0)), (Ag.tr Ag.rf (Ag.mo rfl h1))⟩)
      · refine Ok_b (aX12_fails) ?_
        intro I53 hr
        have h_7 := hr
        have m_8 : Ag WX12_enter_b81 I I53 := Ag.tr Ag.rf (Ag.mo rfl h_7)
        exact Ok_s ⟨m_8, Ag.rf⟩
  · exact Ok_m (aX12_enter_b121) (fun _ ⟨h0, h1⟩ => ⟨(Ag.tr Ag.rf (Ag.mo rfl h0)), (Ag.tr Ag.rf (Ag.mo rfl h1))⟩)
def WX12_enter_b58 : List (Nat × Nat) := [(114, 115), (139, 140), (140, 141), (141, 142), (143, 144), (144, 145), (145, 146), (146, 147), (147, 148), (154, 155), (155, 156)]
theorem aX12_enter_b58 {σ : Shp} {R : Nat → Nat → Option Nat} {I : Nat → Nat → Int32} {J : Nat → Nat → Int64} {x1 : Int32} {x3 : Int32} : Ok (gX12_enter_b58 σ R I J x1 x3) (fun r => Ag WX12_enter_b58 I r.1 ∧ Ag WX12_enter_b58 J r.2) := by
  unfold gX12_enter_b58
  refine Ok_i (fun g_1 => ?_) (fun _ => ?_)
  · exact Ok_m (aX12_enter_b81) (fun _ ⟨h0, h1⟩ => ⟨(Ag.tr Ag.rf (Ag.mo rfl h0)), (Ag.tr Ag.rf (Ag.mo rfl h1))⟩)
  · refine Ok_t ?_
    intro r55
    refine Ok_i (fun g_2 => ?_) (fun _ => ?_)
    · refine Ok_b (aX12_fails) ?_
      intro I57 hr
      have h_3 := hr
      have m_4 : Ag WX12_enter_b58 I I57 := Ag.tr Ag.rf (Ag.mo rfl h_3)
      exact Ok_s ⟨m_4, Ag.rf⟩
    · exact Ok_m (aX12_enter_b81) (fun _ ⟨h0, h1⟩ => ⟨(Ag.tr Ag.rf (Ag.mo rfl h0)), (Ag.tr Ag.rf (Ag.mo rfl h1))⟩)
def WX12_enter_b41 : List (Nat × Nat) := [(114, 115), (139, 140), (140, 141), (141, 142), (143, 144), (144, 145), (145, 146), (146, 147), (147, 148), (154, 155), (155, 156)]
theorem aX12_enter_b41 {σ : Shp} {R : Nat → Nat → Option Nat} {I : Nat → Nat → Int32} {J : Nat → Nat → Int64} {x1 : Int32} {x2 : Int32} {s0 : Int32} : Ok (gX12_enter_b41 σ R I J x1 x2 s0) (fun r => Ag WX12_enter_b41 I r.1 ∧ Ag WX12_enter_b41 J r.2) := by
  unfold gX12_enter_b41
  refine Ok_i (fun g_1 => ?_) (fun _ => ?_)
  · exact Ok_m (aX12_enter_b58) (fun _ ⟨h0, h1⟩ => ⟨(Ag.tr Ag.rf (Ag.mo rfl h0)), (Ag.tr Ag.rf (Ag.mo rfl h1))⟩)
  · refine Ok_t ?_
    intro r59
    refine Ok_i (fun g_2 => ?_) (fun _ => ?_)
    · refine Ok_b (aX12_fails) ?_
      intro I61 hr
      have h_3 := hr
      have m_4 : Ag WX12_enter_b41 I I61 := Ag.tr Ag.rf (Ag.mo rfl h_3)
      exact Ok_s ⟨m_4, Ag.rf⟩
    · exact Ok_m (aX12_enter_b58) (fun _ ⟨h0, h1⟩ => ⟨(Ag.tr Ag.rf (Ag.mo rfl h0)), (Ag.tr Ag.rf (Ag.mo rfl h1))⟩)
def WX12_enter_b23 : List (Nat × Nat) := [(114, 115), (139, 140), (140, 141), (141, 142), (143, 144), (144, 145), (145, 146), (146, 147), (147, 148), (154, 155), (155, 156)]
theorem aX12_enter_b23 {σ : Shp} {R : Nat → Nat → Option Nat} {I : Nat → Nat → Int32} {J : Nat → Nat → Int64} {x1 : Int32} {s0 : Int32} : Ok (gX12_enter_b23 σ R I J x1 s0) (fun r => Ag WX12_enter_b23 I r.1 ∧ Ag WX12_enter_b23 J r.2) := by
  unfold gX12_enter_b23
  refine Ok_i (fun g_1 => ?_) (fun _ => ?_)
  · exact Ok_m (aX12_enter_b41) (fun _ ⟨h0, h1⟩ => ⟨(Ag.tr Ag.rf (Ag.mo rfl h0)), (Ag.tr Ag.rf (Ag.mo rfl h1))⟩)
  · refine Ok_i (fun g_2 => ?_) (fun _ => ?_)
    · exact Ok_m (aX12_enter_b41) (fun _ ⟨h0, h1⟩ => ⟨(Ag.tr Ag.rf (Ag.mo rfl h0)), (Ag.tr Ag.rf (Ag.mo rfl h1))⟩)
    · exact Ok_m (aX12_enter_b41) (fun _ ⟨h0, h1⟩ => ⟨(Ag.tr Ag.rf (Ag.mo rfl h0)), (Ag.tr Ag.rf (Ag.mo rfl h1))⟩)
def WX12_enter : List (Nat × Nat) := [(114, 115), (139, 140), (140, 141), (141, 142), (143, 144), (144, 145), (145, 146), (146, 147), (147, 148), (154, 155), (155, 156)]
theorem aX12_enter {σ : Shp} {I : Nat → Nat → Int32} {J : Nat → Nat → Int64} {R : Nat → Nat → Option Nat} {x1 : Int32} : Ok (gX12_enter σ I J R x1) (fun r => Ag WX12_enter I r.1 ∧ Ag WX12_enter J r.2) := by
  unfold gX12_enter
  refine Ok_i (fun g_1 => ?_) (fun _ => ?_)
  · exact Ok_m (aX12_enter_b23) (fun _ ⟨h0, h1⟩ => ⟨(Ag.tr Ag.rf (Ag.mo rfl h0)), (Ag.tr Ag.rf (Ag.mo rfl h1))⟩)
  · refine Ok_i (fun g_2 => ?_) (fun _ => ?_)
    · exact Ok_m (aX12_enter_b23) (fun _ ⟨h0, h1⟩ => ⟨(Ag.tr Ag.rf (Ag.mo rfl h0)), (Ag.tr Ag.rf (Ag.mo rfl h1))⟩)
    · refine Ok_i (fun g_3 => ?_) (fun _ => ?_)
      · exact Ok_m (aX12_enter_b23) (fun _ ⟨h0, h1⟩ => ⟨(Ag.tr Ag.rf (Ag.mo rfl h0)), (Ag.tr Ag.rf (Ag.mo rfl h1))⟩)
      · exact Ok_m (aX12_enter_b23) (fun _ ⟨h0, h1⟩ => ⟨(Ag.tr Ag.rf (Ag.mo rfl h0)), (Ag.tr Ag.rf (Ag.mo rfl h1))⟩)
def WX12_plain_b100 : List (Nat × Nat) := [(114, 115), (119, 120), (139, 140), (154, 155), (155, 156)]
theorem aX12_plain_b100 {σ : Shp} {R : Nat → Nat → Option Nat} {I : Nat → Nat → Int32} {J : Nat → Nat → Int64} {x1 : Int32} : Ok (gX12_plain_b100 σ R I J x1) (fun r => Ag WX12_plain_b100 I r.1 ∧ Ag WX12_plain_b100 J r.2.1) := by
  unfold gX12_plain_b100
  refine Ok_t ?_
  intro r35
  refine Ok_g (fun g_1 => ?_)
  refine Ok_t ?_
  intro r39
  refine Ok_t ?_
  intro r41
  refine Ok_i (fun g_2 => ?_) (fun _ => ?_)
  · refine Ok_i (fun g_3 => ?_) (fun _ => ?_)
    · refine Ok_g (fun g_4 => ?_)
      refine Ok_t ?_
      intro r53
      refine Ok_t ?_
      intro r55
      refine Ok_b (aX12_setCell) ?_
      intro rr hr
      obtain ⟨I57, J58⟩ := rr
      obtain ⟨h_5, h_6⟩ := hr
      have m_7 : Ag WX12_plain_b100 I I57 := Ag.tr Ag.rf (Ag.mo rfl h_5)
      have m_8 : Ag WX12_plain_b100 J J58 := Ag.tr Ag.rf (Ag.mo rfl h_6)
      exact Ok_s ⟨m_7, m_8⟩
    · refine Ok_t ?_
      intro r43
      refine Ok_g (fun g_9 => ?_)
      refine Ok_t ?_
      intro r46
      refine Ok_g (fun g_10 => ?_)
      refine Ok_b (aX12_changeStock) ?_
      intro rr hr
      obtain ⟨I49, J50⟩ := rr
      obtain ⟨h_11, h_12⟩ := hr
      have m_13 : Ag WX12_plain_b100 I I49 := Ag.tr Ag.rf (Ag.mo rfl h_11)
      have m_14 : Ag WX12_plain_b100 J J50 := Ag.tr Ag.rf (Ag.mo rfl h_12)
      exact Ok_s ⟨m_13, m_14⟩
  · exact Ok_s ⟨Ag.rf, Ag.rf⟩
def WX12_plain : List (Nat × Nat) := [(114, 115), (119, 120), (129, 130), (130, 131), (131, 132), (132, 133), (139, 140), (154, 155), (155, 156)]
theorem aX12_plain {σ : Shp} {I : Nat → Nat → Int32} {J : Nat → Nat → Int64} {R : Nat → Nat → Option Nat} {x1 : Int32} (hS : Skel σ R) : Ok (gX12_plain σ I J R x1) (fun r => Ag WX12_plain I r.1 ∧ Ag WX12_plain J r.2.1) := by
  unfold gX12_plain
  refine Ok_i (fun g_1 => ?_) (fun _ => ?_)
  · refine Ok_t ?_
    intro r73
    refine Ok_t ?_
    intro r75
    refine Ok_g (fun g_2 => ?_)
    refine Ok_t ?_
    intro r78
    refine Ok_b (aX12_changeStock) ?_
    intro rr hr
    obtain ⟨I80, J81⟩ := rr
    obtain ⟨h_3, h_4⟩ := hr
    have m_5 : Ag WX12_plain I I80 := Ag.tr Ag.rf (Ag.mo rfl h_3)
    have m_6 : Ag WX12_plain J J81 := Ag.tr Ag.rf (Ag.mo rfl h_4)
    exact Ok_s ⟨m_5, m_6⟩
  · refine Ok_i (fun g_7 => ?_) (fun _ => ?_)
    · refine Ok_t ?_
      intro r60
      refine Ok_i (fun g_8 => ?_) (fun _ => ?_)
      · exact Ok_s ⟨Ag.rf, Ag.rf⟩
      · refine Ok_t ?_
        intro r62
        refine Ok_t ?_
        intro r64
        refine Ok_g (fun g_9 => ?_)
        refine Ok_t ?_
        intro r67
        refine Ok_g (fun g_10 => ?_)
        refine Ok_b (aX12_changeStock) ?_
        intro rr hr
        obtain ⟨I70, J71⟩ := rr
        obtain ⟨h_11, h_12⟩ := hr
        have m_13 : Ag WX12_plain I I70 := Ag.tr Ag.rf (Ag.mo rfl h_11)
        have m_14 : Ag WX12_plain J J71 := Ag.tr Ag.rf (Ag.mo rfl h_12)
        exact Ok_s ⟨m_13, m_14⟩
    · refine Ok_i (fun g_15 => ?_) (fun _ => ?_)
      · exact Ok_m (aX12_plain_b100) (fun _ ⟨h0, h1⟩ => ⟨(Ag.tr Ag.rf (Ag.mo rfl h0)), (Ag.tr Ag.rf (Ag.mo rfl h1))⟩)
      · refine Ok_i (fun g_16 => ?_) (fun _ => ?_)
        · exact Ok_m (aX12_plain_b100) (fun _ ⟨h0, h1⟩ => ⟨(Ag.tr Ag.rf (Ag.mo rfl h0)), (Ag.tr Ag.rf (Ag.mo rfl h1))⟩)
        · refine Ok_i (fun g_17 => ?_) (fun _ => ?_)
          · refine Ok_t ?_
            intro r23
            refine Ok_g (fun g_18 => ?_)
            refine Ok_t ?_
            intro r27
            refine Ok_i (fun g_19 => ?_) (fun _ => ?_)
            · refine Ok_g (fun g_20 => ?_)
              refine Ok_t ?_
              intro r30
              refine Ok_b (aX12_setCell) ?_
              intro rr hr
              obtain ⟨I32, J33⟩ := rr
              obtain ⟨h_21, h_22⟩ := hr
              have m_23 : Ag WX12_plain I I32 := Ag.tr Ag.rf (Ag.mo rfl h_21)
              have m_24 : Ag WX12_plain J J33 := Ag.tr Ag.rf (Ag.mo rfl h_22)
              exact Ok_s ⟨m_23, m_24⟩
            · exact Ok_s ⟨Ag.rf, Ag.rf⟩
          · refine Ok_i (fun g_25 => ?_) (fun _ => ?_)
            · refine Ok_t ?_
              intro r10
              refine Ok_g (fun g_26 => ?_)
              refine Ok_t ?_
              intro r13
              refine Ok_b (aX12_askOf hS) ?_
              intro rr hr
              obtain ⟨I15, r16⟩ := rr
              have h_27 := hr
              have m_28 : Ag WX12_plain I I15 := Ag.tr Ag.rf (Ag.mo rfl h_27)
              refine Ok_i (fun g_29 => ?_) (fun _ => ?_)
              · refine Ok_t ?_
                intro r18
                refine Ok_b (aX12_changeStock) ?_
                intro rr hr
                obtain ⟨I20, J21⟩ := rr
                obtain ⟨h_30, h_31⟩ := hr
                have m_32 : Ag WX12_plain I I20 := Ag.tr m_28 (Ag.mo rfl h_30)
                have m_33 : Ag WX12_plain J J21 := Ag.tr Ag.rf (Ag.mo rfl h_31)
                exact Ok_s ⟨m_32, m_33⟩
              · exact Ok_s ⟨m_28, Ag.rf⟩
            · refine Ok_t ?_
              intro r7
              refine Ok_g (fun g_34 => ?_)
              refine Ok_i (fun g_35 => ?_) (fun _ => ?_)
              · exact Ok_s ⟨Ag.rf, Ag.rf⟩
              · exact Ok_s ⟨Ag.rf, Ag.rf⟩
def WX12_isStep : List (Nat × Nat) := [(114, 115)]
theorem aX12_isStep {I : Nat → Nat → Int32} : Ok (gX12_isStep I) (fun r => Ag WX12_isStep I r.1) := by
  unfold gX12_isStep
  refine Ok_i (fun g_1 => ?_) (fun _ => ?_)
  · have m_2 := Ag.st (k := 59) (v := (3 : Int32)) Ag.rf (show inW WX12_isStep 114 = true from rfl)
    exact Ok_s m_2
  · have m_3 := Ag.st (k := 65) (v := ((I 114 65) + (1 : Int32))) Ag.rf (show inW WX12_isStep 114 = true from rfl)
    exact Ok_s m_3
def WX12_call : List (Nat × Nat) := [(114, 115), (142, 143), (143, 144), (144, 145), (145, 146), (146, 147), (147, 148)]
theorem aX12_call {σ : Shp} {I : Nat → Nat → Int32} {R : Nat → Nat → Option Nat} : Ok (gX12_call σ I R) (fun r => Ag WX12_call I r) := by
  unfold gX12_call
  refine Ok_t ?_
  intro r1
  refine Ok_b (aX12_wrong) ?_
  intro rr hr
  obtain ⟨I3, r4⟩ := rr
  have h_1 := hr
  have m_2 : Ag WX12_call I I3 := Ag.tr Ag.rf (Ag.mo rfl h_1)
  refine Ok_i (fun g_3 => ?_) (fun _ => ?_)
  · refine Ok_i (fun g_4 => ?_) (fun _ => ?_)
    · refine Ok_b (aX12_fails) ?_
      intro I13 hr
      have h_5 := hr
      have m_6 : Ag WX12_call I I13 := Ag.tr m_2 (Ag.mo rfl h_5)
      exact Ok_s m_6
    · refine Ok_t ?_
      intro r6
      refine Ok_b (aX12_push) ?_
      intro I8 hr
      have h_7 := hr
      have m_8 : Ag WX12_call I I8 := Ag.tr m_2 (Ag.mo rfl h_7)
      have m_9 := Ag.st (k := 66) (v := ((I8 114 66) + (1 : Int32))) m_8 (show inW WX12_call 114 = true from rfl)
      have m_10 := Ag.st (k := 57) (v := r6) m_9 (show inW WX12_call 114 = true from rfl)
      have m_11 := Ag.st (k := 58) (v := (0 : Int32)) m_10 (show inW WX12_call 114 = true from rfl)
      exact Ok_s m_11
  · refine Ok_b (aX12_fails) ?_
    intro I15 hr
    have h_12 := hr
    have m_13 : Ag WX12_call I I15 := Ag.tr m_2 (Ag.mo rfl h_12)
    exact Ok_s m_13
def WX12_begin : List (Nat × Nat) := [(114, 115), (119, 120), (129, 130), (130, 131), (131, 132), (132, 133), (139, 140), (140, 141), (141, 142), (142, 143), (143, 144), (144, 145), (145, 146), (146, 147), (147, 148), (154, 155), (155, 156)]
theorem aX12_begin {σ : Shp} {I : Nat → Nat → Int32} {J : Nat → Nat → Int64} {R : Nat → Nat → Option Nat} {x1 : Int32} (hS : Skel σ R) : Ok (gX12_begin σ I J R x1) (fun r => Ag WX12_begin I r.1 ∧ Ag WX12_begin J r.2) := by
  unfold gX12_begin
  refine Ok_b (aX12_isStep) ?_
  intro rr hr
  obtain ⟨I1, r2⟩ := rr
  have h_1 := hr
  have m_2 : Ag WX12_begin I I1 := Ag.tr Ag.rf (Ag.mo rfl h_1)
  refine Ok_i (fun g_3 => ?_) (fun _ => ?_)
  · exact Ok_s ⟨m_2, Ag.rf⟩
  · refine Ok_i (fun g_4 => ?_) (fun _ => ?_)
    · refine Ok_t ?_
      intro r4
      refine Ok_i (fun g_5 => ?_) (fun _ => ?_)
      · refine Ok_b (aX12_fails) ?_
        intro I23 hr
        have h_6 := hr
        have m_7 : Ag WX12_begin I I23 := Ag.tr m_2 (Ag.mo rfl h_6)
        exact Ok_s ⟨m_7, Ag.rf⟩
      · refine Ok_i (fun g_8 => ?_) (fun _ => ?_)
        · refine Ok_t ?_
          intro r19
          refine Ok_b (aX12_fails) ?_
          intro I21 hr
          have h_9 := hr
          have m_10 : Ag WX12_begin I I21 := Ag.tr m_2 (Ag.mo rfl h_9)
          exact Ok_s ⟨m_10, Ag.rf⟩
        · refine Ok_i (fun g_11 => ?_) (fun _ => ?_)
          · have m_12 := Ag.st (k := 59) (v := (2 : Int32)) m_2 (show inW WX12_begin 114 = true from rfl)
            refine Ok_t ?_
            intro r16
            have m_13 := Ag.st (k := 64) (v := r16) m_12 (show inW WX12_begin 114 = true from rfl)
            exact Ok_s ⟨m_13, Ag.rf⟩
          · refine Ok_i (fun g_14 => ?_) (fun _ => ?_)
            · refine Ok_b (aX12_call) ?_
              intro I13 hr
              have h_15 := hr
              have m_16 : Ag WX12_begin I I13 := Ag.tr m_2 (Ag.mo rfl h_15)
              exact Ok_s ⟨m_16, Ag.rf⟩
            · refine Ok_b (aX12_plain hS) ?_
              intro rr hr
              obtain ⟨I6, J7, r8⟩ := rr
              obtain ⟨h_17, h_18⟩ := hr
              have m_19 : Ag WX12_begin I I6 := Ag.tr m_2 (Ag.mo rfl h_17)
              have m_20 : Ag WX12_begin J J7 := Ag.tr Ag.rf (Ag.mo rfl h_18)
              refine Ok_i (fun g_21 => ?_) (fun _ => ?_)
              · have m_22 := Ag.st (k := 58) (v := ((I6 114 58) + (1 : Int32))) m_19 (show inW WX12_begin 114 = true from rfl)
                exact Ok_s ⟨m_22, m_20⟩
              · refine Ok_b (aX12_fails) ?_
                intro I11 hr
                have h_23 := hr
                have m_24 : Ag WX12_begin I I11 := Ag.tr m_19 (Ag.mo rfl h_23)
                exact Ok_s ⟨m_24, m_20⟩
    · refine Ok_b (aX12_enter) ?_
      intro rr hr
      obtain ⟨I25, J26⟩ := rr
      obtain ⟨h_25, h_26⟩ := hr
      have m_27 : Ag WX12_begin I I25 := Ag.tr m_2 (Ag.mo rfl h_25)
      have m_28 : Ag WX12_begin J J26 := Ag.tr Ag.rf (Ag.mo rfl h_26)
      exact Ok_s ⟨m_27, m_28⟩
def WX12_giveBack : List (Nat × Nat) := [(114, 115), (139, 140), (140, 141), (141, 142), (154, 155), (155, 156)]
theorem aX12_giveBack {I : Nat → Nat → Int32} {J : Nat → Nat → Int64} {x1 : Int32} : Ok (gX12_giveBack I J x1) (fun r => Ag WX12_giveBack I r.1 ∧ Ag WX12_giveBack J r.2) := by
  unfold gX12_giveBack
  refine Ok_g (fun g_1 => ?_)
  refine Ok_g (fun g_2 => ?_)
  refine Ok_g (fun g_3 => ?_)
  refine Ok_i (fun g_4 => ?_) (fun _ => ?_)
  · refine Ok_g (fun g_5 => ?_)
    refine Ok_g (fun g_6 => ?_)
    have m_7 := Ag.st (k := (Int32.toNatClampNeg (I 136 (Int32.toNatClampNeg v3)))) (v := ((I 141 (Int32.toNatClampNeg (I 136 (Int32.toNatClampNeg v3)))) - (1 : Int32))) Ag.rf (show inW WX12_giveBack 141 = true from rfl)
    exact Ok_s ⟨m_7, Ag.rf⟩
  · refine Ok_i (fun g_8 => ?_) (fun _ => ?_)
    · refine Ok_g (fun g_9 => ?_)
      refine Ok_g (fun g_10 => ?_)
      refine Ok_g (fun g_11 => ?_)
      refine Ok_b (aX12_changeStock) ?_
      intro rr hr
      obtain ⟨I12, J13⟩ := rr
      obtain ⟨h_12, h_13⟩ := hr
      have m_14 : Ag WX12_giveBack I I12 := Ag.tr Ag.rf (Ag.mo rfl h_12)
      have m_15 : Ag WX12_giveBack J J13 := Ag.tr Ag.rf (Ag.mo rfl h_13)
      exact Ok_s ⟨m_14, m_15⟩
    · refine Ok_i (fun g_16 => ?_) (fun _ => ?_)
      · refine Ok_g (fun g_17 => ?_)
        refine Ok_g (fun g_18 => ?_)
        refine Ok_g (fun g_19 => ?_)
        have m_20 := Ag.st (k := (Int32.toNatClampNeg (I 136 (Int32.toNatClampNeg v3)))) (v := (I 138 (Int32.toNatClampNeg v3))) Ag.rf (show inW WX12_giveBack 140 = true from rfl)
        exact Ok_s ⟨m_20, Ag.rf⟩
      · exact Ok_s ⟨Ag.rf, Ag.rf⟩
def WX12_behind_b40 : List (Nat × Nat) := [(114, 115), (143, 144), (144, 145), (145, 146), (146, 147), (147, 148), (148, 149), (149, 150), (150, 151), (151, 152), (152, 153), (153, 154)]
theorem aX12_behind_b40 {σ : Shp} {R : Nat → Nat → Option Nat} {I : Nat → Nat → Int32} {x1 : Int32} {x3 : Int32} : Ok (gX12_behind_b40 σ R I x1 x3) (fun r => Ag WX12_behind_b40 I r) := by
  unfold gX12_behind_b40
  have m_1 := Ag.st (k := 57) (v := x1) Ag.rf (show inW WX12_behind_b40 114 = true from rfl)
  have m_2 := Ag.st (k := 58) (v := x3) m_1 (show inW WX12_behind_b40 114 = true from rfl)
  refine Ok_g (fun g_3 => ?_)
  refine Ok_i (fun g_4 => ?_) (fun _ => ?_)
  · exact Ok_s m_2
  · refine Ok_g (fun g_5 => ?_)
    refine Ok_i (fun g_6 => ?_) (fun _ => ?_)
    · refine Ok_b (aX12_push) ?_
      intro I6 hr
      have h_7 := hr
      have m_8 : Ag WX12_behind_b40 I I6 := Ag.tr m_2 (Ag.mo rfl h_7)
      refine Ok_g (fun g_9 => ?_)
      have m_10 := Ag.st (k := (Int32.toNatClampNeg v8)) (v := (I6 114 59)) m_8 (show inW WX12_behind_b40 148 = true from rfl)
      refine Ok_g (fun g_11 => ?_)
      have m_12 := Ag.st (k := (Int32.toNatClampNeg v8)) (v := (I10 114 60)) m_10 (show inW WX12_behind_b40 149 = true from rfl)
      refine Ok_g (fun g_13 => ?_)
      have m_14 := Ag.st (k := (Int32.toNatClampNeg v8)) (v := (I12 114 61)) m_12 (show inW WX12_behind_b40 150 = true from rfl)
      refine Ok_g (fun g_15 => ?_)
      have m_16 := Ag.st (k := (Int32.toNatClampNeg v8)) (v := (I14 114 62)) m_14 (show inW WX12_behind_b40 151 = true from rfl)
      refine Ok_g (fun g_17 => ?_)
      have m_18 := Ag.st (k := (Int32.toNatClampNeg v8)) (v := (I16 114 63)) m_16 (show inW WX12_behind_b40 152 = true from rfl)
      refine Ok_g (fun g_19 => ?_)
      have m_20 := Ag.st (k := (Int32.toNatClampNeg v8)) (v := (I18 114 64)) m_18 (show inW WX12_behind_b40 153 = true from rfl)
      have m_21 := Ag.st (k := 59) (v := (0 : Int32)) m_20 (show inW WX12_behind_b40 114 = true from rfl)
      have m_22 := Ag.st (k := 68) (v := ((I21 114 68) + (1 : Int32))) m_21 (show inW WX12_behind_b40 114 = true from rfl)
      have m_23 := Ag.st (k := 58) (v := (x3 + (1 : Int32))) m_22 (show inW WX12_behind_b40 114 = true from rfl)
      exact Ok_s m_23
    · exact Ok_s m_2
def WX12_behind_l2 : List (Nat × Nat) := [(114, 115), (143, 144), (144, 145), (145, 146), (146, 147), (147, 148), (148, 149), (149, 150), (150, 151), (151, 152), (152, 153), (153, 154)]
theorem aX12_behind_l2 {σ : Shp} {R : Nat → Nat → Option Nat} : ∀ (n : Nat) (I : Nat → Nat → Int32) (x1 : Int32) (x3 : Int32), Ok (gX12_behind_l2 σ R n I x1 x3) (fun r => Ag WX12_behind_l2 I r) := by
  intro n
  induction n with
  | zero => intro I x1 x3; exact Ok_e rfl
  | succ n ih =>
    intro I x1 x3
    rw [gX12_behind_l2]
    refine Ok_g (fun g_1 => ?_)
    refine Ok_i (fun g_2 => ?_) (fun _ => ?_)
    · exact Ok_m (aX12_behind_b40) (fun _ hr => (Ag.tr Ag.rf (Ag.mo rfl hr)))
    · refine Ok_g (fun g_3 => ?_)
      refine Ok_i (fun g_4 => ?_) (fun _ => ?_)
      · refine Ok_t ?_
        intro r25
        exact Ok_m (ih _ _ _) (fun _ hr => (Ag.tr Ag.rf (Ag.mo rfl hr)))
      · exact Ok_m (aX12_behind_b40) (fun _ hr => (Ag.tr Ag.rf (Ag.mo rfl hr)))
def WX12_behind : List (Nat × Nat) := [(114, 115), (143, 144), (144, 145), (145, 146), (146, 147), (147, 148), (148, 149), (149, 150), (150, 151), (151, 152), (152, 153), (153, 154)]
theorem aX12_behind {σ : Shp} {I : Nat → Nat → Int32} {R : Nat → Nat → Option Nat} {x1 : Int32} {x2 : Int32} : Ok (gX12_behind σ I R x1 x2) (fun r => Ag WX12_behind I r) := by
  unfold gX12_behind
  exact Ok_m (aX12_behind_l2  _ _ _ _) (fun _ hr => (Ag.tr Ag.rf (Ag.mo rfl hr)))
def WX12_close : List (Nat × Nat) := [(114, 115), (139, 140), (140, 141), (141, 142), (143, 144), (144, 145), (145, 146), (146, 147), (147, 148), (148, 149), (149, 150), (150, 151), (151, 152), (152, 153), (153, 154), (154, 155), (155, 156)]
theorem aX12_close {σ : Shp} {I : Nat → Nat → Int32} {J : Nat → Nat → Int64} {R : Nat → Nat → Option Nat} : Ok (gX12_close σ I J R) (fun r => Ag WX12_close I r.1 ∧ Ag WX12_close J r.2) := by
  unfold gX12_close
  refine Ok_g (fun g_1 => ?_)
  refine Ok_b (aX12_giveBack) ?_
  intro rr hr
  obtain ⟨I4, J5⟩ := rr
  obtain ⟨h_2, h_3⟩ := hr
  have m_4 : Ag WX12_close I I4 := Ag.tr Ag.rf (Ag.mo rfl h_2)
  have m_5 : Ag WX12_close J J5 := Ag.tr Ag.rf (Ag.mo rfl h_3)
  have m_6 := Ag.st (k := 42) (v := ((I4 114 42) - (1 : Int32))) m_4 (show inW WX12_close 114 = true from rfl)
  refine Ok_i (fun g_7 => ?_) (fun _ => ?_)
  · refine Ok_b (aX12_behind) ?_
    intro I33 hr
    have h_8 := hr
    have m_9 : Ag WX12_close I I33 := Ag.tr m_6 (Ag.mo rfl h_8)
    exact Ok_s ⟨m_9, m_5⟩
  · refine Ok_i (fun g_10 => ?_) (fun _ => ?_)
    · refine Ok_b (aX12_behind) ?_
      intro I31 hr
      have h_11 := hr
      have m_12 : Ag WX12_close I I31 := Ag.tr m_6 (Ag.mo rfl h_11)
      exact Ok_s ⟨m_12, m_5⟩
    · refine Ok_i (fun g_13 => ?_) (fun _ => ?_)
      · have m_14 := Ag.st (k := 58) (v := (v8 + (1 : Int32))) m_6 (show inW WX12_close 114 = true from rfl)
        refine Ok_g (fun g_15 => ?_)
        have m_16 := Ag.st (k := 59) (v := (I18 148 (Int32.toNatClampNeg v1))) m_14 (show inW WX12_close 114 = true from rfl)
        refine Ok_g (fun g_17 => ?_)
        have m_18 := Ag.st (k := 60) (v := (I20 149 (Int32.toNatClampNeg v1))) m_16 (show inW WX12_close 114 = true from rfl)
        refine Ok_g (fun g_19 => ?_)
        have m_20 := Ag.st (k := 61) (v := (I22 150 (Int32.toNatClampNeg v1))) m_18 (show inW WX12_close 114 = true from rfl)
        refine Ok_g (fun g_21 => ?_)
        have m_22 := Ag.st (k := 62) (v := (I24 151 (Int32.toNatClampNeg v1))) m_20 (show inW WX12_close 114 = true from rfl)
        refine Ok_g (fun g_23 => ?_)
        have m_24 := Ag.st (k := 63) (v := (I26 152 (Int32.toNatClampNeg v1))) m_22 (show inW WX12_close 114 = true from rfl)
        refine Ok_g (fun g_25 => ?_)
        have m_26 := Ag.st (k := 64) (v := (I28 153 (Int32.toNatClampNeg v1))) m_24 (show inW WX12_close 114 = true from rfl)
        exact Ok_s ⟨m_26, m_5⟩
      · refine Ok_i (fun g_27 => ?_) (fun _ => ?_)
        · have m_28 := Ag.st (k := 58) (v := (v8 + (1 : Int32))) m_6 (show inW WX12_close 114 = true from rfl)
          exact Ok_s ⟨m_28, m_5⟩
        · refine Ok_i (fun g_29 => ?_) (fun _ => ?_)
          · refine Ok_g (fun g_30 => ?_)
            have m_31 := Ag.st (k := 58) (v := (I7 145 (Int32.toNatClampNeg v1))) m_6 (show inW WX12_close 114 = true from rfl)
            exact Ok_s ⟨m_31, m_5⟩
          · have m_32 := Ag.st (k := 58) (v := (v8 + (1 : Int32))) m_6 (show inW WX12_close 114 = true from rfl)
            exact Ok_s ⟨m_32, m_5⟩
def WX12_isMet_b62 : List (Nat × Nat) := [(114, 115), (143, 144), (144, 145), (145, 146), (146, 147), (147, 148), (149, 150)]
theorem aX12_isMet_b62 {σ : Shp} {R : Nat → Nat → Option Nat} {I : Nat → Nat → Int32} {x1 : Int32} {x3 : Int32} : Ok (gX12_isMet_b62 σ R I x1 x3) (fun r => Ag WX12_isMet_b62 I r.1) := by
  unfold gX12_isMet_b62
  have m_1 := Ag.st (k := 57) (v := x1) Ag.rf (show inW WX12_isMet_b62 114 = true from rfl)
  have m_2 := Ag.st (k := 58) (v := x3) m_1 (show inW WX12_isMet_b62 114 = true from rfl)
  refine Ok_b (aX12_push) ?_
  intro I10 hr
  have h_3 := hr
  have m_4 : Ag WX12_isMet_b62 I I10 := Ag.tr m_2 (Ag.mo rfl h_3)
  refine Ok_g (fun g_5 => ?_)
  have m_6 := Ag.st (k := (Int32.toNatClampNeg ((I10 114 42) - (1 : Int32)))) (v := (I10 114 60)) m_4 (show inW WX12_isMet_b62 149 = true from rfl)
  have m_7 := Ag.st (k := 67) (v := ((I13 114 67) + (1 : Int32))) m_6 (show inW WX12_isMet_b62 114 = true from rfl)
  have m_8 := Ag.st (k := 59) (v := (0 : Int32)) m_7 (show inW WX12_isMet_b62 114 = true from rfl)
  have m_9 := Ag.st (k := 58) (v := ((I15 114 58) + (1 : Int32))) m_8 (show inW WX12_isMet_b62 114 = true from rfl)
  exact Ok_s m_9
def WX12_isMet_l9 : List (Nat × Nat) := [(114, 115), (143, 144), (144, 145), (145, 146), (146, 147), (147, 148), (149, 150)]
theorem aX12_isMet_l9 {σ : Shp} {R : Nat → Nat → Option Nat} : ∀ (n : Nat) (I : Nat → Nat → Int32) (x1 : Int32) (x3 : Int32), Ok (gX12_isMet_l9 σ R n I x1 x3) (fun r => Ag WX12_isMet_l9 I r.1) := by
  intro n
  induction n with
  | zero => intro I x1 x3; exact Ok_e rfl
  | succ n ih =>
    intro I x1 x3
    rw [gX12_isMet_l9]
    refine Ok_g (fun g_1 => ?_)
    refine Ok_i (fun g_2 => ?_) (fun _ => ?_)
    · exact Ok_s Ag.rf
    · refine Ok_g (fun g_3 => ?_)
      refine Ok_i (fun g_4 => ?_) (fun _ => ?_)
      · refine Ok_g (fun g_5 => ?_)
        refine Ok_i (fun g_6 => ?_) (fun _ => ?_)
        · exact Ok_m (aX12_isMet_b62) (fun _ hr => (Ag.tr Ag.rf (Ag.mo rfl hr)))
        · refine Ok_i (fun g_7 => ?_) (fun _ => ?_)
          · exact Ok_m (aX12_isMet_b62) (fun _ hr => (Ag.tr Ag.rf (Ag.mo rfl hr)))
          · refine Ok_t ?_
            intro r17
            exact Ok_m (ih _ _ _) (fun _ hr => (Ag.tr Ag.rf (Ag.mo rfl hr)))
      · exact Ok_s Ag.rf
def WX12_isMet : List (Nat × Nat) := [(114, 115), (143, 144), (144, 145), (145, 146), (146, 147), (147, 148), (149, 150)]
theorem aX12_isMet {σ : Shp} {I : Nat → Nat → Int32} {R : Nat → Nat → Option Nat} {x1 : Int32} {x2 : Int32} : Ok (gX12_isMet σ I R x1 x2) (fun r => Ag WX12_isMet I r.1) := by
  unfold gX12_isMet
  refine Ok_t ?_
  intro r1
  exact Ok_m (aX12_isMet_l9  _ _ _ _) (fun _ hr => (Ag.tr Ag.rf (Ag.mo rfl hr)))
def WX12_again : List (Nat × Nat) := [(114, 115), (147, 148)]
theorem aX12_again {I : Nat → Nat → Int32} {x1 : Int32} : Ok (gX12_again I x1) (fun r => Ag WX12_again I r) := by
  unfold gX12_again
  refine Ok_g (fun g_1 => ?_)
  refine Ok_g (fun g_2 => ?_)
  refine Ok_g (fun g_3 => ?_)
  refine Ok_i (fun g_4 => ?_) (fun _ => ?_)
  · refine Ok_g (fun g_5 => ?_)
    refine Ok_g (fun g_6 => ?_)
    refine Ok_i (fun g_7 => ?_) (fun _ => ?_)
    · exact Ok_s Ag.rf
    · refine Ok_b (aX12_isStep) ?_
      intro rr hr
      obtain ⟨I7, r8⟩ := rr
      have h_8 := hr
      have m_9 : Ag WX12_again I I7 := Ag.tr Ag.rf (Ag.mo rfl h_8)
      refine Ok_i (fun g_10 => ?_) (fun _ => ?_)
      · exact Ok_s m_9
      · have m_11 := Ag.st (k := (Int32.toNatClampNeg x1)) (v := ((I7 147 (Int32.toNatClampNeg x1)) + (1 : Int32))) m_9 (show inW WX12_again 147 = true from rfl)
        have m_12 := Ag.st (k := 42) (v := ((I10 114 42) + (1 : Int32))) m_11 (show inW WX12_again 114 = true from rfl)
        have m_13 := Ag.st (k := 59) (v := (0 : Int32)) m_12 (show inW WX12_again 114 = true from rfl)
        have m_14 := Ag.st (k := 57) (v := (I12 144 (Int32.toNatClampNeg x1))) m_13 (show inW WX12_again 114 = true from rfl)
        have m_15 := Ag.st (k := 58) (v := ((I13 145 (Int32.toNatClampNeg x1)) + (1 : Int32))) m_14 (show inW WX12_again 114 = true from rfl)
        exact Ok_s m_15
  · exact Ok_s Ag.rf
def WX12_leave_b47 : List (Nat × Nat) := [(114, 115), (143, 144), (144, 145), (145, 146), (146, 147), (147, 148), (148, 149), (149, 150), (150, 151), (151, 152), (152, 153), (153, 154)]
theorem aX12_leave_b47 {σ : Shp} {R : Nat → Nat → Option Nat} {I : Nat → Nat → Int32} {x1 : Int32} {x3 : Int32} : Ok (gX12_leave_b47 σ R I x1 x3) (fun r => Ag WX12_leave_b47 I r) := by
  unfold gX12_leave_b47
  refine Ok_g (fun g_1 => ?_)
  refine Ok_i (fun g_2 => ?_) (fun _ => ?_)
  · exact Ok_s Ag.rf
  · refine Ok_g (fun g_3 => ?_)
    refine Ok_i (fun g_4 => ?_) (fun _ => ?_)
    · refine Ok_b (aX12_behind) ?_
      intro I7 hr
      have h_5 := hr
      have m_6 : Ag WX12_leave_b47 I I7 := Ag.tr Ag.rf (Ag.mo rfl h_5)
      exact Ok_s m_6
    · exact Ok_s Ag.rf
