theorem aX11_compare {σ : Shp} {I : Nat → Nat → Int32} {J : Nat → Nat → Int64} {R : Nat → Nat → Option Nat} {x1 : Int32} {x2 : Int32} {x3 : Int32} {x4 : Int32} {x5 : Int32} : Ok (gX11_compare σ I J R x1 x2 x3 x4 x5) (fun r => Ag FwX11_compare I r.1) := by
  unfold gX11_compare
  refine Ok_i (fun g_1 => ?_) (fun _ => ?_)
  · exact Ok_m (aX11_compare_b12) (fun _ hr => (Ag.tr (Ag.rf (f := I)) (Ag.mo rfl hr)))
  · refine Ok_i (fun g_2 => ?_) (fun _ => ?_)
    · exact Ok_m (aX11_compare_b12) (fun _ hr => (Ag.tr (Ag.rf (f := I)) (Ag.mo rfl hr)))
    · exact Ok_s (Ag.rf (f := I))
theorem aX11_gatherNumbers_l5 {σ : Shp} {R : Nat → Nat → Option Nat} : ∀ (n : Nat) (J : Nat → Nat → Int64) (x1 : Option Nat) (x2 : Int32) (x3 : Int32) (x4 : Int32), Ok (gX11_gatherNumbers_l5 σ R n J x1 x2 x3 x4) (fun r => Ag FwX11_gatherNumbers_l5 J r.1) := by
  intro n
  induction n with
  | zero => intro J x1 x2 x3 x4; exact Ok_e rfl
  | succ n ih =>
    intro J x1 x2 x3 x4
    rw [gX11_gatherNumbers_l5]
    refine Ok_bc (fun a1 e_1 => ?_)
    refine Ok_g (fun g_2 => ?_)
    refine Ok_bc (fun a3 e_3 => ?_)
    refine Ok_g (fun g_4 => ?_)
    refine Ok_i (fun g_5 => ?_) (fun _ => ?_)
    · exact Ok_s (Ag.rf (f := J))
    · refine Ok_i (fun g_6 => ?_) (fun _ => ?_)
      · exact Ok_s (Ag.rf (f := J))
      · refine Ok_g (fun g_7 => ?_)
        refine Ok_i (fun g_8 => ?_) (fun _ => ?_)
        · exact Ok_m (ih _ _ _ _ _) (fun _ hr => (Ag.tr (Ag.rf (f := J)) (Ag.mo rfl hr)))
        · refine Ok_g (fun g_9 => ?_)
          exact Ok_m (ih _ _ _ _ _) (fun _ hr => (Ag.tr (Ag.st (Ag.rf (f := J)) (keyo (L := [(112, 113)]) (M := FwX11_gatherNumbers_l5) rfl rfl (show inW [(112, 113)] 112 = true from rfl))) (Ag.mo rfl hr)))
theorem aX11_gatherNumbers {σ : Shp} {J : Nat → Nat → Int64} {R : Nat → Nat → Option Nat} {x1 : Option Nat} {x2 : Int32} : Ok (gX11_gatherNumbers σ J R x1 x2) (fun r => Ag FwX11_gatherNumbers J r.1) := by
  unfold gX11_gatherNumbers
  exact Ok_m (aX11_gatherNumbers_l5  _ _ _ _ _ _) (fun _ hr => (Ag.tr (Ag.rf (f := J)) (Ag.mo rfl hr)))
theorem aX11_real_b12 {σ : Shp} {R : Nat → Nat → Option Nat} {I : Nat → Nat → Int32} {J : Nat → Nat → Int64} {x1 : Int32} {x2 : Int32} {x3 : Int32} : Ok (gX11_real_b12 σ R I J x1 x2 x3) (fun r => Ag FwX11_real_b12 I r.1 ∧ Ag FwX11_real_b12 J r.2.1) := by
  unfold gX11_real_b12
  refine Ok_i (fun g_1 => ?_) (fun _ => ?_)
  · exact Ok_s ⟨(Ag.rf (f := I)), (Ag.rf (f := J))⟩
  · refine Ok_i (fun g_2 => ?_) (fun _ => ?_)
    · exact Ok_s ⟨(Ag.rf (f := I)), (Ag.rf (f := J))⟩
    · refine Ok_i (fun g_3 => ?_) (fun _ => ?_)
      · refine Ok_g (fun g_4 => ?_)
        refine Ok_t ?_
        intro r3
        refine Ok_i (fun g_5 => ?_) (fun _ => ?_)
        · refine Ok_o (fun _ => ?_) (fun a8 e_6 => ?_)
          · refine Ok_b (aX11_fail) ?_
            intro rr hr
            obtain ⟨I9, r10⟩ := rr
            have h_7 := hr
            have m_8 : Ag FwX11_real_b12 I I9 := Ag.tr (Ag.rf (f := I)) (Ag.mo rfl h_7)
            exact Ok_s ⟨m_8, (Ag.rf (f := J))⟩
          · refine Ok_b (aX11_gatherNumbers) ?_
            intro rr hr
            obtain ⟨J12, r13⟩ := rr
            have h_9 := hr
            have m_10 : Ag FwX11_real_b12 J J12 := Ag.tr (Ag.rf (f := J)) (Ag.mo rfl h_9)
            refine Ok_i (fun g_11 => ?_) (fun _ => ?_)
            · exact Ok_s ⟨(Ag.rf (f := I)), m_10⟩
            · refine Ok_i (fun g_12 => ?_) (fun _ => ?_)
              · refine Ok_t ?_
                intro r22
                exact Ok_s ⟨(Ag.rf (f := I)), m_10⟩
              · refine Ok_b (aX11_sortByOrder ⟨_, rfl, (show inW [(56, 57), (112, 113)] 112 = true from rfl)⟩) ?_
                intro J15 hr
                have h_13 := hr
                have m_14 : Ag FwX11_real_b12 J J15 := Ag.tr m_10 (Ag.mo rfl h_13)
                refine Ok_i (fun g_15 => ?_) (fun _ => ?_)
                · refine Ok_g (fun g_16 => ?_)
                  exact Ok_s ⟨(Ag.rf (f := I)), m_14⟩
                · refine Ok_i (fun g_17 => ?_) (fun _ => ?_)
                  · refine Ok_g (fun g_18 => ?_)
                    exact Ok_s ⟨(Ag.rf (f := I)), m_14⟩
                  · refine Ok_g (fun g_19 => ?_)
                    exact Ok_s ⟨(Ag.rf (f := I)), m_14⟩
        · refine Ok_b (aX11_fail) ?_
          intro rr hr
          obtain ⟨I5, r6⟩ := rr
          have h_20 := hr
          have m_21 : Ag FwX11_real_b12 I I5 := Ag.tr (Ag.rf (f := I)) (Ag.mo rfl h_20)
          exact Ok_s ⟨m_21, (Ag.rf (f := J))⟩
      · exact Ok_s ⟨(Ag.rf (f := I)), (Ag.rf (f := J))⟩
theorem aX11_real {σ : Shp} {I : Nat → Nat → Int32} {J : Nat → Nat → Int64} {R : Nat → Nat → Option Nat} {x1 : Int32} {x2 : Int32} {x3 : Int32} : Ok (gX11_real σ I J R x1 x2 x3) (fun r => Ag FwX11_real I r.1 ∧ Ag FwX11_real J r.2.1) := by
  unfold gX11_real
  refine Ok_i (fun g_1 => ?_) (fun _ => ?_)
  · exact Ok_m (aX11_real_b12) (fun _ ⟨h0, h1⟩ => ⟨(Ag.tr (Ag.rf (f := I)) (Ag.mo rfl h0)), (Ag.tr (Ag.rf (f := J)) (Ag.mo rfl h1))⟩)
  · refine Ok_i (fun g_2 => ?_) (fun _ => ?_)
    · exact Ok_m (aX11_real_b12) (fun _ ⟨h0, h1⟩ => ⟨(Ag.tr (Ag.rf (f := I)) (Ag.mo rfl h0)), (Ag.tr (Ag.rf (f := J)) (Ag.mo rfl h1))⟩)
    · exact Ok_s ⟨(Ag.rf (f := I)), (Ag.rf (f := J))⟩
theorem aX11_wholeMean_l62 {σ : Shp} {J : Nat → Nat → Int64} {R : Nat → Nat → Option Nat} : ∀ (n : Nat) (I : Nat → Nat → Int32) (x2 : Option Nat) (x4 : Int32) (x5 : Int64) (x7 : Int32), Ok (gX11_wholeMean_l62 σ J R n I x2 x4 x5 x7) (fun r => Ag FwX11_wholeMean_l62 I r.1) := by
  intro n
  induction n with
  | zero => intro I x2 x4 x5 x7; exact Ok_e rfl
  | succ n ih =>
    intro I x2 x4 x5 x7
    rw [gX11_wholeMean_l62]
    refine Ok_i (fun g_1 => ?_) (fun _ => ?_)
    · refine Ok_g (fun g_2 => ?_)
      exact Ok_s (Ag.st (Ag.rf (f := I)) (show inW FwX11_wholeMean_l62 (key 4 18) = true from rfl))
    · refine Ok_bc (fun a18 e_4 => ?_)
      refine Ok_g (fun g_5 => ?_)
      refine Ok_bc (fun a20 e_6 => ?_)
      refine Ok_g (fun g_7 => ?_)
      refine Ok_g (fun g_8 => ?_)
      exact Ok_m (ih _ _ _ _ _) (fun _ hr => (Ag.tr (Ag.rf (f := I)) (Ag.mo rfl hr)))
theorem aX11_wholeMean {σ : Shp} {I : Nat → Nat → Int32} {J : Nat → Nat → Int64} {R : Nat → Nat → Option Nat} {x1 : Int32} : Ok (gX11_wholeMean σ I J R x1) (fun r => Ag FwX11_wholeMean I r.1) := by
  unfold gX11_wholeMean
  refine Ok_i (fun g_1 => ?_) (fun _ => ?_)
  · exact Ok_s (Ag.rf (f := I))
  · refine Ok_g (fun g_2 => ?_)
    refine Ok_t ?_
    intro r3
    refine Ok_i (fun g_3 => ?_) (fun _ => ?_)
    · refine Ok_o (fun _ => ?_) (fun a8 e_4 => ?_)
      · refine Ok_b (aX11_fail) ?_
        intro rr hr
        obtain ⟨I9, r10⟩ := rr
        have h_5 := hr
        have m_6 : Ag FwX11_wholeMean I I9 := Ag.tr (Ag.rf (f := I)) (Ag.mo rfl h_5)
        exact Ok_s m_6
      · refine Ok_g (fun g_7 => ?_)
        refine Ok_bc (fun a13 e_8 => ?_)
        refine Ok_g (fun g_9 => ?_)
        refine Ok_i (fun g_10 => ?_) (fun _ => ?_)
        · refine Ok_b (aX11_fail) ?_
          intro rr hr
          obtain ⟨I25, r26⟩ := rr
          have h_11 := hr
          have m_12 : Ag FwX11_wholeMean I I25 := Ag.tr (Ag.rf (f := I)) (Ag.mo rfl h_11)
          exact Ok_s m_12
        · exact Ok_m (aX11_wholeMean_l62  _ _ _ _ _ _) (fun _ hr => (Ag.tr (Ag.rf (f := I)) (Ag.mo rfl hr)))
    · refine Ok_b (aX11_fail) ?_
      intro rr hr
      obtain ⟨I5, r6⟩ := rr
      have h_13 := hr
      have m_14 : Ag FwX11_wholeMean I I5 := Ag.tr (Ag.rf (f := I)) (Ag.mo rfl h_13)
      exact Ok_s m_14
theorem aX11_salt {I : Nat → Nat → Int32} {x1 : Int32} {x2 : Int32} {x3 : Int32} : Ok (gX11_salt I x1 x2 x3) (fun r => Ag FwX11_salt I r.1) := by
  unfold gX11_salt
  refine Ok_i (fun g_1 => ?_) (fun _ => ?_)
  · exact Ok_s (Ag.rf (f := I))
  · refine Ok_i (fun g_2 => ?_) (fun _ => ?_)
    · exact Ok_s (Ag.rf (f := I))
    · refine Ok_i (fun g_3 => ?_) (fun _ => ?_)
      · exact Ok_s (Ag.rf (f := I))
      · refine Ok_i (fun g_4 => ?_) (fun _ => ?_)
        · exact Ok_s (Ag.rf (f := I))
        · refine Ok_i (fun g_5 => ?_) (fun _ => ?_)
          · exact Ok_s (Ag.rf (f := I))
          · refine Ok_i (fun g_6 => ?_) (fun _ => ?_)
            · refine Ok_i (fun g_7 => ?_) (fun _ => ?_)
              · refine Ok_b (aX2_becomes) ?_
                intro rr hr
                obtain ⟨I1, r2⟩ := rr
                have h_8 := hr
                have m_9 : Ag FwX11_salt I I1 := Ag.tr (Ag.rf (f := I)) (Ag.mo rfl h_8)
                exact Ok_s m_9
              · exact Ok_s (Ag.rf (f := I))
            · refine Ok_i (fun g_10 => ?_) (fun _ => ?_)
              · refine Ok_b (aX2_becomes) ?_
                intro rr hr
                obtain ⟨I4, r5⟩ := rr
                have h_11 := hr
                have m_12 : Ag FwX11_salt I I4 := Ag.tr (Ag.rf (f := I)) (Ag.mo rfl h_11)
                exact Ok_s m_12
              · exact Ok_s (Ag.rf (f := I))
theorem aX11_work {σ : Shp} {I : Nat → Nat → Int32} {J : Nat → Nat → Int64} {R : Nat → Nat → Option Nat} : Ok (gX11_work σ I J R) (fun r => Ag FwX11_work I r.1 ∧ Ag FwX11_work J r.2.1) := by
  unfold gX11_work
  refine Ok_b (aX2_solved) ?_
  intro rr hr
  obtain ⟨I1, J2, r3⟩ := rr
  obtain ⟨h_1, h_2⟩ := hr
  have m_3 : Ag FwX11_work I I1 := Ag.tr (Ag.rf (f := I)) (Ag.mo rfl h_1)
  have m_4 : Ag FwX11_work J J2 := Ag.tr (Ag.rf (f := J)) (Ag.mo rfl h_2)
  exact Ok_s ⟨m_3, m_4⟩
theorem aX11_count {J : Nat → Nat → Int64} {x1 : Int32} {x2 : Int32} {x3 : Int32} : Ok (gX11_count J x1 x2 x3) (fun r => Ag FwX11_count J r.1) := by
  unfold gX11_count
  refine Ok_i (fun g_1 => ?_) (fun _ => ?_)
  · exact Ok_s (Ag.rf (f := J))
  · refine Ok_i (fun g_2 => ?_) (fun _ => ?_)
    · exact Ok_s (Ag.rf (f := J))
    · refine Ok_i (fun g_3 => ?_) (fun _ => ?_)
      · exact Ok_s (Ag.rf (f := J))
      · refine Ok_i (fun g_4 => ?_) (fun _ => ?_)
        · refine Ok_g (fun g_5 => ?_)
          refine Ok_g (fun g_6 => ?_)
          exact Ok_s (Ag.st (Ag.rf (f := J)) (keyo (L := [(93, 95)]) (M := FwX11_count) rfl rfl (inW_r (L := [(93, 95)]) (lo := 93) (n := 2) rfl (rowi g_5))))
        · exact Ok_s (Ag.rf (f := J))
theorem aX11_parts {I : Nat → Nat → Int32} {x1 : Int32} {x2 : Int32} {x3 : Int32} {x4 : Int32} {x5 : Int32} : Ok (gX11_parts I x1 x2 x3 x4 x5) (fun r => Ag FwX11_parts I r.1) := by
  unfold gX11_parts
  refine Ok_i (fun g_1 => ?_) (fun _ => ?_)
  · exact Ok_s (Ag.rf (f := I))
  · refine Ok_i (fun g_2 => ?_) (fun _ => ?_)
    · exact Ok_s (Ag.rf (f := I))
    · refine Ok_i (fun g_3 => ?_) (fun _ => ?_)
      · exact Ok_s (Ag.rf (f := I))
      · refine Ok_i (fun g_4 => ?_) (fun _ => ?_)
        · exact Ok_s (Ag.rf (f := I))
        · refine Ok_i (fun g_5 => ?_) (fun _ => ?_)
          · exact Ok_s (Ag.rf (f := I))
          · refine Ok_b (aX5_setParts) ?_
            intro I1 hr
            have h_6 := hr
            have m_7 : Ag FwX11_parts I I1 := Ag.tr (Ag.rf (f := I)) (Ag.mo rfl h_6)
            exact Ok_s m_7
theorem aX11_day_l34 {σ : Shp} {R : Nat → Nat → Option Nat} : ∀ (n : Nat) (I : Nat → Nat → Int32) (J : Nat → Nat → Int64) (x1 : Int32) (x2 : Int32), Ok (gX11_day_l34 σ R n I J x1 x2) (fun r => Ag FwX11_day_l34 I r.1 ∧ Ag FwX11_day_l34 J r.2.1) := by
  intro n
  induction n with
  | zero => intro I J x1 x2; exact Ok_e rfl
  | succ n ih =>
    intro I J x1 x2
    rw [gX11_day_l34]
    refine Ok_i (fun g_1 => ?_) (fun _ => ?_)
    · exact Ok_s ⟨(Ag.rf (f := I)), (Ag.rf (f := J))⟩
    · refine Ok_b (aX5_passDay) ?_
      intro rr hr
      obtain ⟨I1, J2⟩ := rr
      obtain ⟨h_2, h_3⟩ := hr
      have m_4 : Ag FwX11_day_l34 I I1 := Ag.tr (Ag.rf (f := I)) (Ag.mo rfl h_2)
      have m_5 : Ag FwX11_day_l34 J J2 := Ag.tr (Ag.rf (f := J)) (Ag.mo rfl h_3)
      exact Ok_m (ih _ _ _ _) (fun _ ⟨h0, h1⟩ => ⟨(Ag.tr m_4 (Ag.mo rfl h0)), (Ag.tr m_5 (Ag.mo rfl h1))⟩)
theorem aX11_day {σ : Shp} {I : Nat → Nat → Int32} {J : Nat → Nat → Int64} {R : Nat → Nat → Option Nat} {x1 : Int32} : Ok (gX11_day σ I J R x1) (fun r => Ag FwX11_day I r.1 ∧ Ag FwX11_day J r.2.1) := by
  unfold gX11_day
  refine Ok_i (fun g_1 => ?_) (fun _ => ?_)
  · exact Ok_s ⟨(Ag.rf (f := I)), (Ag.rf (f := J))⟩
  · refine Ok_i (fun g_2 => ?_) (fun _ => ?_)
    · refine Ok_i (fun g_3 => ?_) (fun _ => ?_)
      · exact Ok_m (aX11_day_l34  _ _ _ _ _) (fun _ ⟨h0, h1⟩ => ⟨(Ag.tr (Ag.rf (f := I)) (Ag.mo rfl h0)), (Ag.tr (Ag.rf (f := J)) (Ag.mo rfl h1))⟩)
      · exact Ok_s ⟨(Ag.rf (f := I)), (Ag.rf (f := J))⟩
    · exact Ok_s ⟨(Ag.rf (f := I)), (Ag.rf (f := J))⟩
theorem aX11_spray {σ : Shp} {I : Nat → Nat → Int32} {J : Nat → Nat → Int64} {R : Nat → Nat → Option Nat} {x1 : Int32} : Ok (gX11_spray σ I J R x1) (fun r => Ag FwX11_spray I r.1 ∧ Ag FwX11_spray J r.2.1) := by
  unfold gX11_spray
  refine Ok_i (fun g_1 => ?_) (fun _ => ?_)
  · exact Ok_s ⟨(Ag.rf (f := I)), (Ag.rf (f := J))⟩
  · refine Ok_b (aX5_lessen) ?_
    intro rr hr
    obtain ⟨I1, J2⟩ := rr
    obtain ⟨h_2, h_3⟩ := hr
    have m_4 : Ag FwX11_spray I I1 := Ag.tr (Ag.rf (f := I)) (Ag.mo rfl h_2)
    have m_5 : Ag FwX11_spray J J2 := Ag.tr (Ag.rf (f := J)) (Ag.mo rfl h_3)
    exact Ok_s ⟨m_4, m_5⟩
theorem aX11_write {σ : Shp} {I : Nat → Nat → Int32} {J : Nat → Nat → Int64} {R : Nat → Nat → Option Nat} {x1 : Int32} : Ok (gX11_write σ I J R x1) (fun r => Ag FwX11_write I r.1) := by
  unfold gX11_write
  refine Ok_i (fun g_1 => ?_) (fun _ => ?_)
  · exact Ok_s (Ag.rf (f := I))
  · refine Ok_g (fun g_2 => ?_)
    refine Ok_o (fun _ => ?_) (fun a3 e_3 => ?_)
    · refine Ok_b (aX11_fail) ?_
      intro rr hr
      obtain ⟨I4, r5⟩ := rr
      have h_4 := hr
      have m_5 : Ag FwX11_write I I4 := Ag.tr (Ag.rf (f := I)) (Ag.mo rfl h_4)
      exact Ok_s m_5
    · refine Ok_g (fun g_6 => ?_)
      refine Ok_i (fun g_7 => ?_) (fun _ => ?_)
      · refine Ok_b (aX11_fail) ?_
        intro rr hr
        obtain ⟨I12, r13⟩ := rr
        have h_8 := hr
        have m_9 : Ag FwX11_write I I12 := Ag.tr (Ag.rf (f := I)) (Ag.mo rfl h_8)
        exact Ok_s m_9
      · refine Ok_bc (fun a8 e_10 => ?_)
        refine Ok_b (aX1_written) ?_
        intro rr hr
        obtain ⟨I9, r10⟩ := rr
        have h_11 := hr
        have m_12 : Ag FwX11_write I I9 := Ag.tr (Ag.rf (f := I)) (Ag.mo rfl h_11)
        exact Ok_s m_12
theorem aX11_power {I : Nat → Nat → Int32} {x1 : Int32} : Ok (gX11_power I x1) (fun r => Ag FwX11_power I r.1) := by
  unfold gX11_power
  refine Ok_i (fun g_1 => ?_) (fun _ => ?_)
  · exact Ok_s (Ag.rf (f := I))
  · refine Ok_i (fun g_2 => ?_) (fun _ => ?_)
    · refine Ok_b (aX1_powerSet) ?_
      intro rr hr
      obtain ⟨I1, r2⟩ := rr
      have h_3 := hr
      have m_4 : Ag FwX11_power I I1 := Ag.tr (Ag.rf (f := I)) (Ag.mo rfl h_3)
      exact Ok_s m_4
    · exact Ok_s (Ag.rf (f := I))
theorem aX11_open1 {σ : Shp} {I : Nat → Nat → Int32} {R : Nat → Nat → Option Nat} : Ok (gX11_open1 σ I R) (fun r => Ag FwX11_open1 I r.1) := by
  unfold gX11_open1
  refine Ok_b (aX1_opened) ?_
  intro rr hr
  obtain ⟨I1, r2⟩ := rr
  have h_1 := hr
  have m_2 : Ag FwX11_open1 I I1 := Ag.tr (Ag.rf (f := I)) (Ag.mo rfl h_1)
  exact Ok_s m_2
theorem aX11_page {σ : Shp} {I : Nat → Nat → Int32} {R : Nat → Nat → Option Nat} {x1 : Int32} {x2 : Int32} : Ok (gX11_page σ I R x1 x2) (fun r => Ag FwX11_page I r.1) := by
  unfold gX11_page
  refine Ok_b (aX1_readOf) ?_
  intro rr hr
  obtain ⟨I1, r2⟩ := rr
  have h_1 := hr
  have m_2 : Ag FwX11_page I I1 := Ag.tr (Ag.rf (f := I)) (Ag.mo rfl h_1)
  exact Ok_s m_2
theorem aX11_damage {I : Nat → Nat → Int32} {x1 : Int32} {x2 : Int32} {x3 : Int32} : Ok (gX11_damage I x1 x2 x3) (fun r => Ag FwX11_damage I r.1) := by
  unfold gX11_damage
  refine Ok_i (fun g_1 => ?_) (fun _ => ?_)
  · exact Ok_s (Ag.rf (f := I))
  · refine Ok_i (fun g_2 => ?_) (fun _ => ?_)
    · exact Ok_s (Ag.rf (f := I))
    · refine Ok_i (fun g_3 => ?_) (fun _ => ?_)
      · refine Ok_g (fun g_4 => ?_)
        exact Ok_s (Ag.st (Ag.rf (f := I)) (keyo (L := [(109, 110)]) (M := FwX11_damage) rfl rfl (show inW [(109, 110)] 109 = true from rfl)))
      · exact Ok_s (Ag.rf (f := I))
theorem aX11_told {σ : Shp} {I : Nat → Nat → Int32} {R : Nat → Nat → Option Nat} {x1 : Int32} : Ok (gX11_told σ I R x1) (fun r => Ag FwX11_told I r.1) := by
  unfold gX11_told
  refine Ok_i (fun g_1 => ?_) (fun _ => ?_)
  · exact Ok_s (Ag.rf (f := I))
  · refine Ok_i (fun g_2 => ?_) (fun _ => ?_)
    · exact Ok_s (Ag.rf (f := I))
    · refine Ok_i (fun g_3 => ?_) (fun _ => ?_)
      · exact Ok_s (Ag.rf (f := I))
      · refine Ok_i (fun g_4 => ?_) (fun _ => ?_)
        · exact Ok_s (Ag.rf (f := I))
        · refine Ok_i (fun g_5 => ?_) (fun _ => ?_)
          · exact Ok_s (Ag.rf (f := I))
          · refine Ok_i (fun g_6 => ?_) (fun _ => ?_)
            · refine Ok_i (fun g_7 => ?_) (fun _ => ?_)
              · exact Ok_s (Ag.rf (f := I))
              · exact Ok_s (Ag.rf (f := I))
            · refine Ok_i (fun g_8 => ?_) (fun _ => ?_)
              · refine Ok_t ?_
                intro r17
                exact Ok_s (Ag.rf (f := I))
              · refine Ok_i (fun g_9 => ?_) (fun _ => ?_)
                · exact Ok_s (Ag.rf (f := I))
                · refine Ok_i (fun g_10 => ?_) (fun _ => ?_)
                  · refine Ok_b (aX1_gatherRead) ?_
                    intro rr hr
                    obtain ⟨I14, r15⟩ := rr
                    have h_11 := hr
                    have m_12 : Ag FwX11_told I I14 := Ag.tr (Ag.rf (f := I)) (Ag.mo rfl h_11)
                    exact Ok_s m_12
                  · refine Ok_i (fun g_13 => ?_) (fun _ => ?_)
                    · refine Ok_t ?_
                      intro r12
                      exact Ok_s (Ag.rf (f := I))
                    · refine Ok_i (fun g_14 => ?_) (fun _ => ?_)
                      · exact Ok_s (Ag.rf (f := I))
                      · exact Ok_s (Ag.rf (f := I))
theorem aX12_no {I : Nat → Nat → Int32} {x1 : Int32} : Ok (gX12_no I x1) (fun r => Ag FwX12_no I r.1) := by
  unfold gX12_no
  exact Ok_s (Ag.st (Ag.st (Ag.rf (f := I)) (show inW FwX12_no (key 114 1) = true from rfl)) (show inW FwX12_no (key 114 2) = true from rfl))
theorem aX12_noBits {I : Nat → Nat → Int32} {x1 : Int32} : Ok (gX12_noBits I x1) (fun r => Ag FwX12_noBits I r.1) := by
  unfold gX12_noBits
  refine Ok_b (aX12_no) ?_
  intro rr hr
  obtain ⟨I1, r2⟩ := rr
  have h_1 := hr
  have m_2 : Ag FwX12_noBits I I1 := Ag.tr (Ag.rf (f := I)) (Ag.mo rfl h_1)
  exact Ok_s m_2
theorem aX12_thing {I : Nat → Nat → Int32} {x1 : Int32} {x2 : Int32} : Ok (gX12_thing I x1 x2) (fun r => Ag FwX12_thing I r.1) := by
  unfold gX12_thing
  refine Ok_g (fun g_2 => ?_)
  refine Ok_g (fun g_4 => ?_)
  exact Ok_s (Ag.st (Ag.st (Ag.st (Ag.rf (f := I)) (show inW FwX12_thing (key 114 0) = true from rfl)) (keyo (L := [(116, 117)]) (M := FwX12_thing) rfl rfl (show inW [(116, 117)] 116 = true from rfl))) (keyo (L := [(117, 118)]) (M := FwX12_thing) rfl rfl (show inW [(117, 118)] 117 = true from rfl)))
theorem aX12_newRow {I : Nat → Nat → Int32} {x1 : Int32} {x2 : Int32} : Ok (gX12_newRow I x1 x2) (fun r => Ag FwX12_newRow I r.1) := by
  unfold gX12_newRow
  refine Ok_b (aX12_thing) ?_
  intro rr hr
  obtain ⟨I1, r2⟩ := rr
  have h_1 := hr
  have m_2 : Ag FwX12_newRow I I1 := Ag.tr (Ag.rf (f := I)) (Ag.mo rfl h_1)
  refine Ok_g (fun g_3 => ?_)
  exact Ok_s (Ag.st (Ag.st m_2 (keyo (L := [(118, 119)]) (M := FwX12_newRow) rfl rfl (show inW [(118, 119)] 118 = true from rfl))) (show inW FwX12_newRow (key 114 7) = true from rfl))
theorem aX12_newPlaces {I : Nat → Nat → Int32} {x1 : Int32} {x2 : Int32} : Ok (gX12_newPlaces I x1 x2) (fun r => Ag FwX12_newPlaces I r.1) := by
  unfold gX12_newPlaces
  refine Ok_b (aX12_thing) ?_
  intro rr hr
  obtain ⟨I1, r2⟩ := rr
  have h_1 := hr
  have m_2 : Ag FwX12_newPlaces I I1 := Ag.tr (Ag.rf (f := I)) (Ag.mo rfl h_1)
  refine Ok_g (fun g_3 => ?_)
  exact Ok_s (Ag.st (Ag.st m_2 (keyo (L := [(118, 119)]) (M := FwX12_newPlaces) rfl rfl (show inW [(118, 119)] 118 = true from rfl))) (show inW FwX12_newPlaces (key 114 9) = true from rfl))
theorem aX12_row {I : Nat → Nat → Int32} {x1 : Int32} {x2 : Int32} {x3 : Int32} : Ok (gX12_row I x1 x2 x3) (fun r => Ag FwX12_row I r.1) := by
  unfold gX12_row
  refine Ok_i (fun g_1 => ?_) (fun _ => ?_)
  · exact Ok_s (Ag.rf (f := I))
  · refine Ok_i (fun g_2 => ?_) (fun _ => ?_)
    · exact Ok_s (Ag.rf (f := I))
    · refine Ok_i (fun g_3 => ?_) (fun _ => ?_)
      · refine Ok_t ?_
        intro r1
        refine Ok_i (fun g_4 => ?_) (fun _ => ?_)
        · refine Ok_i (fun g_5 => ?_) (fun _ => ?_)
          · refine Ok_b (aX12_newRow) ?_
            intro rr hr
            obtain ⟨I3, r4⟩ := rr
            have h_6 := hr
            have m_7 : Ag FwX12_row I I3 := Ag.tr (Ag.rf (f := I)) (Ag.mo rfl h_6)
            refine Ok_g (fun g_8 => ?_)
            exact Ok_s (Ag.st m_7 (keyo (L := [(115, 116)]) (M := FwX12_row) rfl rfl (show inW [(115, 116)] 115 = true from rfl)))
          · refine Ok_b (aX12_no) ?_
            intro rr hr
            obtain ⟨I8, r9⟩ := rr
            have h_10 := hr
            have m_11 : Ag FwX12_row I I8 := Ag.tr (Ag.rf (f := I)) (Ag.mo rfl h_10)
            exact Ok_s m_11
        · exact Ok_s (Ag.rf (f := I))
      · exact Ok_s (Ag.rf (f := I))
theorem aX12_grid_l75 {σ : Shp} {R : Nat → Nat → Option Nat} : ∀ (n : Nat) (I : Nat → Nat → Int32) (x1 : Int32) (x2 : Int32) (x3 : Int32) (x4 : Int32) (x5 : Int32) (x6 : Int32) (x7 : Int32), Ok (gX12_grid_l75 σ R n I x1 x2 x3 x4 x5 x6 x7) (fun r => Ag FwX12_grid_l75 I r.1) := by
  intro n
  induction n with
  | zero => intro I x1 x2 x3 x4 x5 x6 x7; exact Ok_e rfl
  | succ n ih =>
    intro I x1 x2 x3 x4 x5 x6 x7
    rw [gX12_grid_l75]
    refine Ok_i (fun g_1 => ?_) (fun _ => ?_)
    · refine Ok_g (fun g_2 => ?_)
      exact Ok_s (Ag.st (Ag.rf (f := I)) (keyo (L := [(115, 116)]) (M := FwX12_grid_l75) rfl rfl (show inW [(115, 116)] 115 = true from rfl)))
    · refine Ok_i (fun g_4 => ?_) (fun _ => ?_)
      · refine Ok_g (fun g_5 => ?_)
        refine Ok_b (aX12_newRow) ?_
        intro rr hr
        obtain ⟨I14, r15⟩ := rr
        have h_6 := hr
        have m_7 : Ag FwX12_grid_l75 I I14 := Ag.tr (Ag.rf (f := I)) (Ag.mo rfl h_6)
        refine Ok_g (fun g_8 => ?_)
        exact Ok_m (ih _ _ _ _ _ _ _ _) (fun _ hr => (Ag.tr (Ag.st m_7 (keyo (L := [(120, 121)]) (M := FwX12_grid_l75) rfl rfl (show inW [(120, 121)] 120 = true from rfl))) (Ag.mo rfl hr)))
      · refine Ok_g (fun g_10 => ?_)
        exact Ok_s (Ag.st (Ag.rf (f := I)) (keyo (L := [(115, 116)]) (M := FwX12_grid_l75) rfl rfl (show inW [(115, 116)] 115 = true from rfl)))
theorem aX12_grid {σ : Shp} {I : Nat → Nat → Int32} {R : Nat → Nat → Option Nat} {x1 : Int32} {x2 : Int32} {x3 : Int32} {x4 : Int32} {x5 : Int32} : Ok (gX12_grid σ I R x1 x2 x3 x4 x5) (fun r => Ag FwX12_grid I r.1) := by
  unfold gX12_grid
  refine Ok_i (fun g_1 => ?_) (fun _ => ?_)
  · exact Ok_s (Ag.rf (f := I))
  · refine Ok_i (fun g_2 => ?_) (fun _ => ?_)
    · exact Ok_s (Ag.rf (f := I))
    · refine Ok_i (fun g_3 => ?_) (fun _ => ?_)
      · exact Ok_s (Ag.rf (f := I))
      · refine Ok_i (fun g_4 => ?_) (fun _ => ?_)
        · refine Ok_t ?_
          intro r1
          refine Ok_i (fun g_5 => ?_) (fun _ => ?_)
          · refine Ok_i (fun g_6 => ?_) (fun _ => ?_)
            · refine Ok_b (aX12_no) ?_
              intro rr hr
              obtain ⟨I3, r4⟩ := rr
              have h_7 := hr
              have m_8 : Ag FwX12_grid I I3 := Ag.tr (Ag.rf (f := I)) (Ag.mo rfl h_7)
              exact Ok_s m_8
            · refine Ok_i (fun g_9 => ?_) (fun _ => ?_)
              · refine Ok_i (fun g_10 => ?_) (fun _ => ?_)
                · refine Ok_b (aX12_newPlaces) ?_
                  intro rr hr
                  obtain ⟨I20, r21⟩ := rr
                  have h_11 := hr
                  have m_12 : Ag FwX12_grid I I20 := Ag.tr (Ag.rf (f := I)) (Ag.mo rfl h_11)
                  exact Ok_m (aX12_grid_l75  _ _ _ _ _ _ _ _ _) (fun _ hr => (Ag.tr m_12 (Ag.mo rfl hr)))
                · refine Ok_b (aX12_no) ?_
                  intro rr hr
                  obtain ⟨I23, r24⟩ := rr
                  have h_13 := hr
                  have m_14 : Ag FwX12_grid I I23 := Ag.tr (Ag.rf (f := I)) (Ag.mo rfl h_13)
                  exact Ok_s m_14
              · refine Ok_b (aX12_newPlaces) ?_
                intro rr hr
                obtain ⟨I6, r7⟩ := rr
                have h_15 := hr
                have m_16 : Ag FwX12_grid I I6 := Ag.tr (Ag.rf (f := I)) (Ag.mo rfl h_15)
                exact Ok_m (aX12_grid_l75  _ _ _ _ _ _ _ _ _) (fun _ hr => (Ag.tr m_16 (Ag.mo rfl hr)))
          · exact Ok_s (Ag.rf (f := I))
        · exact Ok_s (Ag.rf (f := I))
theorem aX12_hollow {I : Nat → Nat → Int32} {x1 : Int32} {x2 : Int32} {x3 : Int32} {x4 : Int32} : Ok (gX12_hollow I x1 x2 x3 x4) (fun r => Ag FwX12_hollow I r.1) := by
  unfold gX12_hollow
  refine Ok_i (fun g_1 => ?_) (fun _ => ?_)
  · exact Ok_s (Ag.rf (f := I))
  · refine Ok_i (fun g_2 => ?_) (fun _ => ?_)
    · refine Ok_t ?_
      intro r1
      refine Ok_i (fun g_3 => ?_) (fun _ => ?_)
      · refine Ok_i (fun g_4 => ?_) (fun _ => ?_)
        · refine Ok_b (aX12_newPlaces) ?_
          intro rr hr
          obtain ⟨I3, r4⟩ := rr
          have h_5 := hr
          have m_6 : Ag FwX12_hollow I I3 := Ag.tr (Ag.rf (f := I)) (Ag.mo rfl h_5)
          refine Ok_g (fun g_7 => ?_)
          exact Ok_s (Ag.st m_6 (keyo (L := [(115, 116)]) (M := FwX12_hollow) rfl rfl (show inW [(115, 116)] 115 = true from rfl)))
        · refine Ok_b (aX12_no) ?_
          intro rr hr
          obtain ⟨I8, r9⟩ := rr
          have h_9 := hr
          have m_10 : Ag FwX12_hollow I I8 := Ag.tr (Ag.rf (f := I)) (Ag.mo rfl h_9)
          exact Ok_s m_10
      · exact Ok_s (Ag.rf (f := I))
    · exact Ok_s (Ag.rf (f := I))
theorem aX12_storeys {I : Nat → Nat → Int32} {x1 : Int32} {x2 : Int32} : Ok (gX12_storeys I x1 x2) (fun r => Ag FwX12_storeys I r.1) := by
  unfold gX12_storeys
  refine Ok_b (aX12_hollow) ?_
  intro rr hr
  obtain ⟨I1, r2⟩ := rr
  have h_1 := hr
  have m_2 : Ag FwX12_storeys I I1 := Ag.tr (Ag.rf (f := I)) (Ag.mo rfl h_1)
  exact Ok_s m_2
theorem aX12_tray {I : Nat → Nat → Int32} {x1 : Int32} {x2 : Int32} {x3 : Int32} : Ok (gX12_tray I x1 x2 x3) (fun r => Ag FwX12_tray I r.1) := by
  unfold gX12_tray
  refine Ok_i (fun g_1 => ?_) (fun _ => ?_)
  · exact Ok_s (Ag.rf (f := I))
  · refine Ok_b (aX12_hollow) ?_
    intro rr hr
    obtain ⟨I1, r2⟩ := rr
    have h_2 := hr
    have m_3 : Ag FwX12_tray I I1 := Ag.tr (Ag.rf (f := I)) (Ag.mo rfl h_2)
    exact Ok_s m_3
theorem aX12_share_b22 {σ : Shp} {R : Nat → Nat → Option Nat} {I : Nat → Nat → Int32} {x1 : Int32} {x2 : Int32} : Ok (gX12_share_b22 σ R I x1 x2) (fun r => Ag FwX12_share_b22 I r.1) := by
  unfold gX12_share_b22
  refine Ok_i (fun g_1 => ?_) (fun _ => ?_)
  · refine Ok_g (fun g_2 => ?_)
    exact Ok_s (Ag.st (Ag.rf (f := I)) (keyo (L := [(115, 116)]) (M := FwX12_share_b22) rfl rfl (show inW [(115, 116)] 115 = true from rfl)))
  · refine Ok_g (fun g_4 => ?_)
    refine Ok_g (fun g_5 => ?_)
    exact Ok_s (Ag.st (Ag.rf (f := I)) (keyo (L := [(115, 116)]) (M := FwX12_share_b22) rfl rfl (show inW [(115, 116)] 115 = true from rfl)))
theorem aX12_share {σ : Shp} {I : Nat → Nat → Int32} {R : Nat → Nat → Option Nat} {x1 : Int32} {x2 : Int32} : Ok (gX12_share σ I R x1 x2) (fun r => Ag FwX12_share I r.1) := by
  unfold gX12_share
  refine Ok_i (fun g_1 => ?_) (fun _ => ?_)
  · exact Ok_s (Ag.rf (f := I))
  · refine Ok_i (fun g_2 => ?_) (fun _ => ?_)
    · exact Ok_m (aX12_share_b22) (fun _ hr => (Ag.tr (Ag.rf (f := I)) (Ag.mo rfl hr)))
    · refine Ok_i (fun g_3 => ?_) (fun _ => ?_)
      · exact Ok_s (Ag.rf (f := I))
      · exact Ok_m (aX12_share_b22) (fun _ hr => (Ag.tr (Ag.rf (f := I)) (Ag.mo rfl hr)))
theorem aX12_get {I : Nat → Nat → Int32} {J : Nat → Nat → Int64} {x1 : Int32} {x2 : Int32} {x3 : Int32} : Ok (gX12_get I J x1 x2 x3) (fun r => Ag FwX12_get I r.1) := by
  unfold gX12_get
  refine Ok_i (fun g_1 => ?_) (fun _ => ?_)
  · exact Ok_s (Ag.rf (f := I))
  · refine Ok_i (fun g_2 => ?_) (fun _ => ?_)
    · exact Ok_s (Ag.rf (f := I))
    · refine Ok_g (fun g_3 => ?_)
      refine Ok_t ?_
      intro r3
      refine Ok_i (fun g_4 => ?_) (fun _ => ?_)
      · refine Ok_g (fun g_5 => ?_)
        refine Ok_g (fun g_6 => ?_)
        exact Ok_s (Ag.rf (f := I))
      · refine Ok_b (aX12_noBits) ?_
        intro rr hr
        obtain ⟨I7, r8⟩ := rr
        have h_7 := hr
        have m_8 : Ag FwX12_get I I7 := Ag.tr (Ag.rf (f := I)) (Ag.mo rfl h_7)
        exact Ok_s m_8
theorem aX12_put {I : Nat → Nat → Int32} {J : Nat → Nat → Int64} {x1 : Int32} {x2 : Int32} {x3 : Int32} {x4 : Int64} : Ok (gX12_put I J x1 x2 x3 x4) (fun r => Ag FwX12_put I r.1 ∧ Ag FwX12_put J r.2.1) := by
  unfold gX12_put
  refine Ok_i (fun g_1 => ?_) (fun _ => ?_)
  · exact Ok_s ⟨(Ag.rf (f := I)), (Ag.rf (f := J))⟩
  · refine Ok_i (fun g_2 => ?_) (fun _ => ?_)
    · exact Ok_s ⟨(Ag.rf (f := I)), (Ag.rf (f := J))⟩
    · refine Ok_g (fun g_3 => ?_)
      refine Ok_t ?_
      intro r3
      refine Ok_i (fun g_4 => ?_) (fun _ => ?_)
      · refine Ok_g (fun g_5 => ?_)
        refine Ok_g (fun g_6 => ?_)
        exact Ok_s ⟨(Ag.rf (f := I)), (Ag.st (Ag.rf (f := J)) (keyo (L := [(119, 120)]) (M := FwX12_put) rfl rfl (show inW [(119, 120)] 119 = true from rfl)))⟩
      · refine Ok_b (aX12_no) ?_
        intro rr hr
        obtain ⟨I8, r9⟩ := rr
        have h_8 := hr
        have m_9 : Ag FwX12_put I I8 := Ag.tr (Ag.rf (f := I)) (Ag.mo rfl h_8)
        exact Ok_s ⟨m_9, (Ag.rf (f := J))⟩
theorem aX12_againstBed {I : Nat → Nat → Int32} {x1 : Int32} {x2 : Int32} {x3 : Int32} {x4 : Int32} : Ok (gX12_againstBed I x1 x2 x3 x4) (fun r => Ag FwX12_againstBed I r.1) := by
  unfold gX12_againstBed
  refine Ok_t ?_
  intro r1
  refine Ok_i (fun g_1 => ?_) (fun _ => ?_)
  · refine Ok_g (fun g_2 => ?_)
    refine Ok_g (fun g_3 => ?_)
    refine Ok_t ?_
    intro r6
    refine Ok_g (fun g_4 => ?_)
    exact Ok_s (Ag.st (Ag.rf (f := I)) (show inW FwX12_againstBed (key 114 20) = true from rfl))
  · exact Ok_s (Ag.rf (f := I))
theorem aX12_bed {I : Nat → Nat → Int32} {J : Nat → Nat → Int64} {x1 : Int32} {x2 : Int32} {x3 : Int32} {x4 : Int32} : Ok (gX12_bed I J x1 x2 x3 x4) (fun r => Ag FwX12_bed I r.1) := by
  unfold gX12_bed
  refine Ok_i (fun g_1 => ?_) (fun _ => ?_)
  · exact Ok_s (Ag.rf (f := I))
  · refine Ok_i (fun g_2 => ?_) (fun _ => ?_)
    · exact Ok_s (Ag.rf (f := I))
    · refine Ok_g (fun g_3 => ?_)
      refine Ok_b (aX12_againstBed) ?_
      intro rr hr
      obtain ⟨I2, r3⟩ := rr
      have h_4 := hr
      have m_5 : Ag FwX12_bed I I2 := Ag.tr (Ag.rf (f := I)) (Ag.mo rfl h_4)
      refine Ok_i (fun g_6 => ?_) (fun _ => ?_)
      · refine Ok_g (fun g_7 => ?_)
        exact Ok_s m_5
      · refine Ok_b (aX12_noBits) ?_
        intro rr hr
        obtain ⟨I6, r7⟩ := rr
        have h_8 := hr
        have m_9 : Ag FwX12_bed I I6 := Ag.tr m_5 (Ag.mo rfl h_8)
        exact Ok_s m_9
theorem aX12_setBed {I : Nat → Nat → Int32} {J : Nat → Nat → Int64} {x1 : Int32} {x2 : Int32} {x3 : Int32} {x4 : Int32} {x5 : Int64} : Ok (gX12_setBed I J x1 x2 x3 x4 x5) (fun r => Ag FwX12_setBed I r.1 ∧ Ag FwX12_setBed J r.2.1) := by
  unfold gX12_setBed
  refine Ok_i (fun g_1 => ?_) (fun _ => ?_)
  · exact Ok_s ⟨(Ag.rf (f := I)), (Ag.rf (f := J))⟩
  · refine Ok_i (fun g_2 => ?_) (fun _ => ?_)
    · exact Ok_s ⟨(Ag.rf (f := I)), (Ag.rf (f := J))⟩
    · refine Ok_g (fun g_3 => ?_)
      refine Ok_b (aX12_againstBed) ?_
      intro rr hr
      obtain ⟨I2, r3⟩ := rr
      have h_4 := hr
      have m_5 : Ag FwX12_setBed I I2 := Ag.tr (Ag.rf (f := I)) (Ag.mo rfl h_4)
      refine Ok_i (fun g_6 => ?_) (fun _ => ?_)
      · refine Ok_g (fun g_7 => ?_)
        exact Ok_s ⟨m_5, (Ag.st (Ag.rf (f := J)) (keyo (L := [(119, 120)]) (M := FwX12_setBed) rfl rfl (show inW [(119, 120)] 119 = true from rfl)))⟩
      · refine Ok_b (aX12_no) ?_
        intro rr hr
        obtain ⟨I7, r8⟩ := rr
        have h_9 := hr
        have m_10 : Ag FwX12_setBed I I7 := Ag.tr m_5 (Ag.mo rfl h_9)
        exact Ok_s ⟨m_10, (Ag.rf (f := J))⟩
theorem aX12_countUp_b58 {σ : Shp} {R : Nat → Nat → Option Nat} {I : Nat → Nat → Int32} {J : Nat → Nat → Int64} {x5 : Int32} {x7 : Int32} : Ok (gX12_countUp_b58 σ R I J x5 x7) (fun r => Ag FwX12_countUp_b58 I r.1 ∧ Ag FwX12_countUp_b58 J r.2.1) := by
  unfold gX12_countUp_b58
  refine Ok_i (fun g_1 => ?_) (fun _ => ?_)
  · refine Ok_g (fun g_2 => ?_)
    refine Ok_i (fun g_4 => ?_) (fun _ => ?_)
    · exact Ok_s ⟨(Ag.rf (f := I)), (Ag.st (Ag.rf (f := J)) (keyo (L := [(119, 120)]) (M := FwX12_countUp_b58) rfl rfl (show inW [(119, 120)] 119 = true from rfl)))⟩
    · exact Ok_s ⟨(Ag.rf (f := I)), (Ag.st (Ag.rf (f := J)) (keyo (L := [(119, 120)]) (M := FwX12_countUp_b58) rfl rfl (show inW [(119, 120)] 119 = true from rfl)))⟩
  · refine Ok_b (aX12_no) ?_
    intro rr hr
    obtain ⟨I8, r9⟩ := rr
    have h_5 := hr
    have m_6 : Ag FwX12_countUp_b58 I I8 := Ag.tr (Ag.rf (f := I)) (Ag.mo rfl h_5)
    exact Ok_s ⟨m_6, (Ag.rf (f := J))⟩
theorem aX12_countUp {σ : Shp} {I : Nat → Nat → Int32} {J : Nat → Nat → Int64} {R : Nat → Nat → Option Nat} {x1 : Int32} {x2 : Int32} {x3 : Int32} {x4 : Int32} {x5 : Int32} : Ok (gX12_countUp σ I J R x1 x2 x3 x4 x5) (fun r => Ag FwX12_countUp I r.1 ∧ Ag FwX12_countUp J r.2.1) := by
  unfold gX12_countUp
  refine Ok_i (fun g_1 => ?_) (fun _ => ?_)
  · exact Ok_s ⟨(Ag.rf (f := I)), (Ag.rf (f := J))⟩
  · refine Ok_g (fun g_2 => ?_)
    refine Ok_t ?_
    intro r3
    refine Ok_i (fun g_3 => ?_) (fun _ => ?_)
    · refine Ok_g (fun g_4 => ?_)
      refine Ok_g (fun g_5 => ?_)
      refine Ok_b (aX12_againstBed) ?_
      intro rr hr
      obtain ⟨I13, r14⟩ := rr
      have h_6 := hr
      have m_7 : Ag FwX12_countUp I I13 := Ag.tr (Ag.rf (f := I)) (Ag.mo rfl h_6)
      exact Ok_m (aX12_countUp_b58) (fun _ ⟨h0, h1⟩ => ⟨(Ag.tr m_7 (Ag.mo rfl h0)), (Ag.tr (Ag.rf (f := J)) (Ag.mo rfl h1))⟩)
    · exact Ok_m (aX12_countUp_b58) (fun _ ⟨h0, h1⟩ => ⟨(Ag.tr (Ag.rf (f := I)) (Ag.mo rfl h0)), (Ag.tr (Ag.rf (f := J)) (Ag.mo rfl h1))⟩)
theorem aX12_set_b65 {σ : Shp} {R : Nat → Nat → Option Nat} {I : Nat → Nat → Int32} {x2 : Int32} {x3 : Int32} {x4 : Int32} {s0 : Int32} : Ok (gX12_set_b65 σ R I x2 x3 x4 s0) (fun r => Ag FwX12_set_b65 I r.1) := by
  unfold gX12_set_b65
  refine Ok_i (fun g_1 => ?_) (fun _ => ?_)
  · refine Ok_g (fun g_2 => ?_)
    refine Ok_g (fun g_3 => ?_)
    refine Ok_g (fun g_4 => ?_)
    exact Ok_s (Ag.st (Ag.rf (f := I)) (keyo (L := [(120, 121)]) (M := FwX12_set_b65) rfl rfl (show inW [(120, 121)] 120 = true from rfl)))
  · refine Ok_b (aX12_no) ?_
    intro rr hr
    obtain ⟨I9, r10⟩ := rr
    have h_6 := hr
    have m_7 : Ag FwX12_set_b65 I I9 := Ag.tr (Ag.rf (f := I)) (Ag.mo rfl h_6)
    exact Ok_s m_7
theorem aX12_set {σ : Shp} {I : Nat → Nat → Int32} {R : Nat → Nat → Option Nat} {x1 : Int32} {x2 : Int32} {x3 : Int32} : Ok (gX12_set σ I R x1 x2 x3) (fun r => Ag FwX12_set I r.1) := by
  unfold gX12_set
  refine Ok_i (fun g_1 => ?_) (fun _ => ?_)
  · exact Ok_s (Ag.rf (f := I))
  · refine Ok_i (fun g_2 => ?_) (fun _ => ?_)
    · exact Ok_s (Ag.rf (f := I))
    · refine Ok_g (fun g_3 => ?_)
      refine Ok_t ?_
      intro r3
      refine Ok_i (fun g_4 => ?_) (fun _ => ?_)
      · refine Ok_g (fun g_5 => ?_)
        refine Ok_g (fun g_6 => ?_)
        refine Ok_t ?_
        intro r14
        refine Ok_i (fun g_7 => ?_) (fun _ => ?_)
        · exact Ok_m (aX12_set_b65) (fun _ hr => (Ag.tr (Ag.rf (f := I)) (Ag.mo rfl hr)))
        · exact Ok_m (aX12_set_b65) (fun _ hr => (Ag.tr (Ag.rf (f := I)) (Ag.mo rfl hr)))
      · exact Ok_m (aX12_set_b65) (fun _ hr => (Ag.tr (Ag.rf (f := I)) (Ag.mo rfl hr)))
theorem aX12_lift {I : Nat → Nat → Int32} {x1 : Int32} {x2 : Int32} {x3 : Int32} : Ok (gX12_lift I x1 x2 x3) (fun r => Ag FwX12_lift I r.1) := by
  unfold gX12_lift
  refine Ok_i (fun g_1 => ?_) (fun _ => ?_)
  · exact Ok_s (Ag.rf (f := I))
  · refine Ok_i (fun g_2 => ?_) (fun _ => ?_)
    · exact Ok_s (Ag.rf (f := I))
    · refine Ok_g (fun g_3 => ?_)
      refine Ok_t ?_
      intro r3
      refine Ok_i (fun g_4 => ?_) (fun _ => ?_)
      · refine Ok_g (fun g_5 => ?_)
        refine Ok_g (fun g_6 => ?_)
        refine Ok_g (fun g_7 => ?_)
        exact Ok_s (Ag.st (Ag.rf (f := I)) (keyo (L := [(115, 116)]) (M := FwX12_lift) rfl rfl (show inW [(115, 116)] 115 = true from rfl)))
      · refine Ok_b (aX12_no) ?_
        intro rr hr
        obtain ⟨I9, r10⟩ := rr
        have h_9 := hr
        have m_10 : Ag FwX12_lift I I9 := Ag.tr (Ag.rf (f := I)) (Ag.mo rfl h_9)
        exact Ok_s m_10
theorem aX12_liftAs_b79 {σ : Shp} {R : Nat → Nat → Option Nat} {I : Nat → Nat → Int32} {x1 : Int32} {x3 : Int32} {x5 : Int32} {s0 : Int32} : Ok (gX12_liftAs_b79 σ R I x1 x3 x5 s0) (fun r => Ag FwX12_liftAs_b79 I r.1) := by
  unfold gX12_liftAs_b79
  refine Ok_i (fun g_1 => ?_) (fun _ => ?_)
  · refine Ok_g (fun g_2 => ?_)
    refine Ok_g (fun g_3 => ?_)
    refine Ok_g (fun g_4 => ?_)
    exact Ok_s (Ag.st (Ag.rf (f := I)) (keyo (L := [(115, 116)]) (M := FwX12_liftAs_b79) rfl rfl (show inW [(115, 116)] 115 = true from rfl)))
  · refine Ok_b (aX12_no) ?_
    intro rr hr
    obtain ⟨I9, r10⟩ := rr
    have h_6 := hr
    have m_7 : Ag FwX12_liftAs_b79 I I9 := Ag.tr (Ag.rf (f := I)) (Ag.mo rfl h_6)
    exact Ok_s m_7
theorem aX12_liftAs {σ : Shp} {I : Nat → Nat → Int32} {R : Nat → Nat → Option Nat} {x1 : Int32} {x2 : Int32} {x3 : Int32} {x4 : Int32} : Ok (gX12_liftAs σ I R x1 x2 x3 x4) (fun r => Ag FwX12_liftAs I r.1) := by
  unfold gX12_liftAs
  refine Ok_i (fun g_1 => ?_) (fun _ => ?_)
  · exact Ok_s (Ag.rf (f := I))
  · refine Ok_i (fun g_2 => ?_) (fun _ => ?_)
    · exact Ok_s (Ag.rf (f := I))
    · refine Ok_i (fun g_3 => ?_) (fun _ => ?_)
      · exact Ok_s (Ag.rf (f := I))
      · refine Ok_g (fun g_4 => ?_)
        refine Ok_t ?_
        intro r3
        refine Ok_i (fun g_5 => ?_) (fun _ => ?_)
        · refine Ok_g (fun g_6 => ?_)
          refine Ok_g (fun g_7 => ?_)
          refine Ok_t ?_
          intro r14
          refine Ok_i (fun g_8 => ?_) (fun _ => ?_)
          · exact Ok_m (aX12_liftAs_b79) (fun _ hr => (Ag.tr (Ag.rf (f := I)) (Ag.mo rfl hr)))
          · exact Ok_m (aX12_liftAs_b79) (fun _ hr => (Ag.tr (Ag.rf (f := I)) (Ag.mo rfl hr)))
        · exact Ok_m (aX12_liftAs_b79) (fun _ hr => (Ag.tr (Ag.rf (f := I)) (Ag.mo rfl hr)))
theorem aX12_shift_l142 {σ : Shp} {R : Nat → Nat → Option Nat} : ∀ (n : Nat) (I : Nat → Nat → Int32) (J : Nat → Nat → Int64) (x4 : Int32) (x5 : Int32) (x7 : Int32) (x9 : Int32) (x10 : Int32), Ok (gX12_shift_l142 σ R n I J x4 x5 x7 x9 x10) (fun r => Ag FwX12_shift_l142 I r.1 ∧ Ag FwX12_shift_l142 J r.2.1) := by
  intro n
  induction n with
  | zero => intro I J x4 x5 x7 x9 x10; exact Ok_e rfl
  | succ n ih =>
    intro I J x4 x5 x7 x9 x10
    rw [gX12_shift_l142]
    refine Ok_i (fun g_1 => ?_) (fun _ => ?_)
    · exact Ok_s ⟨(Ag.rf (f := I)), (Ag.rf (f := J))⟩
    · refine Ok_i (fun g_2 => ?_) (fun _ => ?_)
      · refine Ok_g (fun g_3 => ?_)
        refine Ok_g (fun g_4 => ?_)
        refine Ok_t ?_
        intro r12
        refine Ok_i (fun g_5 => ?_) (fun _ => ?_)
        · refine Ok_b (aX12_no) ?_
          intro rr hr
          obtain ⟨I19, r20⟩ := rr
          have h_6 := hr
          have m_7 : Ag FwX12_shift_l142 I I19 := Ag.tr (Ag.rf (f := I)) (Ag.mo rfl h_6)
          exact Ok_s ⟨m_7, (Ag.rf (f := J))⟩
        · refine Ok_g (fun g_8 => ?_)
          refine Ok_g (fun g_9 => ?_)
          exact Ok_m (ih _ _ _ _ _ _ _) (fun _ ⟨h0, h1⟩ => ⟨(Ag.tr (Ag.st (Ag.st (Ag.rf (f := I)) (keyo (L := [(120, 121)]) (M := FwX12_shift_l142) rfl rfl (show inW [(120, 121)] 120 = true from rfl))) (show inW FwX12_shift_l142 (key 114 22) = true from rfl)) (Ag.mo rfl h0)), (Ag.tr (Ag.rf (f := J)) (Ag.mo rfl h1))⟩)
      · refine Ok_g (fun g_12 => ?_)
        refine Ok_g (fun g_13 => ?_)
        refine Ok_g (fun g_14 => ?_)
        exact Ok_m (ih _ _ _ _ _ _ _) (fun _ ⟨h0, h1⟩ => ⟨(Ag.tr (Ag.st (Ag.rf (f := I)) (show inW FwX12_shift_l142 (key 114 22) = true from rfl)) (Ag.mo rfl h0)), (Ag.tr (Ag.st (Ag.rf (f := J)) (keyo (L := [(119, 120)]) (M := FwX12_shift_l142) rfl rfl (show inW [(119, 120)] 119 = true from rfl))) (Ag.mo rfl h1))⟩)
theorem aX12_shift_l76 {σ : Shp} {R : Nat → Nat → Option Nat} : ∀ (n : Nat) (I : Nat → Nat → Int32) (J : Nat → Nat → Int64) (x2 : Int32) (x4 : Int32) (x5 : Int32) (x6 : Int32) (x7 : Int32) (x9 : Int32) (x10 : Int32), Ok (gX12_shift_l76 σ R n I J x2 x4 x5 x6 x7 x9 x10) (fun r => Ag FwX12_shift_l76 I r.1 ∧ Ag FwX12_shift_l76 J r.2.1) := by
  intro n
  induction n with
  | zero => intro I J x2 x4 x5 x6 x7 x9 x10; exact Ok_e rfl
  | succ n ih =>
    intro I J x2 x4 x5 x6 x7 x9 x10
    rw [gX12_shift_l76]
    refine Ok_i (fun g_1 => ?_) (fun _ => ?_)
    · exact Ok_m (aX12_shift_l142  _ _ _ _ _ _ _ _) (fun _ ⟨h0, h1⟩ => ⟨(Ag.tr (Ag.rf (f := I)) (Ag.mo rfl h0)), (Ag.tr (Ag.rf (f := J)) (Ag.mo rfl h1))⟩)
    · refine Ok_i (fun g_2 => ?_) (fun _ => ?_)
      · refine Ok_g (fun g_3 => ?_)
        refine Ok_g (fun g_4 => ?_)
        refine Ok_g (fun g_5 => ?_)
        exact Ok_m (ih _ _ _ _ _ _ _ _ _) (fun _ ⟨h0, h1⟩ => ⟨(Ag.tr (Ag.rf (f := I)) (Ag.mo rfl h0)), (Ag.tr (Ag.st (Ag.rf (f := J)) (keyo (L := [(128, 129)]) (M := FwX12_shift_l76) rfl rfl (show inW [(128, 129)] 128 = true from rfl))) (Ag.mo rfl h1))⟩)
      · refine Ok_g (fun g_7 => ?_)
        refine Ok_g (fun g_8 => ?_)
        refine Ok_g (fun g_9 => ?_)
        exact Ok_m (ih _ _ _ _ _ _ _ _ _) (fun _ ⟨h0, h1⟩ => ⟨(Ag.tr (Ag.rf (f := I)) (Ag.mo rfl h0)), (Ag.tr (Ag.st (Ag.rf (f := J)) (keyo (L := [(128, 129)]) (M := FwX12_shift_l76) rfl rfl (show inW [(128, 129)] 128 = true from rfl))) (Ag.mo rfl h1))⟩)
theorem aX12_shift {σ : Shp} {I : Nat → Nat → Int32} {J : Nat → Nat → Int64} {R : Nat → Nat → Option Nat} {x1 : Int32} {x2 : Int32} {x3 : Int32} {x4 : Int32} {x5 : Int32} : Ok (gX12_shift σ I J R x1 x2 x3 x4 x5) (fun r => Ag FwX12_shift I r.1 ∧ Ag FwX12_shift J r.2.1) := by
  unfold gX12_shift
  refine Ok_i (fun g_1 => ?_) (fun _ => ?_)
  · exact Ok_s ⟨(Ag.rf (f := I)), (Ag.rf (f := J))⟩
  · refine Ok_i (fun g_2 => ?_) (fun _ => ?_)
    · exact Ok_s ⟨(Ag.rf (f := I)), (Ag.rf (f := J))⟩
    · refine Ok_g (fun g_4 => ?_)
      refine Ok_g (fun g_5 => ?_)
      refine Ok_t ?_
      intro r6
      refine Ok_i (fun g_6 => ?_) (fun _ => ?_)
      · refine Ok_t ?_
        intro r8
        exact Ok_m (aX12_shift_l76  _ _ _ _ _ _ _ _ _ _) (fun _ ⟨h0, h1⟩ => ⟨(Ag.tr (Ag.st (Ag.rf (f := I)) (show inW FwX12_shift (key 114 22) = true from rfl)) (Ag.mo rfl h0)), (Ag.tr (Ag.rf (f := J)) (Ag.mo rfl h1))⟩)
      · refine Ok_b (aX12_no) ?_
        intro rr hr
        obtain ⟨I38, r39⟩ := rr
        have h_7 := hr
        have m_8 : Ag FwX12_shift I I38 := Ag.tr (Ag.st (Ag.rf (f := I)) (show inW FwX12_shift (key 114 22) = true from rfl)) (Ag.mo rfl h_7)
        exact Ok_s ⟨m_8, (Ag.rf (f := J))⟩
theorem aX12_rowCopy_l19 {σ : Shp} {R : Nat → Nat → Option Nat} : ∀ (n : Nat) (I : Nat → Nat → Int32) (J : Nat → Nat → Int64) (x1 : Int32) (x2 : Int32) (x3 : Int32), Ok (gX12_rowCopy_l19 σ R n I J x1 x2 x3) (fun r => Ag FwX12_rowCopy_l19 I r.1 ∧ Ag FwX12_rowCopy_l19 J r.2.1) := by
  intro n
  induction n with
  | zero => intro I J x1 x2 x3; exact Ok_e rfl
  | succ n ih =>
    intro I J x1 x2 x3
    rw [gX12_rowCopy_l19]
    refine Ok_g (fun g_1 => ?_)
    refine Ok_i (fun g_2 => ?_) (fun _ => ?_)
    · exact Ok_s ⟨(Ag.rf (f := I)), (Ag.rf (f := J))⟩
    · refine Ok_g (fun g_3 => ?_)
      refine Ok_g (fun g_4 => ?_)
      refine Ok_g (fun g_5 => ?_)
      refine Ok_g (fun g_6 => ?_)
      exact Ok_m (ih _ _ _ _ _) (fun _ ⟨h0, h1⟩ => ⟨(Ag.tr (Ag.rf (f := I)) (Ag.mo rfl h0)), (Ag.tr (Ag.st (Ag.rf (f := J)) (keyo (L := [(119, 120)]) (M := FwX12_rowCopy_l19) rfl rfl (show inW [(119, 120)] 119 = true from rfl))) (Ag.mo rfl h1))⟩)
theorem aX12_rowCopy {σ : Shp} {I : Nat → Nat → Int32} {J : Nat → Nat → Int64} {R : Nat → Nat → Option Nat} {x1 : Int32} : Ok (gX12_rowCopy σ I J R x1) (fun r => Ag FwX12_rowCopy I r.1 ∧ Ag FwX12_rowCopy J r.2.1) := by
  unfold gX12_rowCopy
  refine Ok_g (fun g_1 => ?_)
  refine Ok_g (fun g_2 => ?_)
  refine Ok_b (aX12_newRow) ?_
  intro rr hr
  obtain ⟨I3, r4⟩ := rr
  have h_3 := hr
  have m_4 : Ag FwX12_rowCopy I I3 := Ag.tr (Ag.rf (f := I)) (Ag.mo rfl h_3)
  exact Ok_m (aX12_rowCopy_l19  _ _ _ _ _ _) (fun _ ⟨h0, h1⟩ => ⟨(Ag.tr m_4 (Ag.mo rfl h0)), (Ag.tr (Ag.rf (f := J)) (Ag.mo rfl h1))⟩)
theorem aX12_gridCopy_l19 {σ : Shp} {R : Nat → Nat → Option Nat} : ∀ (n : Nat) (I : Nat → Nat → Int32) (J : Nat → Nat → Int64) (x1 : Int32) (x2 : Int32) (x3 : Int32), Ok (gX12_gridCopy_l19 σ R n I J x1 x2 x3) (fun r => Ag FwX12_gridCopy_l19 I r.1 ∧ Ag FwX12_gridCopy_l19 J r.2.1) := by
  intro n
  induction n with
  | zero => intro I J x1 x2 x3; exact Ok_e rfl
  | succ n ih =>
    intro I J x1 x2 x3
    rw [gX12_gridCopy_l19]
    refine Ok_g (fun g_1 => ?_)
    refine Ok_i (fun g_2 => ?_) (fun _ => ?_)
    · exact Ok_s ⟨(Ag.rf (f := I)), (Ag.rf (f := J))⟩
    · refine Ok_g (fun g_3 => ?_)
      refine Ok_g (fun g_4 => ?_)
      refine Ok_g (fun g_5 => ?_)
      refine Ok_i (fun g_6 => ?_) (fun _ => ?_)
      · refine Ok_g (fun g_7 => ?_)
        exact Ok_m (ih _ _ _ _ _) (fun _ ⟨h0, h1⟩ => ⟨(Ag.tr (Ag.st (Ag.rf (f := I)) (keyo (L := [(120, 121)]) (M := FwX12_gridCopy_l19) rfl rfl (show inW [(120, 121)] 120 = true from rfl))) (Ag.mo rfl h0)), (Ag.tr (Ag.rf (f := J)) (Ag.mo rfl h1))⟩)
      · refine Ok_b (aX12_rowCopy) ?_
        intro rr hr
        obtain ⟨I11, J12, r13⟩ := rr
        obtain ⟨h_9, h_10⟩ := hr
        have m_11 : Ag FwX12_gridCopy_l19 I I11 := Ag.tr (Ag.rf (f := I)) (Ag.mo rfl h_9)
        have m_12 : Ag FwX12_gridCopy_l19 J J12 := Ag.tr (Ag.rf (f := J)) (Ag.mo rfl h_10)
        refine Ok_g (fun g_13 => ?_)
        exact Ok_m (ih _ _ _ _ _) (fun _ ⟨h0, h1⟩ => ⟨(Ag.tr (Ag.st m_11 (keyo (L := [(120, 121)]) (M := FwX12_gridCopy_l19) rfl rfl (show inW [(120, 121)] 120 = true from rfl))) (Ag.mo rfl h0)), (Ag.tr m_12 (Ag.mo rfl h1))⟩)
theorem aX12_gridCopy {σ : Shp} {I : Nat → Nat → Int32} {J : Nat → Nat → Int64} {R : Nat → Nat → Option Nat} {x1 : Int32} : Ok (gX12_gridCopy σ I J R x1) (fun r => Ag FwX12_gridCopy I r.1 ∧ Ag FwX12_gridCopy J r.2.1) := by
  unfold gX12_gridCopy
  refine Ok_g (fun g_1 => ?_)
  refine Ok_g (fun g_2 => ?_)
  refine Ok_b (aX12_newPlaces) ?_
  intro rr hr
  obtain ⟨I3, r4⟩ := rr
  have h_3 := hr
  have m_4 : Ag FwX12_gridCopy I I3 := Ag.tr (Ag.rf (f := I)) (Ag.mo rfl h_3)
  exact Ok_m (aX12_gridCopy_l19  _ _ _ _ _ _) (fun _ ⟨h0, h1⟩ => ⟨(Ag.tr m_4 (Ag.mo rfl h0)), (Ag.tr (Ag.rf (f := J)) (Ag.mo rfl h1))⟩)
theorem aX12_placesCopy_b93 {q41 : (Nat → Nat → Int32) → (Nat → Nat → Int64) → (Int32) → (Int32) → (Int32) → (Int32) → (Option ((Nat → Nat → Int32) × (Nat → Nat → Int64) × (Int32)))} {σ : Shp} {R : Nat → Nat → Option Nat} {I : Nat → Nat → Int32} {J : Nat → Nat → Int64} {x1 : Int32} {x2 : Int32} {x3 : Int32} {x4 : Int32} {x5 : Int32} {s0 : Int32} (hq41 : ∀ (I : Nat → Nat → Int32) (J : Nat → Nat → Int64) (x1 : Int32) (x2 : Int32) (x3 : Int32) (x4 : Int32), Ok (q41 I J x1 x2 x3 x4) (fun r => Ag FwX12_placesCopy_l41 I r.1 ∧ Ag FwX12_placesCopy_l41 J r.2.1)) : Ok (gX12_placesCopy_b93 q41 σ R I J x1 x2 x3 x4 x5 s0) (fun r => Ag FwX12_placesCopy_b93 I r.1 ∧ Ag FwX12_placesCopy_b93 J r.2.1) := by
  unfold gX12_placesCopy_b93
  refine Ok_g (fun g_1 => ?_)
  refine Ok_i (fun g_2 => ?_) (fun _ => ?_)
  · refine Ok_g (fun g_3 => ?_)
    exact Ok_m (hq41 _ _ _ _ _ _) (fun _ ⟨h0, h1⟩ => ⟨(Ag.tr (Ag.st (Ag.rf (f := I)) (keyo (L := [(120, 121)]) (M := FwX12_placesCopy_b93) rfl rfl (show inW [(120, 121)] 120 = true from rfl))) (Ag.mo rfl h0)), (Ag.tr (Ag.rf (f := J)) (Ag.mo rfl h1))⟩)
  · refine Ok_b (aX12_gridCopy) ?_
    intro rr hr
    obtain ⟨I14, J15, r16⟩ := rr
    obtain ⟨h_5, h_6⟩ := hr
    have m_7 : Ag FwX12_placesCopy_b93 I I14 := Ag.tr (Ag.rf (f := I)) (Ag.mo rfl h_5)
    have m_8 : Ag FwX12_placesCopy_b93 J J15 := Ag.tr (Ag.rf (f := J)) (Ag.mo rfl h_6)
    refine Ok_g (fun g_9 => ?_)
    exact Ok_m (hq41 _ _ _ _ _ _) (fun _ ⟨h0, h1⟩ => ⟨(Ag.tr (Ag.st m_7 (keyo (L := [(120, 121)]) (M := FwX12_placesCopy_b93) rfl rfl (show inW [(120, 121)] 120 = true from rfl))) (Ag.mo rfl h0)), (Ag.tr m_8 (Ag.mo rfl h1))⟩)
theorem aX12_placesCopy_l41 {σ : Shp} {R : Nat → Nat → Option Nat} : ∀ (n : Nat) (I : Nat → Nat → Int32) (J : Nat → Nat → Int64) (x1 : Int32) (x2 : Int32) (x3 : Int32) (x4 : Int32), Ok (gX12_placesCopy_l41 σ R n I J x1 x2 x3 x4) (fun r => Ag FwX12_placesCopy_l41 I r.1 ∧ Ag FwX12_placesCopy_l41 J r.2.1) := by
  intro n
  induction n with
  | zero => intro I J x1 x2 x3 x4; exact Ok_e rfl
  | succ n ih =>
    intro I J x1 x2 x3 x4
    rw [gX12_placesCopy_l41]
    refine Ok_g (fun g_1 => ?_)
    refine Ok_i (fun g_2 => ?_) (fun _ => ?_)
    · exact Ok_s ⟨(Ag.rf (f := I)), (Ag.rf (f := J))⟩
    · refine Ok_g (fun g_3 => ?_)
      refine Ok_g (fun g_4 => ?_)
      refine Ok_i (fun g_5 => ?_) (fun _ => ?_)
      · exact Ok_m (aX12_placesCopy_b93 ih) (fun _ ⟨h0, h1⟩ => ⟨(Ag.tr (Ag.rf (f := I)) (Ag.mo rfl h0)), (Ag.tr (Ag.rf (f := J)) (Ag.mo rfl h1))⟩)
      · refine Ok_g (fun g_6 => ?_)
        refine Ok_i (fun g_7 => ?_) (fun _ => ?_)
        · refine Ok_i (fun g_8 => ?_) (fun _ => ?_)
          · exact Ok_m (aX12_placesCopy_b93 ih) (fun _ ⟨h0, h1⟩ => ⟨(Ag.tr (Ag.rf (f := I)) (Ag.mo rfl h0)), (Ag.tr (Ag.rf (f := J)) (Ag.mo rfl h1))⟩)
          · exact Ok_m (aX12_placesCopy_b93 ih) (fun _ ⟨h0, h1⟩ => ⟨(Ag.tr (Ag.rf (f := I)) (Ag.mo rfl h0)), (Ag.tr (Ag.rf (f := J)) (Ag.mo rfl h1))⟩)
        · exact Ok_m (aX12_placesCopy_b93 ih) (fun _ ⟨h0, h1⟩ => ⟨(Ag.tr (Ag.rf (f := I)) (Ag.mo rfl h0)), (Ag.tr (Ag.rf (f := J)) (Ag.mo rfl h1))⟩)
theorem aX12_placesCopy {σ : Shp} {I : Nat → Nat → Int32} {J : Nat → Nat → Int64} {R : Nat → Nat → Option Nat} {x1 : Int32} {x2 : Int32} : Ok (gX12_placesCopy σ I J R x1 x2) (fun r => Ag FwX12_placesCopy I r.1 ∧ Ag FwX12_placesCopy J r.2.1) := by
  unfold gX12_placesCopy
  refine Ok_i (fun g_1 => ?_) (fun _ => ?_)
  · refine Ok_g (fun g_2 => ?_)
    refine Ok_g (fun g_3 => ?_)
    refine Ok_b (aX12_newPlaces) ?_
    intro rr hr
    obtain ⟨I3, r4⟩ := rr
    have h_4 := hr
    have m_5 : Ag FwX12_placesCopy I I3 := Ag.tr (Ag.rf (f := I)) (Ag.mo rfl h_4)
    exact Ok_m (aX12_placesCopy_l41  _ _ _ _ _ _ _) (fun _ ⟨h0, h1⟩ => ⟨(Ag.tr m_5 (Ag.mo rfl h0)), (Ag.tr (Ag.rf (f := J)) (Ag.mo rfl h1))⟩)
  · refine Ok_g (fun g_6 => ?_)
    refine Ok_i (fun g_7 => ?_) (fun _ => ?_)
    · refine Ok_g (fun g_8 => ?_)
      refine Ok_b (aX12_newPlaces) ?_
      intro rr hr
      obtain ⟨I24, r25⟩ := rr
      have h_9 := hr
      have m_10 : Ag FwX12_placesCopy I I24 := Ag.tr (Ag.rf (f := I)) (Ag.mo rfl h_9)
      exact Ok_m (aX12_placesCopy_l41  _ _ _ _ _ _ _) (fun _ ⟨h0, h1⟩ => ⟨(Ag.tr m_10 (Ag.mo rfl h0)), (Ag.tr (Ag.rf (f := J)) (Ag.mo rfl h1))⟩)
    · refine Ok_b (aX12_gridCopy) ?_
      intro rr hr
      obtain ⟨I27, J28, r29⟩ := rr
      obtain ⟨h_11, h_12⟩ := hr
      have m_13 : Ag FwX12_placesCopy I I27 := Ag.tr (Ag.rf (f := I)) (Ag.mo rfl h_11)
      have m_14 : Ag FwX12_placesCopy J J28 := Ag.tr (Ag.rf (f := J)) (Ag.mo rfl h_12)
      exact Ok_s ⟨m_13, m_14⟩
theorem aX12_newCard {I : Nat → Nat → Int32} : Ok (gX12_newCard I) (fun r => Ag FwX12_newCard I r.1) := by
  unfold gX12_newCard
  refine Ok_b (aX12_thing) ?_
  intro rr hr
  obtain ⟨I1, r2⟩ := rr
  have h_1 := hr
  have m_2 : Ag FwX12_newCard I I1 := Ag.tr (Ag.rf (f := I)) (Ag.mo rfl h_1)
  refine Ok_g (fun g_3 => ?_)
  refine Ok_g (fun g_6 => ?_)
  exact Ok_s (Ag.st (Ag.st (Ag.st (Ag.st m_2 (keyo (L := [(118, 119)]) (M := FwX12_newCard) rfl rfl (show inW [(118, 119)] 118 = true from rfl))) (show inW FwX12_newCard (key 114 7) = true from rfl)) (keyo (L := [(121, 122)]) (M := FwX12_newCard) rfl rfl (show inW [(121, 122)] 121 = true from rfl))) (show inW FwX12_newCard (key 114 19) = true from rfl))
theorem aX12_cardCopy_l7 {σ : Shp} {R : Nat → Nat → Option Nat} : ∀ (n : Nat) (I : Nat → Nat → Int32) (J : Nat → Nat → Int64) (x1 : Int32) (x2 : Int32) (x3 : Int32), Ok (gX12_cardCopy_l7 σ R n I J x1 x2 x3) (fun r => Ag FwX12_cardCopy_l7 I r.1 ∧ Ag FwX12_cardCopy_l7 J r.2.1) := by
  intro n
  induction n with
  | zero => intro I J x1 x2 x3; exact Ok_e rfl
  | succ n ih =>
    intro I J x1 x2 x3
    rw [gX12_cardCopy_l7]
    refine Ok_i (fun g_1 => ?_) (fun _ => ?_)
    · refine Ok_g (fun g_2 => ?_)
      refine Ok_g (fun g_3 => ?_)
      refine Ok_g (fun g_5 => ?_)
      refine Ok_g (fun g_6 => ?_)
      exact Ok_s ⟨(Ag.st (Ag.st (Ag.rf (f := I)) (keyo (L := [(125, 126)]) (M := FwX12_cardCopy_l7) rfl rfl (show inW [(125, 126)] 125 = true from rfl))) (keyo (L := [(126, 127)]) (M := FwX12_cardCopy_l7) rfl rfl (show inW [(126, 127)] 126 = true from rfl))), (Ag.rf (f := J))⟩
    · refine Ok_g (fun g_8 => ?_)
      refine Ok_g (fun g_9 => ?_)
      refine Ok_g (fun g_10 => ?_)
      refine Ok_g (fun g_11 => ?_)
      exact Ok_m (ih _ _ _ _ _) (fun _ ⟨h0, h1⟩ => ⟨(Ag.tr (Ag.rf (f := I)) (Ag.mo rfl h0)), (Ag.tr (Ag.st (Ag.rf (f := J)) (keyo (L := [(119, 120)]) (M := FwX12_cardCopy_l7) rfl rfl (show inW [(119, 120)] 119 = true from rfl))) (Ag.mo rfl h1))⟩)
theorem aX12_cardCopy {σ : Shp} {I : Nat → Nat → Int32} {J : Nat → Nat → Int64} {R : Nat → Nat → Option Nat} {x1 : Int32} : Ok (gX12_cardCopy σ I J R x1) (fun r => Ag FwX12_cardCopy I r.1 ∧ Ag FwX12_cardCopy J r.2.1) := by
  unfold gX12_cardCopy
  refine Ok_b (aX12_newCard) ?_
  intro rr hr
  obtain ⟨I1, r2⟩ := rr
  have h_1 := hr
  have m_2 : Ag FwX12_cardCopy I I1 := Ag.tr (Ag.rf (f := I)) (Ag.mo rfl h_1)
  exact Ok_m (aX12_cardCopy_l7  _ _ _ _ _ _) (fun _ ⟨h0, h1⟩ => ⟨(Ag.tr m_2 (Ag.mo rfl h0)), (Ag.tr (Ag.rf (f := J)) (Ag.mo rfl h1))⟩)
theorem aX12_copy {σ : Shp} {I : Nat → Nat → Int32} {J : Nat → Nat → Int64} {R : Nat → Nat → Option Nat} {x1 : Int32} {x2 : Int32} {x3 : Int32} : Ok (gX12_copy σ I J R x1 x2 x3) (fun r => Ag FwX12_copy I r.1 ∧ Ag FwX12_copy J r.2.1) := by
  unfold gX12_copy
  refine Ok_i (fun g_1 => ?_) (fun _ => ?_)
  · exact Ok_s ⟨(Ag.rf (f := I)), (Ag.rf (f := J))⟩
  · refine Ok_i (fun g_2 => ?_) (fun _ => ?_)
    · exact Ok_s ⟨(Ag.rf (f := I)), (Ag.rf (f := J))⟩
    · refine Ok_t ?_
      intro r1
      refine Ok_i (fun g_3 => ?_) (fun _ => ?_)
      · refine Ok_g (fun g_4 => ?_)
        refine Ok_i (fun g_5 => ?_) (fun _ => ?_)
        · refine Ok_g (fun g_6 => ?_)
          exact Ok_s ⟨(Ag.st (Ag.rf (f := I)) (keyo (L := [(115, 116)]) (M := FwX12_copy) rfl rfl (show inW [(115, 116)] 115 = true from rfl))), (Ag.rf (f := J))⟩
        · refine Ok_g (fun g_8 => ?_)
          refine Ok_i (fun g_9 => ?_) (fun _ => ?_)
          · refine Ok_g (fun g_10 => ?_)
            exact Ok_s ⟨(Ag.st (Ag.rf (f := I)) (keyo (L := [(115, 116)]) (M := FwX12_copy) rfl rfl (show inW [(115, 116)] 115 = true from rfl))), (Ag.rf (f := J))⟩
          · refine Ok_t ?_
            intro r8
            refine Ok_i (fun g_12 => ?_) (fun _ => ?_)
            · refine Ok_i (fun g_13 => ?_) (fun _ => ?_)
              · refine Ok_b (aX12_cardCopy) ?_
                intro rr hr
                obtain ⟨I16, J17, r18⟩ := rr
                obtain ⟨h_14, h_15⟩ := hr
                have m_16 : Ag FwX12_copy I I16 := Ag.tr (Ag.rf (f := I)) (Ag.mo rfl h_14)
                have m_17 : Ag FwX12_copy J J17 := Ag.tr (Ag.rf (f := J)) (Ag.mo rfl h_15)
                refine Ok_g (fun g_18 => ?_)
                exact Ok_s ⟨(Ag.st m_16 (keyo (L := [(115, 116)]) (M := FwX12_copy) rfl rfl (show inW [(115, 116)] 115 = true from rfl))), m_17⟩
              · refine Ok_b (aX12_placesCopy) ?_
                intro rr hr
                obtain ⟨I10, J11, r12⟩ := rr
                obtain ⟨h_20, h_21⟩ := hr
                have m_22 : Ag FwX12_copy I I10 := Ag.tr (Ag.rf (f := I)) (Ag.mo rfl h_20)
                have m_23 : Ag FwX12_copy J J11 := Ag.tr (Ag.rf (f := J)) (Ag.mo rfl h_21)
                refine Ok_g (fun g_24 => ?_)
                exact Ok_s ⟨(Ag.st m_22 (keyo (L := [(115, 116)]) (M := FwX12_copy) rfl rfl (show inW [(115, 116)] 115 = true from rfl))), m_23⟩
            · refine Ok_b (aX12_rowCopy) ?_
              intro rr hr
              obtain ⟨I22, J23, r24⟩ := rr
              obtain ⟨h_26, h_27⟩ := hr
              have m_28 : Ag FwX12_copy I I22 := Ag.tr (Ag.rf (f := I)) (Ag.mo rfl h_26)
              have m_29 : Ag FwX12_copy J J23 := Ag.tr (Ag.rf (f := J)) (Ag.mo rfl h_27)
              refine Ok_g (fun g_30 => ?_)
              exact Ok_s ⟨(Ag.st m_28 (keyo (L := [(115, 116)]) (M := FwX12_copy) rfl rfl (show inW [(115, 116)] 115 = true from rfl))), m_29⟩
      · exact Ok_s ⟨(Ag.rf (f := I)), (Ag.rf (f := J))⟩
theorem aX12_size_l61 {σ : Shp} {R : Nat → Nat → Option Nat} : ∀ (n : Nat) (I : Nat → Nat → Int32) (x2 : Int32) (x3 : Int32) (x4 : Int32) (x5 : Int32), Ok (gX12_size_l61 σ R n I x2 x3 x4 x5) (fun r => Ag FwX12_size_l61 I r.1) := by
  intro n
  induction n with
  | zero => intro I x2 x3 x4 x5; exact Ok_e rfl
  | succ n ih =>
    intro I x2 x3 x4 x5
    rw [gX12_size_l61]
    refine Ok_g (fun g_1 => ?_)
    refine Ok_i (fun g_2 => ?_) (fun _ => ?_)
    · refine Ok_i (fun g_3 => ?_) (fun _ => ?_)
      · exact Ok_s (Ag.rf (f := I))
      · exact Ok_s (Ag.rf (f := I))
    · refine Ok_t ?_
      intro r11
      refine Ok_i (fun g_4 => ?_) (fun _ => ?_)
      · refine Ok_g (fun g_5 => ?_)
        refine Ok_g (fun g_6 => ?_)
        refine Ok_i (fun g_7 => ?_) (fun _ => ?_)
        · exact Ok_m (ih _ _ _ _ _) (fun _ hr => (Ag.tr (Ag.rf (f := I)) (Ag.mo rfl hr)))
        · exact Ok_m (ih _ _ _ _ _) (fun _ hr => (Ag.tr (Ag.rf (f := I)) (Ag.mo rfl hr)))
      · refine Ok_i (fun g_8 => ?_) (fun _ => ?_)
        · exact Ok_s (Ag.rf (f := I))
        · exact Ok_s (Ag.rf (f := I))
theorem aX12_size {σ : Shp} {I : Nat → Nat → Int32} {R : Nat → Nat → Option Nat} {x1 : Int32} {x2 : Int32} : Ok (gX12_size σ I R x1 x2) (fun r => Ag FwX12_size I r.1) := by
  unfold gX12_size
  refine Ok_i (fun g_1 => ?_) (fun _ => ?_)
  · exact Ok_s (Ag.rf (f := I))
  · refine Ok_i (fun g_2 => ?_) (fun _ => ?_)
    · exact Ok_s (Ag.rf (f := I))
    · refine Ok_g (fun g_3 => ?_)
      refine Ok_i (fun g_4 => ?_) (fun _ => ?_)
      · refine Ok_i (fun g_5 => ?_) (fun _ => ?_)
        · refine Ok_b (aX12_no) ?_
          intro rr hr
          obtain ⟨I6, r7⟩ := rr
          have h_6 := hr
          have m_7 : Ag FwX12_size I I6 := Ag.tr (Ag.rf (f := I)) (Ag.mo rfl h_6)
          exact Ok_s m_7
        · refine Ok_b (aX12_no) ?_
          intro rr hr
          obtain ⟨I3, r4⟩ := rr
          have h_8 := hr
          have m_9 : Ag FwX12_size I I3 := Ag.tr (Ag.rf (f := I)) (Ag.mo rfl h_8)
          exact Ok_s m_9
      · refine Ok_g (fun g_10 => ?_)
        refine Ok_i (fun g_11 => ?_) (fun _ => ?_)
        · exact Ok_m (aX12_size_l61  _ _ _ _ _ _) (fun _ hr => (Ag.tr (Ag.rf (f := I)) (Ag.mo rfl hr)))
        · refine Ok_i (fun g_12 => ?_) (fun _ => ?_)
          · refine Ok_b (aX12_no) ?_
            intro rr hr
            obtain ⟨I22, r23⟩ := rr
            have h_13 := hr
            have m_14 : Ag FwX12_size I I22 := Ag.tr (Ag.rf (f := I)) (Ag.mo rfl h_13)
            exact Ok_s m_14
          · refine Ok_b (aX12_no) ?_
            intro rr hr
            obtain ⟨I19, r20⟩ := rr
            have h_15 := hr
            have m_16 : Ag FwX12_size I I19 := Ag.tr (Ag.rf (f := I)) (Ag.mo rfl h_15)
            exact Ok_s m_16
theorem aX12_plant_b244 {σ : Shp} {R : Nat → Nat → Option Nat} {I : Nat → Nat → Int32} {x1 : Int32} {x7 : Int32} {x8 : Int32} {s0 : Option Nat} {s1 : Int32} {s2 : Int32} (hs_s0 : Cin [(126, 127)] s0) : Ok (gX12_plant_b244 σ R I x1 x7 x8 s0 s1 s2) (fun r => Ag FwX12_plant_b244 I r.1) := by
  unfold gX12_plant_b244
  refine Ok_bc (fun a16 e_1 => ?_)
  refine Ok_g (fun g_2 => ?_)
  refine Ok_g (fun g_3 => ?_)
  refine Ok_g (fun g_5 => ?_)
  refine Ok_g (fun g_7 => ?_)
  refine Ok_g (fun g_10 => ?_)
  exact Ok_s (Ag.st (Ag.st (Ag.st (Ag.st (Ag.st (Ag.rf (f := I)) (keyo (L := [(126, 127)]) (M := FwX12_plant_b244) rfl rfl (inW_mo (L := [(126, 127)]) (M := [(126, 127)]) rfl (Cin.get hs_s0 e_1)))) (keyo (L := [(127, 128)]) (M := FwX12_plant_b244) rfl rfl (show inW [(127, 128)] 127 = true from rfl))) (keyo (L := [(121, 122)]) (M := FwX12_plant_b244) rfl rfl (show inW [(121, 122)] 121 = true from rfl))) (show inW FwX12_plant_b244 (key 114 18) = true from rfl)) (keyo (L := [(115, 116)]) (M := FwX12_plant_b244) rfl rfl (show inW [(115, 116)] 115 = true from rfl)))
theorem aX12_plant_b220 {σ : Shp} {R : Nat → Nat → Option Nat} {I : Nat → Nat → Int32} {x1 : Int32} {x2 : Int32} {x6 : Int32} {x7 : Int32} {x8 : Int32} {s0 : Option Nat} {s1 : Int32} {s2 : Int32} (hs_s0 : Cin [(125, 126)] s0) : Ok (gX12_plant_b220 σ R I x1 x2 x6 x7 x8 s0 s1 s2) (fun r => Ag FwX12_plant_b220 I r.1) := by
  unfold gX12_plant_b220
  refine Ok_bc (fun a12 e_1 => ?_)
  refine Ok_g (fun g_2 => ?_)
  refine Ok_g (fun g_3 => ?_)
  refine Ok_i (fun g_5 => ?_) (fun _ => ?_)
  · refine Ok_g (fun g_6 => ?_)
    exact Ok_m (aX12_plant_b244 ⟨_, rfl, (show inW [(126, 127)] 126 = true from rfl)⟩) (fun _ hr => (Ag.tr (Ag.st (Ag.rf (f := I)) (keyo (L := [(125, 126)]) (M := FwX12_plant_b220) rfl rfl (inW_mo (L := [(125, 126)]) (M := [(125, 126)]) rfl (Cin.get hs_s0 e_1)))) (Ag.mo rfl hr)))
  · exact Ok_m (aX12_plant_b244 ⟨_, rfl, (show inW [(126, 127)] 126 = true from rfl)⟩) (fun _ hr => (Ag.tr (Ag.st (Ag.rf (f := I)) (keyo (L := [(125, 126)]) (M := FwX12_plant_b220) rfl rfl (inW_mo (L := [(125, 126)]) (M := [(125, 126)]) rfl (Cin.get hs_s0 e_1)))) (Ag.mo rfl hr)))
theorem aX12_plant_b163 {σ : Shp} {R : Nat → Nat → Option Nat} {I : Nat → Nat → Int32} {x1 : Int32} {x2 : Int32} {x3 : Int32} {x4 : Int32} {x5 : Int32} {x6 : Int32} {x7 : Int32} : Ok (gX12_plant_b163 σ R I x1 x2 x3 x4 x5 x6 x7) (fun r => Ag FwX12_plant_b163 I r.1) := by
  unfold gX12_plant_b163
  refine Ok_b (aX12_thing) ?_
  intro rr hr
  obtain ⟨I3, r4⟩ := rr
  have h_1 := hr
  have m_2 : Ag FwX12_plant_b163 I I3 := Ag.tr (Ag.rf (f := I)) (Ag.mo rfl h_1)
  refine Ok_g (fun g_3 => ?_)
  refine Ok_g (fun g_5 => ?_)
  refine Ok_g (fun g_7 => ?_)
  refine Ok_i (fun g_9 => ?_) (fun _ => ?_)
  · refine Ok_g (fun g_10 => ?_)
    exact Ok_m (aX12_plant_b220 ⟨_, rfl, (show inW [(125, 126)] 125 = true from rfl)⟩) (fun _ hr => (Ag.tr (Ag.st (Ag.st (Ag.st m_2 (keyo (L := [(122, 123)]) (M := FwX12_plant_b163) rfl rfl (show inW [(122, 123)] 122 = true from rfl))) (keyo (L := [(123, 124)]) (M := FwX12_plant_b163) rfl rfl (show inW [(123, 124)] 123 = true from rfl))) (keyo (L := [(124, 125)]) (M := FwX12_plant_b163) rfl rfl (show inW [(124, 125)] 124 = true from rfl))) (Ag.mo rfl hr)))
  · exact Ok_m (aX12_plant_b220 ⟨_, rfl, (show inW [(125, 126)] 125 = true from rfl)⟩) (fun _ hr => (Ag.tr (Ag.st (Ag.st (Ag.st m_2 (keyo (L := [(122, 123)]) (M := FwX12_plant_b163) rfl rfl (show inW [(122, 123)] 122 = true from rfl))) (keyo (L := [(123, 124)]) (M := FwX12_plant_b163) rfl rfl (show inW [(123, 124)] 123 = true from rfl))) (keyo (L := [(124, 125)]) (M := FwX12_plant_b163) rfl rfl (show inW [(124, 125)] 124 = true from rfl))) (Ag.mo rfl hr)))
theorem aX12_plant_b40 {σ : Shp} {R : Nat → Nat → Option Nat} {I : Nat → Nat → Int32} {x1 : Int32} {x2 : Int32} {x3 : Int32} {x4 : Int32} {x5 : Int32} {x6 : Int32} : Ok (gX12_plant_b40 σ R I x1 x2 x3 x4 x5 x6) (fun r => Ag FwX12_plant_b40 I r.1) := by
  unfold gX12_plant_b40
  refine Ok_t ?_
  intro r1
  refine Ok_i (fun g_1 => ?_) (fun _ => ?_)
  · refine Ok_i (fun g_2 => ?_) (fun _ => ?_)
    · refine Ok_g (fun g_3 => ?_)
      refine Ok_t ?_
      intro r30
      refine Ok_i (fun g_4 => ?_) (fun _ => ?_)
      · refine Ok_b (aX12_no) ?_
        intro rr hr
        obtain ⟨I32, r33⟩ := rr
        have h_5 := hr
        have m_6 : Ag FwX12_plant_b40 I I32 := Ag.tr (Ag.rf (f := I)) (Ag.mo rfl h_5)
        exact Ok_s m_6
      · refine Ok_g (fun g_7 => ?_)
        refine Ok_t ?_
        intro r36
        refine Ok_i (fun g_8 => ?_) (fun _ => ?_)
        · refine Ok_b (aX12_no) ?_
          intro rr hr
          obtain ⟨I42, r43⟩ := rr
          have h_9 := hr
          have m_10 : Ag FwX12_plant_b40 I I42 := Ag.tr (Ag.rf (f := I)) (Ag.mo rfl h_9)
          exact Ok_s m_10
        · refine Ok_g (fun g_11 => ?_)
          refine Ok_g (fun g_12 => ?_)
          refine Ok_i (fun g_13 => ?_) (fun _ => ?_)
          · refine Ok_i (fun g_14 => ?_) (fun _ => ?_)
            · exact Ok_m (aX12_plant_b163) (fun _ hr => (Ag.tr (Ag.rf (f := I)) (Ag.mo rfl hr)))
            · exact Ok_s (Ag.rf (f := I))
          · refine Ok_i (fun g_15 => ?_) (fun _ => ?_)
            · exact Ok_m (aX12_plant_b163) (fun _ hr => (Ag.tr (Ag.rf (f := I)) (Ag.mo rfl hr)))
            · exact Ok_s (Ag.rf (f := I))
    · exact Ok_m (aX12_plant_b163) (fun _ hr => (Ag.tr (Ag.rf (f := I)) (Ag.mo rfl hr)))
  · exact Ok_s (Ag.rf (f := I))
theorem aX12_plant {σ : Shp} {I : Nat → Nat → Int32} {R : Nat → Nat → Option Nat} {x1 : Int32} {x2 : Int32} {x3 : Int32} {x4 : Int32} {x5 : Int32} {x6 : Int32} : Ok (gX12_plant σ I R x1 x2 x3 x4 x5 x6) (fun r => Ag FwX12_plant I r.1) := by
  unfold gX12_plant
  refine Ok_i (fun g_1 => ?_) (fun _ => ?_)
  · exact Ok_s (Ag.rf (f := I))
  · refine Ok_i (fun g_2 => ?_) (fun _ => ?_)
    · exact Ok_s (Ag.rf (f := I))
    · refine Ok_i (fun g_3 => ?_) (fun _ => ?_)
      · refine Ok_i (fun g_4 => ?_) (fun _ => ?_)
        · exact Ok_s (Ag.rf (f := I))
        · refine Ok_i (fun g_5 => ?_) (fun _ => ?_)
          · exact Ok_s (Ag.rf (f := I))
          · exact Ok_m (aX12_plant_b40) (fun _ hr => (Ag.tr (Ag.rf (f := I)) (Ag.mo rfl hr)))
      · exact Ok_m (aX12_plant_b40) (fun _ hr => (Ag.tr (Ag.rf (f := I)) (Ag.mo rfl hr)))
theorem aX12_body {I : Nat → Nat → Int32} {x1 : Int32} : Ok (gX12_body I x1) (fun r => Ag FwX12_body I r) := by
  unfold gX12_body
  refine Ok_g (fun g_1 => ?_)
  exact Ok_s (Ag.st (Ag.st (Ag.rf (f := I)) (keyo (L := [(129, 130)]) (M := FwX12_body) rfl rfl (show inW [(129, 130)] 129 = true from rfl))) (show inW FwX12_body (key 114 24) = true from rfl))
theorem aX12_plainSize_b62 {σ : Shp} {R : Nat → Nat → Option Nat} {I : Nat → Nat → Int32} {x1 : Int32} : Ok (gX12_plainSize_b62 σ R I x1) (fun r => Ag FwX12_plainSize_b62 I r.1) := by
  unfold gX12_plainSize_b62
  refine Ok_g (fun g_1 => ?_)
  refine Ok_i (fun g_2 => ?_) (fun _ => ?_)
  · refine Ok_g (fun g_3 => ?_)
    refine Ok_g (fun g_4 => ?_)
    exact Ok_s (Ag.rf (f := I))
  · refine Ok_i (fun g_5 => ?_) (fun _ => ?_)
    · refine Ok_g (fun g_6 => ?_)
      refine Ok_g (fun g_7 => ?_)
      refine Ok_g (fun g_8 => ?_)
      exact Ok_s (Ag.rf (f := I))
    · refine Ok_g (fun g_9 => ?_)
      exact Ok_s (Ag.rf (f := I))
theorem aX12_plainSize_b30 {σ : Shp} {R : Nat → Nat → Option Nat} {I : Nat → Nat → Int32} {x1 : Int32} : Ok (gX12_plainSize_b30 σ R I x1) (fun r => Ag FwX12_plainSize_b30 I r.1) := by
  unfold gX12_plainSize_b30
  refine Ok_b (aX12_body) ?_
  intro I2 hr
  have h_1 := hr
  have m_2 : Ag FwX12_plainSize_b30 I I2 := Ag.tr (Ag.rf (f := I)) (Ag.mo rfl h_1)
  refine Ok_g (fun g_3 => ?_)
  refine Ok_i (fun g_4 => ?_) (fun _ => ?_)
  · refine Ok_g (fun g_5 => ?_)
    refine Ok_i (fun g_6 => ?_) (fun _ => ?_)
    · exact Ok_s (Ag.st m_2 (show inW FwX12_plainSize_b30 (key 114 30) = true from rfl))
    · exact Ok_m (aX12_plainSize_b62) (fun _ hr => (Ag.tr m_2 (Ag.mo rfl hr)))
  · exact Ok_m (aX12_plainSize_b62) (fun _ hr => (Ag.tr m_2 (Ag.mo rfl hr)))
theorem aX12_plainSize {σ : Shp} {I : Nat → Nat → Int32} {R : Nat → Nat → Option Nat} {x1 : Int32} : Ok (gX12_plainSize σ I R x1) (fun r => Ag FwX12_plainSize I r.1) := by
  unfold gX12_plainSize
  refine Ok_g (fun g_1 => ?_)
  refine Ok_i (fun g_2 => ?_) (fun _ => ?_)
  · refine Ok_b (aX12_body) ?_
    intro I16 hr
    have h_3 := hr
    have m_4 : Ag FwX12_plainSize I I16 := Ag.tr (Ag.rf (f := I)) (Ag.mo rfl h_3)
    refine Ok_i (fun g_5 => ?_) (fun _ => ?_)
    · refine Ok_b (aX12_body) ?_
      intro I18 hr
      have h_6 := hr
      have m_7 : Ag FwX12_plainSize I I18 := Ag.tr m_4 (Ag.mo rfl h_6)
      exact Ok_m (aX12_plainSize_b30) (fun _ hr => (Ag.tr m_7 (Ag.mo rfl hr)))
    · exact Ok_m (aX12_plainSize_b30) (fun _ hr => (Ag.tr m_4 (Ag.mo rfl hr)))
  · refine Ok_i (fun g_8 => ?_) (fun _ => ?_)
    · refine Ok_b (aX12_body) ?_
      intro I14 hr
      have h_9 := hr
      have m_10 : Ag FwX12_plainSize I I14 := Ag.tr (Ag.rf (f := I)) (Ag.mo rfl h_9)
      exact Ok_m (aX12_plainSize_b30) (fun _ hr => (Ag.tr m_10 (Ag.mo rfl hr)))
    · exact Ok_m (aX12_plainSize_b30) (fun _ hr => (Ag.tr (Ag.rf (f := I)) (Ag.mo rfl hr)))
theorem aX12_sizeOf_b193 {q18 : (Nat → Nat → Int32) → (Int32) → (Int32) → (Option ((Nat → Nat → Int32) × (Int32)))} {σ : Shp} {R : Nat → Nat → Option Nat} {I : Nat → Nat → Int32} {x2 : Int32} {x3 : Int32} {s0 : Int32} (hq18 : ∀ (I : Nat → Nat → Int32) (x2 : Int32) (x3 : Int32), Ok (q18 I x2 x3) (fun r => Ag FwX12_sizeOf_l18 I r.1)) : Ok (gX12_sizeOf_b193 q18 σ R I x2 x3 s0) (fun r => Ag FwX12_sizeOf_b193 I r.1) := by
  unfold gX12_sizeOf_b193
  refine Ok_i (fun g_1 => ?_) (fun _ => ?_)
  · exact Ok_m (hq18 _ _ _) (fun _ hr => (Ag.tr (Ag.st (Ag.rf (f := I)) (show inW FwX12_sizeOf_b193 (key 114 30) = true from rfl)) (Ag.mo rfl hr)))
  · refine Ok_g (fun g_3 => ?_)
    refine Ok_g (fun g_5 => ?_)
    exact Ok_m (hq18 _ _ _) (fun _ hr => (Ag.tr (Ag.st (Ag.st (Ag.rf (f := I)) (keyo (L := [(130, 131)]) (M := FwX12_sizeOf_b193) rfl rfl (show inW [(130, 131)] 130 = true from rfl))) (keyo (L := [(131, 132)]) (M := FwX12_sizeOf_b193) rfl rfl (show inW [(131, 132)] 131 = true from rfl))) (Ag.mo rfl hr)))
theorem aX12_sizeOf_b109 {q18 : (Nat → Nat → Int32) → (Int32) → (Int32) → (Option ((Nat → Nat → Int32) × (Int32)))} {σ : Shp} {R : Nat → Nat → Option Nat} {I : Nat → Nat → Int32} {x2 : Int32} {x3 : Int32} {x4 : Int32} {x5 : Int32} {s0 : Option Nat} {s1 : Int32} {s2 : Int32} (hq18 : ∀ (I : Nat → Nat → Int32) (x2 : Int32) (x3 : Int32), Ok (q18 I x2 x3) (fun r => Ag FwX12_sizeOf_l18 I r.1)) (hs_s0 : Cin [(132, 133)] s0) : Ok (gX12_sizeOf_b109 q18 σ R I x2 x3 x4 x5 s0 s1 s2) (fun r => Ag FwX12_sizeOf_b109 I r.1) := by
  unfold gX12_sizeOf_b109
  refine Ok_bc (fun a11 e_1 => ?_)
  refine Ok_g (fun g_2 => ?_)
  refine Ok_g (fun g_3 => ?_)
  refine Ok_g (fun g_5 => ?_)
  refine Ok_i (fun g_7 => ?_) (fun _ => ?_)
  · refine Ok_b (aX12_body) ?_
    intro I25 hr
    have h_8 := hr
    have m_9 : Ag FwX12_sizeOf_b109 I I25 := Ag.tr (Ag.st (Ag.st (Ag.rf (f := I)) (keyo (L := [(132, 133)]) (M := FwX12_sizeOf_b109) rfl rfl (inW_mo (L := [(132, 133)]) (M := [(132, 133)]) rfl (Cin.get hs_s0 e_1)))) (keyo (L := [(131, 132)]) (M := FwX12_sizeOf_b109) rfl rfl (show inW [(131, 132)] 131 = true from rfl))) (Ag.mo rfl h_8)
    refine Ok_b (aX12_body) ?_
    intro I27 hr
    have h_10 := hr
    have m_11 : Ag FwX12_sizeOf_b109 I I27 := Ag.tr m_9 (Ag.mo rfl h_10)
    refine Ok_g (fun g_12 => ?_)
    refine Ok_g (fun g_13 => ?_)
    refine Ok_g (fun g_14 => ?_)
    exact Ok_m (hq18 _ _ _) (fun _ hr => (Ag.tr m_11 (Ag.mo rfl hr)))
  · refine Ok_i (fun g_15 => ?_) (fun _ => ?_)
    · refine Ok_g (fun g_16 => ?_)
      exact Ok_m (aX12_sizeOf_b193 hq18) (fun _ hr => (Ag.tr (Ag.st (Ag.st (Ag.rf (f := I)) (keyo (L := [(132, 133)]) (M := FwX12_sizeOf_b109) rfl rfl (inW_mo (L := [(132, 133)]) (M := [(132, 133)]) rfl (Cin.get hs_s0 e_1)))) (keyo (L := [(131, 132)]) (M := FwX12_sizeOf_b109) rfl rfl (show inW [(131, 132)] 131 = true from rfl))) (Ag.mo rfl hr)))
    · refine Ok_g (fun g_17 => ?_)
      exact Ok_m (aX12_sizeOf_b193 hq18) (fun _ hr => (Ag.tr (Ag.st (Ag.st (Ag.rf (f := I)) (keyo (L := [(132, 133)]) (M := FwX12_sizeOf_b109) rfl rfl (inW_mo (L := [(132, 133)]) (M := [(132, 133)]) rfl (Cin.get hs_s0 e_1)))) (keyo (L := [(131, 132)]) (M := FwX12_sizeOf_b109) rfl rfl (show inW [(131, 132)] 131 = true from rfl))) (Ag.mo rfl hr)))
theorem aX12_sizeOf_b83 {q18 : (Nat → Nat → Int32) → (Int32) → (Int32) → (Option ((Nat → Nat → Int32) × (Int32)))} {σ : Shp} {R : Nat → Nat → Option Nat} {I : Nat → Nat → Int32} {x2 : Int32} {x3 : Int32} {x4 : Int32} {x5 : Int32} (hq18 : ∀ (I : Nat → Nat → Int32) (x2 : Int32) (x3 : Int32), Ok (q18 I x2 x3) (fun r => Ag FwX12_sizeOf_l18 I r.1)) : Ok (gX12_sizeOf_b83 q18 σ R I x2 x3 x4 x5) (fun r => Ag FwX12_sizeOf_b83 I r.1) := by
  unfold gX12_sizeOf_b83
  refine Ok_i (fun g_1 => ?_) (fun _ => ?_)
  · exact Ok_m (aX12_sizeOf_b109 hq18 ⟨_, rfl, (show inW [(132, 133)] 132 = true from rfl)⟩) (fun _ hr => (Ag.tr (Ag.rf (f := I)) (Ag.mo rfl hr)))
  · refine Ok_g (fun g_2 => ?_)
    exact Ok_m (aX12_sizeOf_b109 hq18 ⟨_, rfl, (show inW [(132, 133)] 132 = true from rfl)⟩) (fun _ hr => (Ag.tr (Ag.rf (f := I)) (Ag.mo rfl hr)))
theorem aX12_sizeOf_l18 {σ : Shp} {R : Nat → Nat → Option Nat} : ∀ (n : Nat) (I : Nat → Nat → Int32) (x2 : Int32) (x3 : Int32), Ok (gX12_sizeOf_l18 σ R n I x2 x3) (fun r => Ag FwX12_sizeOf_l18 I r.1) := by
  intro n
  induction n with
  | zero => intro I x2 x3; exact Ok_e rfl
  | succ n ih =>
    intro I x2 x3
    rw [gX12_sizeOf_l18]
    refine Ok_i (fun g_1 => ?_) (fun _ => ?_)
    · exact Ok_s (Ag.rf (f := I))
    · refine Ok_i (fun g_2 => ?_) (fun _ => ?_)
      · refine Ok_g (fun g_3 => ?_)
        refine Ok_g (fun g_4 => ?_)
        refine Ok_i (fun g_5 => ?_) (fun _ => ?_)
        · refine Ok_g (fun g_6 => ?_)
          refine Ok_i (fun g_7 => ?_) (fun _ => ?_)
          · refine Ok_b (aX12_body) ?_
            intro I34 hr
            have h_8 := hr
            have m_9 : Ag FwX12_sizeOf_l18 I I34 := Ag.tr (Ag.rf (f := I)) (Ag.mo rfl h_8)
            exact Ok_m (aX12_sizeOf_b83 ih) (fun _ hr => (Ag.tr m_9 (Ag.mo rfl hr)))
          · exact Ok_m (aX12_sizeOf_b83 ih) (fun _ hr => (Ag.tr (Ag.rf (f := I)) (Ag.mo rfl hr)))
        · refine Ok_b (aX12_plainSize) ?_
          intro rr hr
          obtain ⟨I36, r37⟩ := rr
          have h_10 := hr
          have m_11 : Ag FwX12_sizeOf_l18 I I36 := Ag.tr (Ag.rf (f := I)) (Ag.mo rfl h_10)
          exact Ok_m (ih _ _ _) (fun _ hr => (Ag.tr m_11 (Ag.mo rfl hr)))
      · exact Ok_s (Ag.rf (f := I))
theorem aX12_sizeOf {σ : Shp} {I : Nat → Nat → Int32} {R : Nat → Nat → Option Nat} {x1 : Int32} : Ok (gX12_sizeOf σ I R x1) (fun r => Ag FwX12_sizeOf I r.1) := by
  unfold gX12_sizeOf
  refine Ok_g (fun g_1 => ?_)
  refine Ok_g (fun g_3 => ?_)
  exact Ok_m (aX12_sizeOf_l18  _ _ _ _) (fun _ hr => (Ag.tr (Ag.st (Ag.st (Ag.rf (f := I)) (keyo (L := [(130, 131)]) (M := FwX12_sizeOf) rfl rfl (show inW [(130, 131)] 130 = true from rfl))) (keyo (L := [(131, 132)]) (M := FwX12_sizeOf) rfl rfl (show inW [(131, 132)] 131 = true from rfl))) (Ag.mo rfl hr)))
theorem aX12_thirstOf_b36 {σ : Shp} {R : Nat → Nat → Option Nat} {I : Nat → Nat → Int32} {x1 : Int32} {x2 : Int32} : Ok (gX12_thirstOf_b36 σ R I x1 x2) (fun r => Ag FwX12_thirstOf_b36 I r.1) := by
  unfold gX12_thirstOf_b36
  refine Ok_b (aX12_body) ?_
  intro I3 hr
  have h_1 := hr
  have m_2 : Ag FwX12_thirstOf_b36 I I3 := Ag.tr (Ag.rf (f := I)) (Ag.mo rfl h_1)
  refine Ok_b (aX12_sizeOf) ?_
  intro rr hr
  obtain ⟨I5, r6⟩ := rr
  have h_3 := hr
  have m_4 : Ag FwX12_thirstOf_b36 I I5 := Ag.tr m_2 (Ag.mo rfl h_3)
  refine Ok_i (fun g_5 => ?_) (fun _ => ?_)
  · exact Ok_s m_4
  · exact Ok_s m_4
theorem aX12_thirstOf {σ : Shp} {I : Nat → Nat → Int32} {R : Nat → Nat → Option Nat} {x1 : Int32} : Ok (gX12_thirstOf σ I R x1) (fun r => Ag FwX12_thirstOf I r.1) := by
  unfold gX12_thirstOf
  refine Ok_g (fun g_1 => ?_)
  refine Ok_i (fun g_2 => ?_) (fun _ => ?_)
  · refine Ok_b (aX12_body) ?_
    intro I11 hr
    have h_3 := hr
    have m_4 : Ag FwX12_thirstOf I I11 := Ag.tr (Ag.rf (f := I)) (Ag.mo rfl h_3)
    refine Ok_g (fun g_5 => ?_)
    exact Ok_s m_4
  · refine Ok_i (fun g_6 => ?_) (fun _ => ?_)
    · exact Ok_m (aX12_thirstOf_b36) (fun _ hr => (Ag.tr (Ag.rf (f := I)) (Ag.mo rfl hr)))
    · refine Ok_b (aX12_body) ?_
      intro I9 hr
      have h_7 := hr
      have m_8 : Ag FwX12_thirstOf I I9 := Ag.tr (Ag.rf (f := I)) (Ag.mo rfl h_7)
      exact Ok_m (aX12_thirstOf_b36) (fun _ hr => (Ag.tr m_8 (Ag.mo rfl hr)))
theorem aX12_costOf_b16 {σ : Shp} {R : Nat → Nat → Option Nat} {I : Nat → Nat → Int32} {x1 : Int32} : Ok (gX12_costOf_b16 σ R I x1) (fun r => Ag FwX12_costOf_b16 I r.1) := by
  unfold gX12_costOf_b16
  refine Ok_b (aX12_body) ?_
  intro I2 hr
  have h_1 := hr
  have m_2 : Ag FwX12_costOf_b16 I I2 := Ag.tr (Ag.rf (f := I)) (Ag.mo rfl h_1)
  refine Ok_g (fun g_3 => ?_)
  refine Ok_i (fun g_4 => ?_) (fun _ => ?_)
  · exact Ok_s (Ag.st m_2 (show inW FwX12_costOf_b16 (key 114 30) = true from rfl))
  · refine Ok_g (fun g_6 => ?_)
    refine Ok_g (fun g_7 => ?_)
    refine Ok_i (fun g_8 => ?_) (fun _ => ?_)
    · refine Ok_b (aX12_thirstOf) ?_
      intro rr hr
      obtain ⟨I8, r9⟩ := rr
      have h_9 := hr
      have m_10 : Ag FwX12_costOf_b16 I I8 := Ag.tr m_2 (Ag.mo rfl h_9)
      exact Ok_s m_10
    · exact Ok_s m_2
theorem aX12_costOf {σ : Shp} {I : Nat → Nat → Int32} {R : Nat → Nat → Option Nat} {x1 : Int32} : Ok (gX12_costOf σ I R x1) (fun r => Ag FwX12_costOf I r.1) := by
  unfold gX12_costOf
  refine Ok_g (fun g_1 => ?_)
  refine Ok_i (fun g_2 => ?_) (fun _ => ?_)
  · refine Ok_b (aX12_body) ?_
    intro I12 hr
    have h_3 := hr
    have m_4 : Ag FwX12_costOf I I12 := Ag.tr (Ag.rf (f := I)) (Ag.mo rfl h_3)
    exact Ok_m (aX12_costOf_b16) (fun _ hr => (Ag.tr m_4 (Ag.mo rfl hr)))
  · exact Ok_m (aX12_costOf_b16) (fun _ hr => (Ag.tr (Ag.rf (f := I)) (Ag.mo rfl hr)))
theorem aX12_askOf_b153 {σ : Shp} {R : Nat → Nat → Option Nat} {I : Nat → Nat → Int32} {x1 : Int32} {x3 : Int32} {s0 : Option Nat} {s1 : Int32} (hs_s0 : Cin [(114, 115)] s0) (hS : Skel σ R) : Ok (gX12_askOf_b153 σ R I x1 x3 s0 s1) (fun r => Ag FwX12_askOf_b153 I r.1) := by
  unfold gX12_askOf_b153
  refine Ok_bc (fun a21 e_1 => ?_)
  refine Ok_g (fun g_2 => ?_)
  have ea := hs_s0.get1 e_1
  rw [ea, eX12_body hS]
  refine Ok_b aX12_body ?_
  intro I23 hr
  have h_3 := hr
  have m_4 : Ag FwX12_askOf_b153 I I23 := Ag.tr (Ag.rf (f := I)) (Ag.mo rfl h_3)
  refine Ok_i (fun g_5 => ?_) (fun _ => ?_)
  · refine Ok_g (fun g_6 => ?_)
    exact Ok_s (Ag.st m_4 (show inW FwX12_askOf_b153 (key 114 29) = true from rfl))
  · exact Ok_s (Ag.st m_4 (show inW FwX12_askOf_b153 (key 114 29) = true from rfl))
theorem aX12_askOf_b61 {σ : Shp} {R : Nat → Nat → Option Nat} {I : Nat → Nat → Int32} {x1 : Int32} {x2 : Int32} {x3 : Int32} (hS : Skel σ R) : Ok (gX12_askOf_b61 σ R I x1 x2 x3) (fun r => Ag FwX12_askOf_b61 I r.1) := by
  unfold gX12_askOf_b61
  refine Ok_i (fun g_1 => ?_) (fun _ => ?_)
  · refine Ok_b (aX12_sizeOf) ?_
    intro rr hr
    obtain ⟨I36, r37⟩ := rr
    have h_2 := hr
    have m_3 : Ag FwX12_askOf_b61 I I36 := Ag.tr (Ag.rf (f := I)) (Ag.mo rfl h_2)
    exact Ok_s (Ag.st m_3 (show inW FwX12_askOf_b61 (key 114 29) = true from rfl))
  · refine Ok_i (fun g_5 => ?_) (fun _ => ?_)
    · refine Ok_b (aX12_thirstOf) ?_
      intro rr hr
      obtain ⟨I32, r33⟩ := rr
      have h_6 := hr
      have m_7 : Ag FwX12_askOf_b61 I I32 := Ag.tr (Ag.rf (f := I)) (Ag.mo rfl h_6)
      exact Ok_s (Ag.st m_7 (show inW FwX12_askOf_b61 (key 114 29) = true from rfl))
    · refine Ok_i (fun g_9 => ?_) (fun _ => ?_)
      · refine Ok_b (aX12_costOf) ?_
        intro rr hr
        obtain ⟨I28, r29⟩ := rr
        have h_10 := hr
        have m_11 : Ag FwX12_askOf_b61 I I28 := Ag.tr (Ag.rf (f := I)) (Ag.mo rfl h_10)
        exact Ok_s (Ag.st m_11 (show inW FwX12_askOf_b61 (key 114 29) = true from rfl))
      · refine Ok_i (fun g_13 => ?_) (fun _ => ?_)
        · refine Ok_i (fun g_14 => ?_) (fun _ => ?_)
          · exact Ok_m (aX12_askOf_b153 ⟨_, rfl, (show inW [(114, 115)] 114 = true from rfl)⟩ hS) (fun _ hr => (Ag.tr (Ag.rf (f := I)) (Ag.mo rfl hr)))
          · exact Ok_m (aX12_askOf_b153 ⟨_, rfl, (show inW [(114, 115)] 114 = true from rfl)⟩ hS) (fun _ hr => (Ag.tr (Ag.rf (f := I)) (Ag.mo rfl hr)))
        · refine Ok_i (fun g_15 => ?_) (fun _ => ?_)
          · refine Ok_i (fun g_16 => ?_) (fun _ => ?_)
            · exact Ok_s (Ag.st (Ag.rf (f := I)) (show inW FwX12_askOf_b61 (key 114 29) = true from rfl))
            · exact Ok_s (Ag.st (Ag.rf (f := I)) (show inW FwX12_askOf_b61 (key 114 29) = true from rfl))
          · refine Ok_i (fun g_19 => ?_) (fun _ => ?_)
            · refine Ok_g (fun g_20 => ?_)
              exact Ok_s (Ag.st (Ag.rf (f := I)) (show inW FwX12_askOf_b61 (key 114 29) = true from rfl))
            · refine Ok_i (fun g_22 => ?_) (fun _ => ?_)
              · exact Ok_s (Ag.st (Ag.rf (f := I)) (show inW FwX12_askOf_b61 (key 114 29) = true from rfl))
              · refine Ok_g (fun g_24 => ?_)
                exact Ok_s (Ag.st (Ag.rf (f := I)) (show inW FwX12_askOf_b61 (key 114 29) = true from rfl))
theorem aX12_askOf {σ : Shp} {I : Nat → Nat → Int32} {R : Nat → Nat → Option Nat} {x1 : Int32} {x2 : Int32} (hS : Skel σ R) : Ok (gX12_askOf σ I R x1 x2) (fun r => Ag FwX12_askOf I r.1) := by
  unfold gX12_askOf
  refine Ok_t ?_
  intro r3
  refine Ok_i (fun g_3 => ?_) (fun _ => ?_)
  · exact Ok_s (Ag.st (Ag.st (Ag.rf (f := I)) (show inW FwX12_askOf (key 114 24) = true from rfl)) (show inW FwX12_askOf (key 114 30) = true from rfl))
  · refine Ok_i (fun g_4 => ?_) (fun _ => ?_)
    · exact Ok_s (Ag.st (Ag.st (Ag.rf (f := I)) (show inW FwX12_askOf (key 114 24) = true from rfl)) (show inW FwX12_askOf (key 114 30) = true from rfl))
    · refine Ok_g (fun g_5 => ?_)
      refine Ok_i (fun g_6 => ?_) (fun _ => ?_)
      · refine Ok_i (fun g_7 => ?_) (fun _ => ?_)
        · exact Ok_s (Ag.st (Ag.st (Ag.rf (f := I)) (show inW FwX12_askOf (key 114 24) = true from rfl)) (show inW FwX12_askOf (key 114 30) = true from rfl))
        · refine Ok_i (fun g_8 => ?_) (fun _ => ?_)
          · exact Ok_s (Ag.st (Ag.st (Ag.rf (f := I)) (show inW FwX12_askOf (key 114 24) = true from rfl)) (show inW FwX12_askOf (key 114 30) = true from rfl))
          · refine Ok_i (fun g_9 => ?_) (fun _ => ?_)
            · refine Ok_i (fun g_10 => ?_) (fun _ => ?_)
              · exact Ok_s (Ag.st (Ag.st (Ag.rf (f := I)) (show inW FwX12_askOf (key 114 24) = true from rfl)) (show inW FwX12_askOf (key 114 30) = true from rfl))
              · exact Ok_m (aX12_askOf_b61 hS) (fun _ hr => (Ag.tr (Ag.st (Ag.st (Ag.rf (f := I)) (show inW FwX12_askOf (key 114 24) = true from rfl)) (show inW FwX12_askOf (key 114 30) = true from rfl)) (Ag.mo rfl hr)))
            · exact Ok_m (aX12_askOf_b61 hS) (fun _ hr => (Ag.tr (Ag.st (Ag.st (Ag.rf (f := I)) (show inW FwX12_askOf (key 114 24) = true from rfl)) (show inW FwX12_askOf (key 114 30) = true from rfl)) (Ag.mo rfl hr)))
      · refine Ok_i (fun g_11 => ?_) (fun _ => ?_)
        · refine Ok_i (fun g_12 => ?_) (fun _ => ?_)
          · exact Ok_s (Ag.st (Ag.st (Ag.rf (f := I)) (show inW FwX12_askOf (key 114 24) = true from rfl)) (show inW FwX12_askOf (key 114 30) = true from rfl))
          · exact Ok_m (aX12_askOf_b61 hS) (fun _ hr => (Ag.tr (Ag.st (Ag.st (Ag.rf (f := I)) (show inW FwX12_askOf (key 114 24) = true from rfl)) (show inW FwX12_askOf (key 114 30) = true from rfl)) (Ag.mo rfl hr)))
        · exact Ok_m (aX12_askOf_b61 hS) (fun _ hr => (Ag.tr (Ag.st (Ag.st (Ag.rf (f := I)) (show inW FwX12_askOf (key 114 24) = true from rfl)) (show inW FwX12_askOf (key 114 30) = true from rfl)) (Ag.mo rfl hr)))
theorem aX12_ask {σ : Shp} {I : Nat → Nat → Int32} {R : Nat → Nat → Option Nat} {x1 : Int32} {x2 : Int32} (hS : Skel σ R) : Ok (gX12_ask σ I R x1 x2) (fun r => Ag FwX12_ask I r.1) := by
  unfold gX12_ask
  refine Ok_i (fun g_1 => ?_) (fun _ => ?_)
  · exact Ok_s (Ag.rf (f := I))
  · refine Ok_i (fun g_2 => ?_) (fun _ => ?_)
    · exact Ok_s (Ag.rf (f := I))
    · refine Ok_g (fun g_3 => ?_)
      refine Ok_b (aX12_askOf hS) ?_
      intro rr hr
      obtain ⟨I2, r3⟩ := rr
      have h_4 := hr
      have m_5 : Ag FwX12_ask I I2 := Ag.tr (Ag.rf (f := I)) (Ag.mo rfl h_4)
      refine Ok_i (fun g_6 => ?_) (fun _ => ?_)
      · exact Ok_s (Ag.st m_5 (show inW FwX12_ask (key 114 25) = true from rfl))
      · refine Ok_b (aX12_no) ?_
        intro rr hr
        obtain ⟨I6, r7⟩ := rr
        have h_8 := hr
        have m_9 : Ag FwX12_ask I I6 := Ag.tr m_5 (Ag.mo rfl h_8)
        exact Ok_s m_9
theorem aX12_card {I : Nat → Nat → Int32} {x1 : Int32} : Ok (gX12_card I x1) (fun r => Ag FwX12_card I r.1) := by
  unfold gX12_card
  refine Ok_i (fun g_1 => ?_) (fun _ => ?_)
  · exact Ok_s (Ag.rf (f := I))
  · refine Ok_t ?_
    intro r1
    refine Ok_i (fun g_2 => ?_) (fun _ => ?_)
    · refine Ok_b (aX12_newCard) ?_
      intro rr hr
      obtain ⟨I3, r4⟩ := rr
      have h_3 := hr
      have m_4 : Ag FwX12_card I I3 := Ag.tr (Ag.rf (f := I)) (Ag.mo rfl h_3)
      refine Ok_g (fun g_5 => ?_)
      refine Ok_g (fun g_7 => ?_)
      exact Ok_s (Ag.st m_4 (keyo (L := [(115, 116)]) (M := FwX12_card) rfl rfl (show inW [(115, 116)] 115 = true from rfl)))
    · exact Ok_s (Ag.rf (f := I))
theorem aX12_field {I : Nat → Nat → Int32} {J : Nat → Nat → Int64} {x1 : Int32} {x2 : Int32} : Ok (gX12_field I J x1 x2) (fun r => Ag FwX12_field I r.1) := by
  unfold gX12_field
  refine Ok_i (fun g_1 => ?_) (fun _ => ?_)
  · exact Ok_s (Ag.rf (f := I))
  · refine Ok_i (fun g_2 => ?_) (fun _ => ?_)
    · exact Ok_s (Ag.rf (f := I))
    · refine Ok_g (fun g_3 => ?_)
      refine Ok_t ?_
      intro r2
      refine Ok_i (fun g_4 => ?_) (fun _ => ?_)
      · refine Ok_g (fun g_5 => ?_)
        refine Ok_g (fun g_6 => ?_)
        exact Ok_s (Ag.rf (f := I))
      · refine Ok_b (aX12_noBits) ?_
        intro rr hr
        obtain ⟨I6, r7⟩ := rr
        have h_7 := hr
        have m_8 : Ag FwX12_field I I6 := Ag.tr (Ag.rf (f := I)) (Ag.mo rfl h_7)
        exact Ok_s m_8
theorem aX12_setField {I : Nat → Nat → Int32} {J : Nat → Nat → Int64} {x1 : Int32} {x2 : Int32} {x3 : Int64} : Ok (gX12_setField I J x1 x2 x3) (fun r => Ag FwX12_setField I r.1 ∧ Ag FwX12_setField J r.2.1) := by
  unfold gX12_setField
  refine Ok_i (fun g_1 => ?_) (fun _ => ?_)
  · exact Ok_s ⟨(Ag.rf (f := I)), (Ag.rf (f := J))⟩
  · refine Ok_i (fun g_2 => ?_) (fun _ => ?_)
    · exact Ok_s ⟨(Ag.rf (f := I)), (Ag.rf (f := J))⟩
    · refine Ok_g (fun g_3 => ?_)
      refine Ok_t ?_
      intro r2
      refine Ok_i (fun g_4 => ?_) (fun _ => ?_)
      · refine Ok_g (fun g_5 => ?_)
        refine Ok_g (fun g_6 => ?_)
        exact Ok_s ⟨(Ag.rf (f := I)), (Ag.st (Ag.rf (f := J)) (keyo (L := [(119, 120)]) (M := FwX12_setField) rfl rfl (show inW [(119, 120)] 119 = true from rfl)))⟩
      · refine Ok_b (aX12_no) ?_
        intro rr hr
        obtain ⟨I7, r8⟩ := rr
        have h_8 := hr
        have m_9 : Ag FwX12_setField I I7 := Ag.tr (Ag.rf (f := I)) (Ag.mo rfl h_8)
        exact Ok_s ⟨m_9, (Ag.rf (f := J))⟩
theorem aX12_lead_b83 {σ : Shp} {R : Nat → Nat → Option Nat} {I : Nat → Nat → Int32} {x2 : Int32} {x3 : Int32} {x4 : Int32} {s0 : Int32} : Ok (gX12_lead_b83 σ R I x2 x3 x4 s0) (fun r => Ag FwX12_lead_b83 I r.1) := by
  unfold gX12_lead_b83
  refine Ok_i (fun g_1 => ?_) (fun _ => ?_)
  · refine Ok_i (fun g_2 => ?_) (fun _ => ?_)
    · refine Ok_g (fun g_3 => ?_)
      refine Ok_g (fun g_4 => ?_)
      exact Ok_s (Ag.st (Ag.rf (f := I)) (keyo (L := [(125, 126)]) (M := FwX12_lead_b83) rfl rfl (show inW [(125, 126)] 125 = true from rfl)))
    · refine Ok_g (fun g_6 => ?_)
      refine Ok_g (fun g_7 => ?_)
      exact Ok_s (Ag.st (Ag.rf (f := I)) (keyo (L := [(126, 127)]) (M := FwX12_lead_b83) rfl rfl (show inW [(126, 127)] 126 = true from rfl)))
  · refine Ok_b (aX12_no) ?_
    intro rr hr
    obtain ⟨I11, r12⟩ := rr
    have h_9 := hr
    have m_10 : Ag FwX12_lead_b83 I I11 := Ag.tr (Ag.rf (f := I)) (Ag.mo rfl h_9)
    exact Ok_s m_10
theorem aX12_lead {σ : Shp} {I : Nat → Nat → Int32} {R : Nat → Nat → Option Nat} {x1 : Int32} {x2 : Int32} {x3 : Int32} : Ok (gX12_lead σ I R x1 x2 x3) (fun r => Ag FwX12_lead I r.1) := by
  unfold gX12_lead
  refine Ok_i (fun g_1 => ?_) (fun _ => ?_)
  · exact Ok_s (Ag.rf (f := I))
  · refine Ok_i (fun g_2 => ?_) (fun _ => ?_)
    · exact Ok_s (Ag.rf (f := I))
    · refine Ok_i (fun g_3 => ?_) (fun _ => ?_)
      · exact Ok_s (Ag.rf (f := I))
      · refine Ok_g (fun g_4 => ?_)
        refine Ok_t ?_
        intro r3
        refine Ok_i (fun g_5 => ?_) (fun _ => ?_)
        · exact Ok_m (aX12_lead_b83) (fun _ hr => (Ag.tr (Ag.rf (f := I)) (Ag.mo rfl hr)))
        · refine Ok_g (fun g_6 => ?_)
          refine Ok_i (fun g_7 => ?_) (fun _ => ?_)
          · refine Ok_t ?_
            intro r17
            refine Ok_i (fun g_8 => ?_) (fun _ => ?_)
            · exact Ok_m (aX12_lead_b83) (fun _ hr => (Ag.tr (Ag.rf (f := I)) (Ag.mo rfl hr)))
            · refine Ok_i (fun g_9 => ?_) (fun _ => ?_)
              · exact Ok_m (aX12_lead_b83) (fun _ hr => (Ag.tr (Ag.rf (f := I)) (Ag.mo rfl hr)))
              · exact Ok_m (aX12_lead_b83) (fun _ hr => (Ag.tr (Ag.rf (f := I)) (Ag.mo rfl hr)))
          · refine Ok_t ?_
            intro r15
            refine Ok_i (fun g_10 => ?_) (fun _ => ?_)
            · exact Ok_m (aX12_lead_b83) (fun _ hr => (Ag.tr (Ag.rf (f := I)) (Ag.mo rfl hr)))
            · refine Ok_i (fun g_11 => ?_) (fun _ => ?_)
              · exact Ok_m (aX12_lead_b83) (fun _ hr => (Ag.tr (Ag.rf (f := I)) (Ag.mo rfl hr)))
              · exact Ok_m (aX12_lead_b83) (fun _ hr => (Ag.tr (Ag.rf (f := I)) (Ag.mo rfl hr)))
theorem aX12_follow {I : Nat → Nat → Int32} {x1 : Int32} {x2 : Int32} {x3 : Int32} : Ok (gX12_follow I x1 x2 x3) (fun r => Ag FwX12_follow I r.1) := by
  unfold gX12_follow
  refine Ok_i (fun g_1 => ?_) (fun _ => ?_)
  · exact Ok_s (Ag.rf (f := I))
  · refine Ok_i (fun g_2 => ?_) (fun _ => ?_)
    · exact Ok_s (Ag.rf (f := I))
    · refine Ok_i (fun g_3 => ?_) (fun _ => ?_)
      · exact Ok_s (Ag.rf (f := I))
      · refine Ok_g (fun g_4 => ?_)
        refine Ok_t ?_
        intro r3
        refine Ok_i (fun g_5 => ?_) (fun _ => ?_)
        · refine Ok_i (fun g_6 => ?_) (fun _ => ?_)
          · refine Ok_g (fun g_7 => ?_)
            refine Ok_g (fun g_8 => ?_)
            exact Ok_s (Ag.st (Ag.rf (f := I)) (keyo (L := [(115, 116)]) (M := FwX12_follow) rfl rfl (show inW [(115, 116)] 115 = true from rfl)))
          · refine Ok_g (fun g_10 => ?_)
            refine Ok_g (fun g_11 => ?_)
            exact Ok_s (Ag.st (Ag.rf (f := I)) (keyo (L := [(115, 116)]) (M := FwX12_follow) rfl rfl (show inW [(115, 116)] 115 = true from rfl)))
        · refine Ok_b (aX12_no) ?_
          intro rr hr
          obtain ⟨I11, r12⟩ := rr
          have h_13 := hr
          have m_14 : Ag FwX12_follow I I11 := Ag.tr (Ag.rf (f := I)) (Ag.mo rfl h_13)
          exact Ok_s m_14
theorem aX12_led_b113 {σ : Shp} {R : Nat → Nat → Option Nat} {I : Nat → Nat → Int32} {x2 : Int32} {x4 : Int32} {x5 : Int32} {x6 : Int32} : Ok (gX12_led_b113 σ R I x2 x4 x5 x6) (fun r => Ag FwX12_led_b113 I r.1) := by
  unfold gX12_led_b113
  refine Ok_i (fun g_1 => ?_) (fun _ => ?_)
  · exact Ok_s (Ag.rf (f := I))
  · refine Ok_i (fun g_2 => ?_) (fun _ => ?_)
    · refine Ok_i (fun g_3 => ?_) (fun _ => ?_)
      · exact Ok_s (Ag.rf (f := I))
      · refine Ok_g (fun g_4 => ?_)
        exact Ok_s (Ag.rf (f := I))
    · refine Ok_g (fun g_5 => ?_)
      exact Ok_s (Ag.rf (f := I))
theorem aX12_led_l64 {σ : Shp} {R : Nat → Nat → Option Nat} : ∀ (n : Nat) (I : Nat → Nat → Int32) (x2 : Int32) (x4 : Int32) (x5 : Int32) (x6 : Int32), Ok (gX12_led_l64 σ R n I x2 x4 x5 x6) (fun r => Ag FwX12_led_l64 I r.1) := by
  intro n
  induction n with
  | zero => intro I x2 x4 x5 x6; exact Ok_e rfl
  | succ n ih =>
    intro I x2 x4 x5 x6
    rw [gX12_led_l64]
    refine Ok_i (fun g_1 => ?_) (fun _ => ?_)
    · exact Ok_m (aX12_led_b113) (fun _ hr => (Ag.tr (Ag.rf (f := I)) (Ag.mo rfl hr)))
    · refine Ok_g (fun g_2 => ?_)
      refine Ok_i (fun g_3 => ?_) (fun _ => ?_)
      · exact Ok_m (aX12_led_b113) (fun _ hr => (Ag.tr (Ag.rf (f := I)) (Ag.mo rfl hr)))
      · refine Ok_g (fun g_5 => ?_)
        exact Ok_m (ih _ _ _ _ _) (fun _ hr => (Ag.tr (Ag.st (Ag.rf (f := I)) (keyo (L := [(133, 134)]) (M := FwX12_led_l64) rfl rfl (show inW [(133, 134)] 133 = true from rfl))) (Ag.mo rfl hr)))
theorem aX12_led {σ : Shp} {I : Nat → Nat → Int32} {R : Nat → Nat → Option Nat} {x1 : Int32} {x2 : Int32} : Ok (gX12_led σ I R x1 x2) (fun r => Ag FwX12_led I r.1) := by
  unfold gX12_led
  refine Ok_i (fun g_1 => ?_) (fun _ => ?_)
  · exact Ok_s (Ag.rf (f := I))
  · refine Ok_i (fun g_2 => ?_) (fun _ => ?_)
    · exact Ok_s (Ag.rf (f := I))
    · refine Ok_g (fun g_3 => ?_)
      refine Ok_t ?_
      intro r2
      refine Ok_i (fun g_4 => ?_) (fun _ => ?_)
      · exact Ok_m (aX12_led_l64  _ _ _ _ _ _) (fun _ hr => (Ag.tr (Ag.st (Ag.rf (f := I)) (show inW FwX12_led (key 114 32) = true from rfl)) (Ag.mo rfl hr)))
      · refine Ok_b (aX12_no) ?_
        intro rr hr
        obtain ⟨I13, r14⟩ := rr
        have h_6 := hr
        have m_7 : Ag FwX12_led I I13 := Ag.tr (Ag.rf (f := I)) (Ag.mo rfl h_6)
        exact Ok_s m_7
theorem aX12_step {I : Nat → Nat → Int32} {x1 : Int32} {x2 : Int32} {x3 : Int32} {x4 : Int32} {x5 : Int32} : Ok (gX12_step I x1 x2 x3 x4 x5) (fun r => Ag FwX12_step I r.1) := by
  unfold gX12_step
  refine Ok_i (fun g_1 => ?_) (fun _ => ?_)
  · exact Ok_s (Ag.rf (f := I))
  · refine Ok_i (fun g_2 => ?_) (fun _ => ?_)
    · exact Ok_s (Ag.rf (f := I))
    · refine Ok_g (fun g_3 => ?_)
      refine Ok_i (fun g_4 => ?_) (fun _ => ?_)
      · exact Ok_s (Ag.rf (f := I))
      · refine Ok_g (fun g_5 => ?_)
        refine Ok_g (fun g_7 => ?_)
        refine Ok_g (fun g_9 => ?_)
        refine Ok_g (fun g_11 => ?_)
        exact Ok_s (Ag.st (Ag.st (Ag.st (Ag.st (Ag.st (Ag.rf (f := I)) (keyo (L := [(135, 136)]) (M := FwX12_step) rfl rfl (show inW [(135, 136)] 135 = true from rfl))) (keyo (L := [(136, 137)]) (M := FwX12_step) rfl rfl (show inW [(136, 137)] 136 = true from rfl))) (keyo (L := [(137, 138)]) (M := FwX12_step) rfl rfl (show inW [(137, 138)] 137 = true from rfl))) (keyo (L := [(138, 139)]) (M := FwX12_step) rfl rfl (show inW [(138, 139)] 138 = true from rfl))) (keyo (L := [(134, 135)]) (M := FwX12_step) rfl rfl (show inW [(134, 135)] 134 = true from rfl)))
theorem aX12_drop {I : Nat → Nat → Int32} {x1 : Int32} : Ok (gX12_drop I x1) (fun r => Ag FwX12_drop I r.1) := by
  unfold gX12_drop
  refine Ok_i (fun g_1 => ?_) (fun _ => ?_)
  · exact Ok_s (Ag.rf (f := I))
  · refine Ok_g (fun g_2 => ?_)
    exact Ok_s (Ag.st (Ag.rf (f := I)) (keyo (L := [(134, 135)]) (M := FwX12_drop) rfl rfl (show inW [(134, 135)] 134 = true from rfl)))
theorem aX12_wrong_b99 {q7 : (Nat → Nat → Int32) → (Int32) → (Int32) → (Int32) → (Int32) → (Option ((Nat → Nat → Int32) × (Int32)))} {σ : Shp} {R : Nat → Nat → Option Nat} {I : Nat → Nat → Int32} {x1 : Int32} {x2 : Int32} {x4 : Int32} {x5 : Int32} (hq7 : ∀ (I : Nat → Nat → Int32) (x1 : Int32) (x2 : Int32) (x3 : Int32) (x4 : Int32), Ok (q7 I x1 x2 x3 x4) (fun r => Ag FwX12_wrong_l7 I r.1)) : Ok (gX12_wrong_b99 q7 σ R I x1 x2 x4 x5) (fun r => Ag FwX12_wrong_b99 I r.1) := by
  unfold gX12_wrong_b99
  refine Ok_i (fun g_1 => ?_) (fun _ => ?_)
  · exact Ok_m (hq7 _ _ _ _ _) (fun _ hr => (Ag.tr (Ag.rf (f := I)) (Ag.mo rfl hr)))
  · refine Ok_g (fun g_2 => ?_)
    exact Ok_m (hq7 _ _ _ _ _) (fun _ hr => (Ag.tr (Ag.st (Ag.rf (f := I)) (keyo (L := [(142, 143)]) (M := FwX12_wrong_b99) rfl rfl (show inW [(142, 143)] 142 = true from rfl))) (Ag.mo rfl hr)))
theorem aX12_wrong_l7 {σ : Shp} {R : Nat → Nat → Option Nat} : ∀ (n : Nat) (I : Nat → Nat → Int32) (x1 : Int32) (x2 : Int32) (x3 : Int32) (x4 : Int32), Ok (gX12_wrong_l7 σ R n I x1 x2 x3 x4) (fun r => Ag FwX12_wrong_l7 I r.1) := by
  intro n
  induction n with
  | zero => intro I x1 x2 x3 x4; exact Ok_e rfl
  | succ n ih =>
    intro I x1 x2 x3 x4
    rw [gX12_wrong_l7]
    refine Ok_g (fun g_1 => ?_)
    refine Ok_i (fun g_2 => ?_) (fun _ => ?_)
    · refine Ok_i (fun g_3 => ?_) (fun _ => ?_)
      · exact Ok_s (Ag.rf (f := I))
      · exact Ok_s (Ag.rf (f := I))
    · refine Ok_g (fun g_4 => ?_)
      refine Ok_i (fun g_5 => ?_) (fun _ => ?_)
      · refine Ok_i (fun g_6 => ?_) (fun _ => ?_)
        · exact Ok_s (Ag.rf (f := I))
        · refine Ok_g (fun g_7 => ?_)
          refine Ok_i (fun g_8 => ?_) (fun _ => ?_)
          · exact Ok_m (ih _ _ _ _ _) (fun _ hr => (Ag.tr (Ag.rf (f := I)) (Ag.mo rfl hr)))
          · refine Ok_i (fun g_9 => ?_) (fun _ => ?_)
            · exact Ok_m (ih _ _ _ _ _) (fun _ hr => (Ag.tr (Ag.rf (f := I)) (Ag.mo rfl hr)))
            · exact Ok_m (ih _ _ _ _ _) (fun _ hr => (Ag.tr (Ag.rf (f := I)) (Ag.mo rfl hr)))
      · refine Ok_i (fun g_10 => ?_) (fun _ => ?_)
        · refine Ok_i (fun g_11 => ?_) (fun _ => ?_)
          · exact Ok_s (Ag.rf (f := I))
          · exact Ok_m (aX12_wrong_b99 ih) (fun _ hr => (Ag.tr (Ag.rf (f := I)) (Ag.mo rfl hr)))
        · refine Ok_i (fun g_12 => ?_) (fun _ => ?_)
          · refine Ok_i (fun g_13 => ?_) (fun _ => ?_)
            · exact Ok_s (Ag.rf (f := I))
            · exact Ok_m (aX12_wrong_b99 ih) (fun _ hr => (Ag.tr (Ag.rf (f := I)) (Ag.mo rfl hr)))
          · exact Ok_m (aX12_wrong_b99 ih) (fun _ hr => (Ag.tr (Ag.rf (f := I)) (Ag.mo rfl hr)))
theorem aX12_wrong {σ : Shp} {I : Nat → Nat → Int32} {R : Nat → Nat → Option Nat} {x1 : Int32} : Ok (gX12_wrong σ I R x1) (fun r => Ag FwX12_wrong I r.1) := by
  unfold gX12_wrong
  exact Ok_m (aX12_wrong_l7  _ _ _ _ _ _) (fun _ hr => (Ag.tr (Ag.rf (f := I)) (Ag.mo rfl hr)))
theorem aX12_formed {σ : Shp} {I : Nat → Nat → Int32} {R : Nat → Nat → Option Nat} {x1 : Int32} : Ok (gX12_formed σ I R x1) (fun r => Ag FwX12_formed I r.1) := by
  unfold gX12_formed
  refine Ok_i (fun g_1 => ?_) (fun _ => ?_)
  · exact Ok_s (Ag.rf (f := I))
  · refine Ok_b (aX12_wrong) ?_
    intro rr hr
    obtain ⟨I1, r2⟩ := rr
    have h_2 := hr
    have m_3 : Ag FwX12_formed I I1 := Ag.tr (Ag.rf (f := I)) (Ag.mo rfl h_2)
    exact Ok_s m_3
theorem aX12_note {I : Nat → Nat → Int32} {J : Nat → Nat → Int64} {x1 : Int32} {x2 : Int64} : Ok (gX12_note I J x1 x2) (fun r => Ag FwX12_note I r.1 ∧ Ag FwX12_note J r.2) := by
  unfold gX12_note
  refine Ok_g (fun g_1 => ?_)
  refine Ok_g (fun g_3 => ?_)
  exact Ok_s ⟨(Ag.st (Ag.st (Ag.rf (f := I)) (keyo (L := [(154, 155)]) (M := FwX12_note) rfl rfl (show inW [(154, 155)] 154 = true from rfl))) (show inW FwX12_note (key 114 54) = true from rfl)), (Ag.st (Ag.rf (f := J)) (keyo (L := [(155, 156)]) (M := FwX12_note) rfl rfl (show inW [(155, 156)] 155 = true from rfl)))⟩
theorem aX12_setCell {I : Nat → Nat → Int32} {J : Nat → Nat → Int64} {x1 : Int32} {x2 : Int64} : Ok (gX12_setCell I J x1 x2) (fun r => Ag FwX12_setCell I r.1 ∧ Ag FwX12_setCell J r.2) := by
  unfold gX12_setCell
  refine Ok_g (fun g_1 => ?_)
  refine Ok_b (aX12_note) ?_
  intro rr hr
  obtain ⟨I2, J3⟩ := rr
  obtain ⟨h_2, h_3⟩ := hr
  have m_4 : Ag FwX12_setCell I I2 := Ag.tr (Ag.rf (f := I)) (Ag.mo rfl h_2)
  have m_5 : Ag FwX12_setCell J J3 := Ag.tr (Ag.rf (f := J)) (Ag.mo rfl h_3)
  exact Ok_s ⟨m_4, (Ag.st m_5 (keyo (L := [(119, 120)]) (M := FwX12_setCell) rfl rfl (show inW [(119, 120)] 119 = true from rfl)))⟩
theorem aX12_changeStock {I : Nat → Nat → Int32} {J : Nat → Nat → Int64} {x1 : Int32} {x2 : Int64} : Ok (gX12_changeStock I J x1 x2) (fun r => Ag FwX12_changeStock I r.1 ∧ Ag FwX12_changeStock J r.2) := by
  unfold gX12_changeStock
  refine Ok_g (fun g_1 => ?_)
  refine Ok_b (aX12_note) ?_
  intro rr hr
  obtain ⟨I2, J3⟩ := rr
  obtain ⟨h_2, h_3⟩ := hr
  have m_4 : Ag FwX12_changeStock I I2 := Ag.tr (Ag.rf (f := I)) (Ag.mo rfl h_2)
  have m_5 : Ag FwX12_changeStock J J3 := Ag.tr (Ag.rf (f := J)) (Ag.mo rfl h_3)
  exact Ok_s ⟨m_4, (Ag.st m_5 (keyo (L := [(139, 140)]) (M := FwX12_changeStock) rfl rfl (show inW [(139, 140)] 139 = true from rfl)))⟩
theorem aX12_undoTo_l0 {σ : Shp} {R : Nat → Nat → Option Nat} : ∀ (n : Nat) (I : Nat → Nat → Int32) (J : Nat → Nat → Int64) (x1 : Int32), Ok (gX12_undoTo_l0 σ R n I J x1) (fun r => Ag FwX12_undoTo_l0 I r.1 ∧ Ag FwX12_undoTo_l0 J r.2) := by
  intro n
  induction n with
  | zero => intro I J x1; exact Ok_e rfl
  | succ n ih =>
    intro I J x1
    rw [gX12_undoTo_l0]
    refine Ok_i (fun g_1 => ?_) (fun _ => ?_)
    · exact Ok_s ⟨(Ag.rf (f := I)), (Ag.rf (f := J))⟩
    · refine Ok_g (fun g_3 => ?_)
      refine Ok_i (fun g_4 => ?_) (fun _ => ?_)
      · refine Ok_g (fun g_5 => ?_)
        refine Ok_g (fun g_6 => ?_)
        exact Ok_m (ih _ _ _) (fun _ ⟨h0, h1⟩ => ⟨(Ag.tr (Ag.st (Ag.rf (f := I)) (show inW FwX12_undoTo_l0 (key 114 54) = true from rfl)) (Ag.mo rfl h0)), (Ag.tr (Ag.st (Ag.rf (f := J)) (keyo (L := [(119, 120)]) (M := FwX12_undoTo_l0) rfl rfl (show inW [(119, 120)] 119 = true from rfl))) (Ag.mo rfl h1))⟩)
      · refine Ok_g (fun g_8 => ?_)
        refine Ok_g (fun g_9 => ?_)
        exact Ok_m (ih _ _ _) (fun _ ⟨h0, h1⟩ => ⟨(Ag.tr (Ag.st (Ag.rf (f := I)) (show inW FwX12_undoTo_l0 (key 114 54) = true from rfl)) (Ag.mo rfl h0)), (Ag.tr (Ag.st (Ag.rf (f := J)) (keyo (L := [(139, 140)]) (M := FwX12_undoTo_l0) rfl rfl (show inW [(139, 140)] 139 = true from rfl))) (Ag.mo rfl h1))⟩)
theorem aX12_undoTo {σ : Shp} {I : Nat → Nat → Int32} {J : Nat → Nat → Int64} {R : Nat → Nat → Option Nat} {x1 : Int32} : Ok (gX12_undoTo σ I J R x1) (fun r => Ag FwX12_undoTo I r.1 ∧ Ag FwX12_undoTo J r.2) := by
  unfold gX12_undoTo
  exact Ok_m (aX12_undoTo_l0  _ _ _ _) (fun _ ⟨h0, h1⟩ => ⟨(Ag.tr (Ag.rf (f := I)) (Ag.mo rfl h0)), (Ag.tr (Ag.rf (f := J)) (Ag.mo rfl h1))⟩)
theorem aX12_fails_b22 {σ : Shp} {I : Nat → Nat → Int32} {s0 : Option Nat} {s1 : Int32} (hs_s0 : Cin [(114, 115)] s0) : Ok (gX12_fails_b22 σ I s0 s1) (fun r => Ag FwX12_fails_b22 I r) := by
  unfold gX12_fails_b22
  refine Ok_bc (fun a3 e_1 => ?_)
  refine Ok_g (fun g_2 => ?_)
  exact Ok_s (Ag.st (Ag.st (Ag.st (Ag.st (Ag.st (Ag.rf (f := I)) (keyv (a := a3) (c := 114) (inW_1 (inW_mo (L := [(114, 115)]) (M := [(114, 115)]) rfl (Cin.get hs_s0 e_1))) (show inW FwX12_fails_b22 (key 114 61) = true from rfl))) (show inW FwX12_fails_b22 (key 114 62) = true from rfl)) (show inW FwX12_fails_b22 (key 114 63) = true from rfl)) (show inW FwX12_fails_b22 (key 114 70) = true from rfl)) (show inW FwX12_fails_b22 (key 114 1) = true from rfl))
theorem aX12_fails {σ : Shp} {I : Nat → Nat → Int32} {x1 : Int32} {x2 : Int32} : Ok (gX12_fails σ I x1 x2) (fun r => Ag FwX12_fails I r) := by
  unfold gX12_fails
  refine Ok_i (fun g_3 => ?_) (fun _ => ?_)
  · exact Ok_m (aX12_fails_b22 ⟨_, rfl, (show inW [(114, 115)] 114 = true from rfl)⟩) (fun _ hr => (Ag.tr (Ag.st (Ag.st (Ag.rf (f := I)) (show inW FwX12_fails (key 114 59) = true from rfl)) (show inW FwX12_fails (key 114 60) = true from rfl)) (Ag.mo rfl hr)))
  · exact Ok_m (aX12_fails_b22 ⟨_, rfl, (show inW [(114, 115)] 114 = true from rfl)⟩) (fun _ hr => (Ag.tr (Ag.st (Ag.st (Ag.rf (f := I)) (show inW FwX12_fails (key 114 59) = true from rfl)) (show inW FwX12_fails (key 114 60) = true from rfl)) (Ag.mo rfl hr)))
theorem aX12_push {I : Nat → Nat → Int32} {x1 : Int32} : Ok (gX12_push I x1) (fun r => Ag FwX12_push I r) := by
  unfold gX12_push
  refine Ok_g (fun g_1 => ?_)
  refine Ok_g (fun g_3 => ?_)
  refine Ok_g (fun g_5 => ?_)
  refine Ok_g (fun g_7 => ?_)
  refine Ok_g (fun g_9 => ?_)
  exact Ok_s (Ag.st (Ag.st (Ag.st (Ag.st (Ag.st (Ag.st (Ag.rf (f := I)) (keyo (L := [(143, 144)]) (M := FwX12_push) rfl rfl (show inW [(143, 144)] 143 = true from rfl))) (keyo (L := [(144, 145)]) (M := FwX12_push) rfl rfl (show inW [(144, 145)] 144 = true from rfl))) (keyo (L := [(145, 146)]) (M := FwX12_push) rfl rfl (show inW [(145, 146)] 145 = true from rfl))) (keyo (L := [(146, 147)]) (M := FwX12_push) rfl rfl (show inW [(146, 147)] 146 = true from rfl))) (keyo (L := [(147, 148)]) (M := FwX12_push) rfl rfl (show inW [(147, 148)] 147 = true from rfl))) (show inW FwX12_push (key 114 42) = true from rfl))
theorem aX12_enter_b194 {σ : Shp} {R : Nat → Nat → Option Nat} {I : Nat → Nat → Int32} {J : Nat → Nat → Int64} {x1 : Int32} : Ok (gX12_enter_b194 σ R I J x1) (fun r => Ag FwX12_enter_b194 I r.1 ∧ Ag FwX12_enter_b194 J r.2) := by
  unfold gX12_enter_b194
  refine Ok_b (aX12_push) ?_
  intro I4 hr
  have h_1 := hr
  have m_2 : Ag FwX12_enter_b194 I I4 := Ag.tr (Ag.rf (f := I)) (Ag.mo rfl h_1)
  refine Ok_i (fun g_3 => ?_) (fun _ => ?_)
  · refine Ok_t ?_
    intro r25
    refine Ok_g (fun g_4 => ?_)
    refine Ok_g (fun g_6 => ?_)
    refine Ok_g (fun g_7 => ?_)
    refine Ok_g (fun g_8 => ?_)
    refine Ok_i (fun g_9 => ?_) (fun _ => ?_)
    · exact Ok_s ⟨(Ag.st (Ag.st (Ag.st m_2 (keyo (L := [(141, 142)]) (M := FwX12_enter_b194) rfl rfl (show inW [(141, 142)] 141 = true from rfl))) (show inW FwX12_enter_b194 (key 114 69) = true from rfl)) (show inW FwX12_enter_b194 (key 114 58) = true from rfl)), (Ag.rf (f := J))⟩
    · exact Ok_s ⟨(Ag.st (Ag.st (Ag.st m_2 (keyo (L := [(141, 142)]) (M := FwX12_enter_b194) rfl rfl (show inW [(141, 142)] 141 = true from rfl))) (show inW FwX12_enter_b194 (key 114 69) = true from rfl)) (show inW FwX12_enter_b194 (key 114 58) = true from rfl)), (Ag.rf (f := J))⟩
  · refine Ok_i (fun g_14 => ?_) (fun _ => ?_)
    · refine Ok_t ?_
      intro r14
      refine Ok_t ?_
      intro r16
      refine Ok_g (fun g_15 => ?_)
      refine Ok_t ?_
      intro r19
      refine Ok_b (aX12_changeStock) ?_
      intro rr hr
      obtain ⟨I21, J22⟩ := rr
      obtain ⟨h_16, h_17⟩ := hr
      have m_18 : Ag FwX12_enter_b194 I I21 := Ag.tr m_2 (Ag.mo rfl h_16)
      have m_19 : Ag FwX12_enter_b194 J J22 := Ag.tr (Ag.rf (f := J)) (Ag.mo rfl h_17)
      exact Ok_s ⟨(Ag.st m_18 (show inW FwX12_enter_b194 (key 114 58) = true from rfl)), m_19⟩
    · refine Ok_i (fun g_21 => ?_) (fun _ => ?_)
      · refine Ok_t ?_
        intro r7
        refine Ok_t ?_
        intro r9
        refine Ok_g (fun g_22 => ?_)
        exact Ok_s ⟨(Ag.st (Ag.st m_2 (keyo (L := [(140, 141)]) (M := FwX12_enter_b194) rfl rfl (show inW [(140, 141)] 140 = true from rfl))) (show inW FwX12_enter_b194 (key 114 58) = true from rfl)), (Ag.rf (f := J))⟩
      · exact Ok_s ⟨(Ag.st m_2 (show inW FwX12_enter_b194 (key 114 58) = true from rfl)), (Ag.rf (f := J))⟩
theorem aX12_enter_b161 {σ : Shp} {R : Nat → Nat → Option Nat} {I : Nat → Nat → Int32} {J : Nat → Nat → Int64} {x1 : Int32} : Ok (gX12_enter_b161 σ R I J x1) (fun r => Ag FwX12_enter_b161 I r.1 ∧ Ag FwX12_enter_b161 J r.2) := by
  unfold gX12_enter_b161
  refine Ok_t ?_
  intro r1
  refine Ok_g (fun g_1 => ?_)
  refine Ok_i (fun g_2 => ?_) (fun _ => ?_)
  · exact Ok_m (aX12_enter_b194) (fun _ ⟨h0, h1⟩ => ⟨(Ag.tr (Ag.rf (f := I)) (Ag.mo rfl h0)), (Ag.tr (Ag.rf (f := J)) (Ag.mo rfl h1))⟩)
  · refine Ok_t ?_
    intro r37
    exact Ok_s ⟨(Ag.st (Ag.rf (f := I)) (show inW FwX12_enter_b161 (key 114 58) = true from rfl)), (Ag.rf (f := J))⟩
theorem aX12_enter_b121 {σ : Shp} {R : Nat → Nat → Option Nat} {I : Nat → Nat → Int32} {J : Nat → Nat → Int64} {x1 : Int32} : Ok (gX12_enter_b121 σ R I J x1) (fun r => Ag FwX12_enter_b121 I r.1 ∧ Ag FwX12_enter_b121 J r.2) := by
  unfold gX12_enter_b121
  refine Ok_i (fun g_1 => ?_) (fun _ => ?_)
  · refine Ok_t ?_
    intro r40
    refine Ok_i (fun g_2 => ?_) (fun _ => ?_)
    · refine Ok_b (aX12_fails) ?_
      intro I42 hr
      have h_3 := hr
      have m_4 : Ag FwX12_enter_b121 I I42 := Ag.tr (Ag.rf (f := I)) (Ag.mo rfl h_3)
      exact Ok_s ⟨m_4, (Ag.rf (f := J))⟩
    · refine Ok_i (fun g_5 => ?_) (fun _ => ?_)
      · exact Ok_m (aX12_enter_b161) (fun _ ⟨h0, h1⟩ => ⟨(Ag.tr (Ag.rf (f := I)) (Ag.mo rfl h0)), (Ag.tr (Ag.rf (f := J)) (Ag.mo rfl h1))⟩)
      · refine Ok_i (fun g_6 => ?_) (fun _ => ?_)
        · exact Ok_m (aX12_enter_b161) (fun _ ⟨h0, h1⟩ => ⟨(Ag.tr (Ag.rf (f := I)) (Ag.mo rfl h0)), (Ag.tr (Ag.rf (f := J)) (Ag.mo rfl h1))⟩)
        · exact Ok_m (aX12_enter_b194) (fun _ ⟨h0, h1⟩ => ⟨(Ag.tr (Ag.rf (f := I)) (Ag.mo rfl h0)), (Ag.tr (Ag.rf (f := J)) (Ag.mo rfl h1))⟩)
  · refine Ok_i (fun g_7 => ?_) (fun _ => ?_)
    · exact Ok_m (aX12_enter_b161) (fun _ ⟨h0, h1⟩ => ⟨(Ag.tr (Ag.rf (f := I)) (Ag.mo rfl h0)), (Ag.tr (Ag.rf (f := J)) (Ag.mo rfl h1))⟩)
    · refine Ok_i (fun g_8 => ?_) (fun _ => ?_)
      · exact Ok_m (aX12_enter_b161) (fun _ ⟨h0, h1⟩ => ⟨(Ag.tr (Ag.rf (f := I)) (Ag.mo rfl h0)), (Ag.tr (Ag.rf (f := J)) (Ag.mo rfl h1))⟩)
      · exact Ok_m (aX12_enter_b194) (fun _ ⟨h0, h1⟩ => ⟨(Ag.tr (Ag.rf (f := I)) (Ag.mo rfl h0)), (Ag.tr (Ag.rf (f := J)) (Ag.mo rfl h1))⟩)
theorem aX12_enter_b81 {σ : Shp} {R : Nat → Nat → Option Nat} {I : Nat → Nat → Int32} {J : Nat → Nat → Int64} {x1 : Int32} : Ok (gX12_enter_b81 σ R I J x1) (fun r => Ag FwX12_enter_b81 I r.1 ∧ Ag FwX12_enter_b81 J r.2) := by
  unfold gX12_enter_b81
  refine Ok_i (fun g_1 => ?_) (fun _ => ?_)
  · refine Ok_t ?_
    intro r44
    refine Ok_i (fun g_2 => ?_) (fun _ => ?_)
    · refine Ok_b (aX12_fails) ?_
      intro I46 hr
      have h_3 := hr
      have m_4 : Ag FwX12_enter_b81 I I46 := Ag.tr (Ag.rf (f := I)) (Ag.mo rfl h_3)
      exact Ok_s ⟨m_4, (Ag.rf (f := J))⟩
    · refine Ok_t ?_
      intro r48
      refine Ok_g (fun g_5 => ?_)
      refine Ok_t ?_
      intro r51
      refine Ok_i (fun g_6 => ?_) (fun _ => ?_)
      · exact Ok_m (aX12_enter_b121) (fun _ ⟨h0, h1⟩ => ⟨(Ag.tr (Ag.rf (f := I)) (Ag.mo rfl h0)), (Ag.tr (Ag.rf (f := J)) (Ag.mo rfl h1))⟩)
      · refine Ok_b (aX12_fails) ?_
        intro I53 hr
        have h_7 := hr
        have m_8 : Ag FwX12_enter_b81 I I53 := Ag.tr (Ag.rf (f := I)) (Ag.mo rfl h_7)
        exact Ok_s ⟨m_8, (Ag.rf (f := J))⟩
  · exact Ok_m (aX12_enter_b121) (fun _ ⟨h0, h1⟩ => ⟨(Ag.tr (Ag.rf (f := I)) (Ag.mo rfl h0)), (Ag.tr (Ag.rf (f := J)) (Ag.mo rfl h1))⟩)
theorem aX12_enter_b58 {σ : Shp} {R : Nat → Nat → Option Nat} {I : Nat → Nat → Int32} {J : Nat → Nat → Int64} {x1 : Int32} {x3 : Int32} : Ok (gX12_enter_b58 σ R I J x1 x3) (fun r => Ag FwX12_enter_b58 I r.1 ∧ Ag FwX12_enter_b58 J r.2) := by
  unfold gX12_enter_b58
  refine Ok_i (fun g_1 => ?_) (fun _ => ?_)
  · exact Ok_m (aX12_enter_b81) (fun _ ⟨h0, h1⟩ => ⟨(Ag.tr (Ag.rf (f := I)) (Ag.mo rfl h0)), (Ag.tr (Ag.rf (f := J)) (Ag.mo rfl h1))⟩)
  · refine Ok_t ?_
    intro r55
    refine Ok_i (fun g_2 => ?_) (fun _ => ?_)
    · refine Ok_b (aX12_fails) ?_
      intro I57 hr
      have h_3 := hr
      have m_4 : Ag FwX12_enter_b58 I I57 := Ag.tr (Ag.rf (f := I)) (Ag.mo rfl h_3)
      exact Ok_s ⟨m_4, (Ag.rf (f := J))⟩
    · exact Ok_m (aX12_enter_b81) (fun _ ⟨h0, h1⟩ => ⟨(Ag.tr (Ag.rf (f := I)) (Ag.mo rfl h0)), (Ag.tr (Ag.rf (f := J)) (Ag.mo rfl h1))⟩)
theorem aX12_enter_b41 {σ : Shp} {R : Nat → Nat → Option Nat} {I : Nat → Nat → Int32} {J : Nat → Nat → Int64} {x1 : Int32} {x2 : Int32} {s0 : Int32} : Ok (gX12_enter_b41 σ R I J x1 x2 s0) (fun r => Ag FwX12_enter_b41 I r.1 ∧ Ag FwX12_enter_b41 J r.2) := by
  unfold gX12_enter_b41
  refine Ok_i (fun g_1 => ?_) (fun _ => ?_)
  · exact Ok_m (aX12_enter_b58) (fun _ ⟨h0, h1⟩ => ⟨(Ag.tr (Ag.rf (f := I)) (Ag.mo rfl h0)), (Ag.tr (Ag.rf (f := J)) (Ag.mo rfl h1))⟩)
  · refine Ok_t ?_
    intro r59
    refine Ok_i (fun g_2 => ?_) (fun _ => ?_)
    · refine Ok_b (aX12_fails) ?_
      intro I61 hr
      have h_3 := hr
      have m_4 : Ag FwX12_enter_b41 I I61 := Ag.tr (Ag.rf (f := I)) (Ag.mo rfl h_3)
      exact Ok_s ⟨m_4, (Ag.rf (f := J))⟩
    · exact Ok_m (aX12_enter_b58) (fun _ ⟨h0, h1⟩ => ⟨(Ag.tr (Ag.rf (f := I)) (Ag.mo rfl h0)), (Ag.tr (Ag.rf (f := J)) (Ag.mo rfl h1))⟩)
theorem aX12_enter_b23 {σ : Shp} {R : Nat → Nat → Option Nat} {I : Nat → Nat → Int32} {J : Nat → Nat → Int64} {x1 : Int32} {s0 : Int32} : Ok (gX12_enter_b23 σ R I J x1 s0) (fun r => Ag FwX12_enter_b23 I r.1 ∧ Ag FwX12_enter_b23 J r.2) := by
  unfold gX12_enter_b23
  refine Ok_i (fun g_1 => ?_) (fun _ => ?_)
  · exact Ok_m (aX12_enter_b41) (fun _ ⟨h0, h1⟩ => ⟨(Ag.tr (Ag.rf (f := I)) (Ag.mo rfl h0)), (Ag.tr (Ag.rf (f := J)) (Ag.mo rfl h1))⟩)
  · refine Ok_i (fun g_2 => ?_) (fun _ => ?_)
    · exact Ok_m (aX12_enter_b41) (fun _ ⟨h0, h1⟩ => ⟨(Ag.tr (Ag.rf (f := I)) (Ag.mo rfl h0)), (Ag.tr (Ag.rf (f := J)) (Ag.mo rfl h1))⟩)
    · exact Ok_m (aX12_enter_b41) (fun _ ⟨h0, h1⟩ => ⟨(Ag.tr (Ag.rf (f := I)) (Ag.mo rfl h0)), (Ag.tr (Ag.rf (f := J)) (Ag.mo rfl h1))⟩)
theorem aX12_enter {σ : Shp} {I : Nat → Nat → Int32} {J : Nat → Nat → Int64} {R : Nat → Nat → Option Nat} {x1 : Int32} : Ok (gX12_enter σ I J R x1) (fun r => Ag FwX12_enter I r.1 ∧ Ag FwX12_enter J r.2) := by
  unfold gX12_enter
  refine Ok_i (fun g_1 => ?_) (fun _ => ?_)
  · exact Ok_m (aX12_enter_b23) (fun _ ⟨h0, h1⟩ => ⟨(Ag.tr (Ag.rf (f := I)) (Ag.mo rfl h0)), (Ag.tr (Ag.rf (f := J)) (Ag.mo rfl h1))⟩)
  · refine Ok_i (fun g_2 => ?_) (fun _ => ?_)
    · exact Ok_m (aX12_enter_b23) (fun _ ⟨h0, h1⟩ => ⟨(Ag.tr (Ag.rf (f := I)) (Ag.mo rfl h0)), (Ag.tr (Ag.rf (f := J)) (Ag.mo rfl h1))⟩)
    · refine Ok_i (fun g_3 => ?_) (fun _ => ?_)
      · exact Ok_m (aX12_enter_b23) (fun _ ⟨h0, h1⟩ => ⟨(Ag.tr (Ag.rf (f := I)) (Ag.mo rfl h0)), (Ag.tr (Ag.rf (f := J)) (Ag.mo rfl h1))⟩)
      · exact Ok_m (aX12_enter_b23) (fun _ ⟨h0, h1⟩ => ⟨(Ag.tr (Ag.rf (f := I)) (Ag.mo rfl h0)), (Ag.tr (Ag.rf (f := J)) (Ag.mo rfl h1))⟩)
theorem aX12_plain_b100 {σ : Shp} {R : Nat → Nat → Option Nat} {I : Nat → Nat → Int32} {J : Nat → Nat → Int64} {x1 : Int32} : Ok (gX12_plain_b100 σ R I J x1) (fun r => Ag FwX12_plain_b100 I r.1 ∧ Ag FwX12_plain_b100 J r.2.1) := by
  unfold gX12_plain_b100
  refine Ok_t ?_
  intro r35
  refine Ok_g (fun g_1 => ?_)
  refine Ok_t ?_
  intro r39
  refine Ok_t ?_
  intro r41
  refine Ok_i (fun g_2 => ?_) (fun _ => ?_)
  · refine Ok_i (fun g_3 => ?_) (fun _ => ?_)
    · refine Ok_g (fun g_4 => ?_)
      refine Ok_t ?_
      intro r53
      refine Ok_t ?_
      intro r55
      refine Ok_b (aX12_setCell) ?_
      intro rr hr
      obtain ⟨I57, J58⟩ := rr
      obtain ⟨h_5, h_6⟩ := hr
      have m_7 : Ag FwX12_plain_b100 I I57 := Ag.tr (Ag.rf (f := I)) (Ag.mo rfl h_5)
      have m_8 : Ag FwX12_plain_b100 J J58 := Ag.tr (Ag.rf (f := J)) (Ag.mo rfl h_6)
      exact Ok_s ⟨m_7, m_8⟩
    · refine Ok_t ?_
      intro r43
      refine Ok_g (fun g_9 => ?_)
      refine Ok_t ?_
      intro r46
      refine Ok_g (fun g_10 => ?_)
      refine Ok_b (aX12_changeStock) ?_
      intro rr hr
      obtain ⟨I49, J50⟩ := rr
      obtain ⟨h_11, h_12⟩ := hr
      have m_13 : Ag FwX12_plain_b100 I I49 := Ag.tr (Ag.rf (f := I)) (Ag.mo rfl h_11)
      have m_14 : Ag FwX12_plain_b100 J J50 := Ag.tr (Ag.rf (f := J)) (Ag.mo rfl h_12)
      exact Ok_s ⟨m_13, m_14⟩
  · exact Ok_s ⟨(Ag.rf (f := I)), (Ag.rf (f := J))⟩
theorem aX12_plain {σ : Shp} {I : Nat → Nat → Int32} {J : Nat → Nat → Int64} {R : Nat → Nat → Option Nat} {x1 : Int32} (hS : Skel σ R) : Ok (gX12_plain σ I J R x1) (fun r => Ag FwX12_plain I r.1 ∧ Ag FwX12_plain J r.2.1) := by
  unfold gX12_plain
  refine Ok_i (fun g_1 => ?_) (fun _ => ?_)
  · refine Ok_t ?_
    intro r73
    refine Ok_t ?_
    intro r75
    refine Ok_g (fun g_2 => ?_)
    refine Ok_t ?_
    intro r78
    refine Ok_b (aX12_changeStock) ?_
    intro rr hr
    obtain ⟨I80, J81⟩ := rr
    obtain ⟨h_3, h_4⟩ := hr
    have m_5 : Ag FwX12_plain I I80 := Ag.tr (Ag.rf (f := I)) (Ag.mo rfl h_3)
    have m_6 : Ag FwX12_plain J J81 := Ag.tr (Ag.rf (f := J)) (Ag.mo rfl h_4)
    exact Ok_s ⟨m_5, m_6⟩
  · refine Ok_i (fun g_7 => ?_) (fun _ => ?_)
    · refine Ok_t ?_
      intro r60
      refine Ok_i (fun g_8 => ?_) (fun _ => ?_)
      · exact Ok_s ⟨(Ag.rf (f := I)), (Ag.rf (f := J))⟩
      · refine Ok_t ?_
        intro r62
        refine Ok_t ?_
        intro r64
        refine Ok_g (fun g_9 => ?_)
        refine Ok_t ?_
        intro r67
        refine Ok_g (fun g_10 => ?_)
        refine Ok_b (aX12_changeStock) ?_
        intro rr hr
        obtain ⟨I70, J71⟩ := rr
        obtain ⟨h_11, h_12⟩ := hr
        have m_13 : Ag FwX12_plain I I70 := Ag.tr (Ag.rf (f := I)) (Ag.mo rfl h_11)
        have m_14 : Ag FwX12_plain J J71 := Ag.tr (Ag.rf (f := J)) (Ag.mo rfl h_12)
        exact Ok_s ⟨m_13, m_14⟩
    · refine Ok_i (fun g_15 => ?_) (fun _ => ?_)
      · exact Ok_m (aX12_plain_b100) (fun _ ⟨h0, h1⟩ => ⟨(Ag.tr (Ag.rf (f := I)) (Ag.mo rfl h0)), (Ag.tr (Ag.rf (f := J)) (Ag.mo rfl h1))⟩)
      · refine Ok_i (fun g_16 => ?_) (fun _ => ?_)
        · exact Ok_m (aX12_plain_b100) (fun _ ⟨h0, h1⟩ => ⟨(Ag.tr (Ag.rf (f := I)) (Ag.mo rfl h0)), (Ag.tr (Ag.rf (f := J)) (Ag.mo rfl h1))⟩)
        · refine Ok_i (fun g_17 => ?_) (fun _ => ?_)
          · refine Ok_t ?_
            intro r23
            refine Ok_g (fun g_18 => ?_)
            refine Ok_t ?_
            intro r27
            refine Ok_i (fun g_19 => ?_) (fun _ => ?_)
            · refine Ok_g (fun g_20 => ?_)
              refine Ok_t ?_
              intro r30
              refine Ok_b (aX12_setCell) ?_
              intro rr hr
              obtain ⟨I32, J33⟩ := rr
              obtain ⟨h_21, h_22⟩ := hr
              have m_23 : Ag FwX12_plain I I32 := Ag.tr (Ag.rf (f := I)) (Ag.mo rfl h_21)
              have m_24 : Ag FwX12_plain J J33 := Ag.tr (Ag.rf (f := J)) (Ag.mo rfl h_22)
              exact Ok_s ⟨m_23, m_24⟩
            · exact Ok_s ⟨(Ag.rf (f := I)), (Ag.rf (f := J))⟩
          · refine Ok_i (fun g_25 => ?_) (fun _ => ?_)
            · refine Ok_t ?_
              intro r10
              refine Ok_g (fun g_26 => ?_)
              refine Ok_t ?_
              intro r13
              refine Ok_b (aX12_askOf hS) ?_
              intro rr hr
              obtain ⟨I15, r16⟩ := rr
              have h_27 := hr
              have m_28 : Ag FwX12_plain I I15 := Ag.tr (Ag.rf (f := I)) (Ag.mo rfl h_27)
              refine Ok_i (fun g_29 => ?_) (fun _ => ?_)
              · refine Ok_t ?_
                intro r18
                refine Ok_b (aX12_changeStock) ?_
                intro rr hr
                obtain ⟨I20, J21⟩ := rr
                obtain ⟨h_30, h_31⟩ := hr
                have m_32 : Ag FwX12_plain I I20 := Ag.tr m_28 (Ag.mo rfl h_30)
                have m_33 : Ag FwX12_plain J J21 := Ag.tr (Ag.rf (f := J)) (Ag.mo rfl h_31)
                exact Ok_s ⟨m_32, m_33⟩
              · exact Ok_s ⟨m_28, (Ag.rf (f := J))⟩
            · refine Ok_t ?_
              intro r7
              refine Ok_g (fun g_34 => ?_)
              refine Ok_i (fun g_35 => ?_) (fun _ => ?_)
              · exact Ok_s ⟨(Ag.rf (f := I)), (Ag.rf (f := J))⟩
              · exact Ok_s ⟨(Ag.rf (f := I)), (Ag.rf (f := J))⟩
theorem aX12_isStep {I : Nat → Nat → Int32} : Ok (gX12_isStep I) (fun r => Ag FwX12_isStep I r.1) := by
  unfold gX12_isStep
  refine Ok_i (fun g_1 => ?_) (fun _ => ?_)
  · exact Ok_s (Ag.st (Ag.rf (f := I)) (show inW FwX12_isStep (key 114 59) = true from rfl))
  · exact Ok_s (Ag.st (Ag.rf (f := I)) (show inW FwX12_isStep (key 114 65) = true from rfl))
theorem aX12_call {σ : Shp} {I : Nat → Nat → Int32} {R : Nat → Nat → Option Nat} : Ok (gX12_call σ I R) (fun r => Ag FwX12_call I r) := by
  unfold gX12_call
  refine Ok_t ?_
  intro r1
  refine Ok_b (aX12_wrong) ?_
  intro rr hr
  obtain ⟨I3, r4⟩ := rr
  have h_1 := hr
  have m_2 : Ag FwX12_call I I3 := Ag.tr (Ag.rf (f := I)) (Ag.mo rfl h_1)
  refine Ok_i (fun g_3 => ?_) (fun _ => ?_)
  · refine Ok_i (fun g_4 => ?_) (fun _ => ?_)
    · refine Ok_b (aX12_fails) ?_
      intro I13 hr
      have h_5 := hr
      have m_6 : Ag FwX12_call I I13 := Ag.tr m_2 (Ag.mo rfl h_5)
      exact Ok_s m_6
    · refine Ok_t ?_
      intro r6
      refine Ok_b (aX12_push) ?_
      intro I8 hr
      have h_7 := hr
      have m_8 : Ag FwX12_call I I8 := Ag.tr m_2 (Ag.mo rfl h_7)
      exact Ok_s (Ag.st (Ag.st (Ag.st m_8 (show inW FwX12_call (key 114 66) = true from rfl)) (show inW FwX12_call (key 114 57) = true from rfl)) (show inW FwX12_call (key 114 58) = true from rfl))
  · refine Ok_b (aX12_fails) ?_
    intro I15 hr
    have h_12 := hr
    have m_13 : Ag FwX12_call I I15 := Ag.tr m_2 (Ag.mo rfl h_12)
    exact Ok_s m_13
theorem aX12_begin {σ : Shp} {I : Nat → Nat → Int32} {J : Nat → Nat → Int64} {R : Nat → Nat → Option Nat} {x1 : Int32} (hS : Skel σ R) : Ok (gX12_begin σ I J R x1) (fun r => Ag FwX12_begin I r.1 ∧ Ag FwX12_begin J r.2) := by
  unfold gX12_begin
  refine Ok_b (aX12_isStep) ?_
  intro rr hr
  obtain ⟨I1, r2⟩ := rr
  have h_1 := hr
  have m_2 : Ag FwX12_begin I I1 := Ag.tr (Ag.rf (f := I)) (Ag.mo rfl h_1)
  refine Ok_i (fun g_3 => ?_) (fun _ => ?_)
  · exact Ok_s ⟨m_2, (Ag.rf (f := J))⟩
  · refine Ok_i (fun g_4 => ?_) (fun _ => ?_)
    · refine Ok_t ?_
      intro r4
      refine Ok_i (fun g_5 => ?_) (fun _ => ?_)
      · refine Ok_b (aX12_fails) ?_
        intro I23 hr
        have h_6 := hr
        have m_7 : Ag FwX12_begin I I23 := Ag.tr m_2 (Ag.mo rfl h_6)
        exact Ok_s ⟨m_7, (Ag.rf (f := J))⟩
      · refine Ok_i (fun g_8 => ?_) (fun _ => ?_)
        · refine Ok_t ?_
          intro r19
          refine Ok_b (aX12_fails) ?_
          intro I21 hr
          have h_9 := hr
          have m_10 : Ag FwX12_begin I I21 := Ag.tr m_2 (Ag.mo rfl h_9)
          exact Ok_s ⟨m_10, (Ag.rf (f := J))⟩
        · refine Ok_i (fun g_11 => ?_) (fun _ => ?_)
          · refine Ok_t ?_
            intro r16
            exact Ok_s ⟨(Ag.st (Ag.st m_2 (show inW FwX12_begin (key 114 59) = true from rfl)) (show inW FwX12_begin (key 114 64) = true from rfl)), (Ag.rf (f := J))⟩
          · refine Ok_i (fun g_14 => ?_) (fun _ => ?_)
            · refine Ok_b (aX12_call) ?_
              intro I13 hr
              have h_15 := hr
              have m_16 : Ag FwX12_begin I I13 := Ag.tr m_2 (Ag.mo rfl h_15)
              exact Ok_s ⟨m_16, (Ag.rf (f := J))⟩
            · refine Ok_b (aX12_plain hS) ?_
              intro rr hr
              obtain ⟨I6, J7, r8⟩ := rr
              obtain ⟨h_17, h_18⟩ := hr
              have m_19 : Ag FwX12_begin I I6 := Ag.tr m_2 (Ag.mo rfl h_17)
              have m_20 : Ag FwX12_begin J J7 := Ag.tr (Ag.rf (f := J)) (Ag.mo rfl h_18)
              refine Ok_i (fun g_21 => ?_) (fun _ => ?_)
              · exact Ok_s ⟨(Ag.st m_19 (show inW FwX12_begin (key 114 58) = true from rfl)), m_20⟩
              · refine Ok_b (aX12_fails) ?_
                intro I11 hr
                have h_23 := hr
                have m_24 : Ag FwX12_begin I I11 := Ag.tr m_19 (Ag.mo rfl h_23)
                exact Ok_s ⟨m_24, m_20⟩
    · refine Ok_b (aX12_enter) ?_
      intro rr hr
      obtain ⟨I25, J26⟩ := rr
      obtain ⟨h_25, h_26⟩ := hr
      have m_27 : Ag FwX12_begin I I25 := Ag.tr m_2 (Ag.mo rfl h_25)
      have m_28 : Ag FwX12_begin J J26 := Ag.tr (Ag.rf (f := J)) (Ag.mo rfl h_26)
      exact Ok_s ⟨m_27, m_28⟩
theorem aX12_giveBack {I : Nat → Nat → Int32} {J : Nat → Nat → Int64} {x1 : Int32} : Ok (gX12_giveBack I J x1) (fun r => Ag FwX12_giveBack I r.1 ∧ Ag FwX12_giveBack J r.2) := by
  unfold gX12_giveBack
  refine Ok_g (fun g_1 => ?_)
  refine Ok_g (fun g_2 => ?_)
  refine Ok_g (fun g_3 => ?_)
  refine Ok_i (fun g_4 => ?_) (fun _ => ?_)
  · refine Ok_g (fun g_5 => ?_)
    refine Ok_g (fun g_6 => ?_)
    exact Ok_s ⟨(Ag.st (Ag.rf (f := I)) (keyo (L := [(141, 142)]) (M := FwX12_giveBack) rfl rfl (show inW [(141, 142)] 141 = true from rfl))), (Ag.rf (f := J))⟩
  · refine Ok_i (fun g_8 => ?_) (fun _ => ?_)
    · refine Ok_g (fun g_9 => ?_)
      refine Ok_g (fun g_10 => ?_)
      refine Ok_g (fun g_11 => ?_)
      refine Ok_b (aX12_changeStock) ?_
      intro rr hr
      obtain ⟨I12, J13⟩ := rr
      obtain ⟨h_12, h_13⟩ := hr
      have m_14 : Ag FwX12_giveBack I I12 := Ag.tr (Ag.rf (f := I)) (Ag.mo rfl h_12)
      have m_15 : Ag FwX12_giveBack J J13 := Ag.tr (Ag.rf (f := J)) (Ag.mo rfl h_13)
      exact Ok_s ⟨m_14, m_15⟩
    · refine Ok_i (fun g_16 => ?_) (fun _ => ?_)
      · refine Ok_g (fun g_17 => ?_)
        refine Ok_g (fun g_18 => ?_)
        refine Ok_g (fun g_19 => ?_)
        exact Ok_s ⟨(Ag.st (Ag.rf (f := I)) (keyo (L := [(140, 141)]) (M := FwX12_giveBack) rfl rfl (show inW [(140, 141)] 140 = true from rfl))), (Ag.rf (f := J))⟩
      · exact Ok_s ⟨(Ag.rf (f := I)), (Ag.rf (f := J))⟩
theorem aX12_behind_b40 {σ : Shp} {R : Nat → Nat → Option Nat} {I : Nat → Nat → Int32} {x1 : Int32} {x3 : Int32} : Ok (gX12_behind_b40 σ R I x1 x3) (fun r => Ag FwX12_behind_b40 I r) := by
  unfold gX12_behind_b40
  refine Ok_g (fun g_3 => ?_)
  refine Ok_i (fun g_4 => ?_) (fun _ => ?_)
  · exact Ok_s (Ag.st (Ag.st (Ag.rf (f := I)) (show inW FwX12_behind_b40 (key 114 57) = true from rfl)) (show inW FwX12_behind_b40 (key 114 58) = true from rfl))
  · refine Ok_g (fun g_5 => ?_)
    refine Ok_i (fun g_6 => ?_) (fun _ => ?_)
    · refine Ok_b (aX12_push) ?_
      intro I6 hr
      have h_7 := hr
      have m_8 : Ag FwX12_behind_b40 I I6 := Ag.tr (Ag.st (Ag.st (Ag.rf (f := I)) (show inW FwX12_behind_b40 (key 114 57) = true from rfl)) (show inW FwX12_behind_b40 (key 114 58) = true from rfl)) (Ag.mo rfl h_7)
      refine Ok_g (fun g_9 => ?_)
      refine Ok_g (fun g_11 => ?_)
      refine Ok_g (fun g_13 => ?_)
      refine Ok_g (fun g_15 => ?_)
      refine Ok_g (fun g_17 => ?_)
      refine Ok_g (fun g_19 => ?_)
      exact Ok_s (Ag.st (Ag.st (Ag.st (Ag.st (Ag.st (Ag.st (Ag.st (Ag.st (Ag.st m_8 (keyo (L := [(148, 149)]) (M := FwX12_behind_b40) rfl rfl (show inW [(148, 149)] 148 = true from rfl))) (keyo (L := [(149, 150)]) (M := FwX12_behind_b40) rfl rfl (show inW [(149, 150)] 149 = true from rfl))) (keyo (L := [(150, 151)]) (M := FwX12_behind_b40) rfl rfl (show inW [(150, 151)] 150 = true from rfl))) (keyo (L := [(151, 152)]) (M := FwX12_behind_b40) rfl rfl (show inW [(151, 152)] 151 = true from rfl))) (keyo (L := [(152, 153)]) (M := FwX12_behind_b40) rfl rfl (show inW [(152, 153)] 152 = true from rfl))) (keyo (L := [(153, 154)]) (M := FwX12_behind_b40) rfl rfl (show inW [(153, 154)] 153 = true from rfl))) (show inW FwX12_behind_b40 (key 114 59) = true from rfl)) (show inW FwX12_behind_b40 (key 114 68) = true from rfl)) (show inW FwX12_behind_b40 (key 114 58) = true from rfl))
    · exact Ok_s (Ag.st (Ag.st (Ag.rf (f := I)) (show inW FwX12_behind_b40 (key 114 57) = true from rfl)) (show inW FwX12_behind_b40 (key 114 58) = true from rfl))
theorem aX12_behind_l2 {σ : Shp} {R : Nat → Nat → Option Nat} : ∀ (n : Nat) (I : Nat → Nat → Int32) (x1 : Int32) (x3 : Int32), Ok (gX12_behind_l2 σ R n I x1 x3) (fun r => Ag FwX12_behind_l2 I r) := by
  intro n
  induction n with
  | zero => intro I x1 x3; exact Ok_e rfl
  | succ n ih =>
    intro I x1 x3
    rw [gX12_behind_l2]
    refine Ok_g (fun g_1 => ?_)
    refine Ok_i (fun g_2 => ?_) (fun _ => ?_)
    · exact Ok_m (aX12_behind_b40) (fun _ hr => (Ag.tr (Ag.rf (f := I)) (Ag.mo rfl hr)))
    · refine Ok_g (fun g_3 => ?_)
      refine Ok_i (fun g_4 => ?_) (fun _ => ?_)
      · refine Ok_t ?_
        intro r25
        exact Ok_m (ih _ _ _) (fun _ hr => (Ag.tr (Ag.rf (f := I)) (Ag.mo rfl hr)))
      · exact Ok_m (aX12_behind_b40) (fun _ hr => (Ag.tr (Ag.rf (f := I)) (Ag.mo rfl hr)))
theorem aX12_behind {σ : Shp} {I : Nat → Nat → Int32} {R : Nat → Nat → Option Nat} {x1 : Int32} {x2 : Int32} : Ok (gX12_behind σ I R x1 x2) (fun r => Ag FwX12_behind I r) := by
  unfold gX12_behind
  exact Ok_m (aX12_behind_l2  _ _ _ _) (fun _ hr => (Ag.tr (Ag.rf (f := I)) (Ag.mo rfl hr)))
theorem aX12_close {σ : Shp} {I : Nat → Nat → Int32} {J : Nat → Nat → Int64} {R : Nat → Nat → Option Nat} : Ok (gX12_close σ I J R) (fun r => Ag FwX12_close I r.1 ∧ Ag FwX12_close J r.2) := by
  unfold gX12_close
  refine Ok_g (fun g_1 => ?_)
  refine Ok_b (aX12_giveBack) ?_
  intro rr hr
  obtain ⟨I4, J5⟩ := rr
  obtain ⟨h_2, h_3⟩ := hr
  have m_4 : Ag FwX12_close I I4 := Ag.tr (Ag.rf (f := I)) (Ag.mo rfl h_2)
  have m_5 : Ag FwX12_close J J5 := Ag.tr (Ag.rf (f := J)) (Ag.mo rfl h_3)
  refine Ok_i (fun g_7 => ?_) (fun _ => ?_)
  · refine Ok_b (aX12_behind) ?_
    intro I33 hr
    have h_8 := hr
    have m_9 : Ag FwX12_close I I33 := Ag.tr (Ag.st m_4 (show inW FwX12_close (key 114 42) = true from rfl)) (Ag.mo rfl h_8)
    exact Ok_s ⟨m_9, m_5⟩
  · refine Ok_i (fun g_10 => ?_) (fun _ => ?_)
    · refine Ok_b (aX12_behind) ?_
      intro I31 hr
      have h_11 := hr
      have m_12 : Ag FwX12_close I I31 := Ag.tr (Ag.st m_4 (show inW FwX12_close (key 114 42) = true from rfl)) (Ag.mo rfl h_11)
      exact Ok_s ⟨m_12, m_5⟩
    · refine Ok_i (fun g_13 => ?_) (fun _ => ?_)
      · refine Ok_g (fun g_15 => ?_)
        refine Ok_g (fun g_17 => ?_)
        refine Ok_g (fun g_19 => ?_)
        refine Ok_g (fun g_21 => ?_)
        refine Ok_g (fun g_23 => ?_)
        refine Ok_g (fun g_25 => ?_)
        exact Ok_s ⟨(Ag.st (Ag.st (Ag.st (Ag.st (Ag.st (Ag.st (Ag.st (Ag.st m_4 (show inW FwX12_close (key 114 42) = true from rfl)) (show inW FwX12_close (key 114 58) = true from rfl)) (show inW FwX12_close (key 114 59) = true from rfl)) (show inW FwX12_close (key 114 60) = true from rfl)) (show inW FwX12_close (key 114 61) = true from rfl)) (show inW FwX12_close (key 114 62) = true from rfl)) (show inW FwX12_close (key 114 63) = true from rfl)) (show inW FwX12_close (key 114 64) = true from rfl)), m_5⟩
      · refine Ok_i (fun g_27 => ?_) (fun _ => ?_)
        · exact Ok_s ⟨(Ag.st (Ag.st m_4 (show inW FwX12_close (key 114 42) = true from rfl)) (show inW FwX12_close (key 114 58) = true from rfl)), m_5⟩
        · refine Ok_i (fun g_29 => ?_) (fun _ => ?_)
          · refine Ok_g (fun g_30 => ?_)
            exact Ok_s ⟨(Ag.st (Ag.st m_4 (show inW FwX12_close (key 114 42) = true from rfl)) (show inW FwX12_close (key 114 58) = true from rfl)), m_5⟩
          · exact Ok_s ⟨(Ag.st (Ag.st m_4 (show inW FwX12_close (key 114 42) = true from rfl)) (show inW FwX12_close (key 114 58) = true from rfl)), m_5⟩
theorem aX12_isMet_b62 {σ : Shp} {R : Nat → Nat → Option Nat} {I : Nat → Nat → Int32} {x1 : Int32} {x3 : Int32} : Ok (gX12_isMet_b62 σ R I x1 x3) (fun r => Ag FwX12_isMet_b62 I r.1) := by
  unfold gX12_isMet_b62
  refine Ok_b (aX12_push) ?_
  intro I10 hr
  have h_3 := hr
  have m_4 : Ag FwX12_isMet_b62 I I10 := Ag.tr (Ag.st (Ag.st (Ag.rf (f := I)) (show inW FwX12_isMet_b62 (key 114 57) = true from rfl)) (show inW FwX12_isMet_b62 (key 114 58) = true from rfl)) (Ag.mo rfl h_3)
  refine Ok_g (fun g_5 => ?_)
  exact Ok_s (Ag.st (Ag.st (Ag.st (Ag.st m_4 (keyo (L := [(149, 150)]) (M := FwX12_isMet_b62) rfl rfl (show inW [(149, 150)] 149 = true from rfl))) (show inW FwX12_isMet_b62 (key 114 67) = true from rfl)) (show inW FwX12_isMet_b62 (key 114 59) = true from rfl)) (show inW FwX12_isMet_b62 (key 114 58) = true from rfl))
theorem aX12_isMet_l9 {σ : Shp} {R : Nat → Nat → Option Nat} : ∀ (n : Nat) (I : Nat → Nat → Int32) (x1 : Int32) (x3 : Int32), Ok (gX12_isMet_l9 σ R n I x1 x3) (fun r => Ag FwX12_isMet_l9 I r.1) := by
  intro n
  induction n with
  | zero => intro I x1 x3; exact Ok_e rfl
  | succ n ih =>
    intro I x1 x3
    rw [gX12_isMet_l9]
    refine Ok_g (fun g_1 => ?_)
    refine Ok_i (fun g_2 => ?_) (fun _ => ?_)
    · exact Ok_s (Ag.rf (f := I))
    · refine Ok_g (fun g_3 => ?_)
      refine Ok_i (fun g_4 => ?_) (fun _ => ?_)
      · refine Ok_g (fun g_5 => ?_)
        refine Ok_i (fun g_6 => ?_) (fun _ => ?_)
        · exact Ok_m (aX12_isMet_b62) (fun _ hr => (Ag.tr (Ag.rf (f := I)) (Ag.mo rfl hr)))
        · refine Ok_i (fun g_7 => ?_) (fun _ => ?_)
          · exact Ok_m (aX12_isMet_b62) (fun _ hr => (Ag.tr (Ag.rf (f := I)) (Ag.mo rfl hr)))
          · refine Ok_t ?_
            intro r17
            exact Ok_m (ih _ _ _) (fun _ hr => (Ag.tr (Ag.rf (f := I)) (Ag.mo rfl hr)))
      · exact Ok_s (Ag.rf (f := I))
theorem aX12_isMet {σ : Shp} {I : Nat → Nat → Int32} {R : Nat → Nat → Option Nat} {x1 : Int32} {x2 : Int32} : Ok (gX12_isMet σ I R x1 x2) (fun r => Ag FwX12_isMet I r.1) := by
  unfold gX12_isMet
  refine Ok_t ?_
  intro r1
  exact Ok_m (aX12_isMet_l9  _ _ _ _) (fun _ hr => (Ag.tr (Ag.rf (f := I)) (Ag.mo rfl hr)))
theorem aX12_again {I : Nat → Nat → Int32} {x1 : Int32} : Ok (gX12_again I x1) (fun r => Ag FwX12_again I r) := by
  unfold gX12_again
  refine Ok_g (fun g_1 => ?_)
  refine Ok_g (fun g_2 => ?_)
  refine Ok_g (fun g_3 => ?_)
  refine Ok_i (fun g_4 => ?_) (fun _ => ?_)
  · refine Ok_g (fun g_5 => ?_)
    refine Ok_g (fun g_6 => ?_)
    refine Ok_i (fun g_7 => ?_) (fun _ => ?_)
    · exact Ok_s (Ag.rf (f := I))
    · refine Ok_b (aX12_isStep) ?_
      intro rr hr
      obtain ⟨I7, r8⟩ := rr
      have h_8 := hr
      have m_9 : Ag FwX12_again I I7 := Ag.tr (Ag.rf (f := I)) (Ag.mo rfl h_8)
      refine Ok_i (fun g_10 => ?_) (fun _ => ?_)
      · exact Ok_s m_9
      · exact Ok_s (Ag.st (Ag.st (Ag.st (Ag.st (Ag.st m_9 (keyo (L := [(147, 148)]) (M := FwX12_again) rfl rfl (show inW [(147, 148)] 147 = true from rfl))) (show inW FwX12_again (key 114 42) = true from rfl)) (show inW FwX12_again (key 114 59) = true from rfl)) (show inW FwX12_again (key 114 57) = true from rfl)) (show inW FwX12_again (key 114 58) = true from rfl))
  · exact Ok_s (Ag.rf (f := I))
theorem aX12_leave_b47 {σ : Shp} {R : Nat → Nat → Option Nat} {I : Nat → Nat → Int32} {x1 : Int32} {x3 : Int32} : Ok (gX12_leave_b47 σ R I x1 x3) (fun r => Ag FwX12_leave_b47 I r) := by
  unfold gX12_leave_b47
  refine Ok_g (fun g_1 => ?_)
  refine Ok_i (fun g_2 => ?_) (fun _ => ?_)
  · exact Ok_s (Ag.rf (f := I))
  · refine Ok_g (fun g_3 => ?_)
    refine Ok_i (fun g_4 => ?_) (fun _ => ?_)
    · refine Ok_b (aX12_behind) ?_
      intro I7 hr
      have h_5 := hr
      have m_6 : Ag FwX12_leave_b47 I I7 := Ag.tr (Ag.rf (f := I)) (Ag.mo rfl h_5)
      exact Ok_s m_6
    · exact Ok_s (Ag.rf (f := I))
theorem aX12_leave_l9 {σ : Shp} {R : Nat → Nat → Option Nat} : ∀ (n : Nat) (I : Nat → Nat → Int32) (x1 : Int32) (x3 : Int32), Ok (gX12_leave_l9 σ R n I x1 x3) (fun r => Ag FwX12_leave_l9 I r) := by
  intro n
  induction n with
  | zero => intro I x1 x3; exact Ok_e rfl
  | succ n ih =>
    intro I x1 x3
    rw [gX12_leave_l9]
    refine Ok_g (fun g_1 => ?_)
    refine Ok_i (fun g_2 => ?_) (fun _ => ?_)
    · exact Ok_m (aX12_leave_b47) (fun _ hr => (Ag.tr (Ag.rf (f := I)) (Ag.mo rfl hr)))
    · refine Ok_g (fun g_3 => ?_)
      refine Ok_i (fun g_4 => ?_) (fun _ => ?_)
      · refine Ok_t ?_
        intro r10
        exact Ok_m (ih _ _ _) (fun _ hr => (Ag.tr (Ag.rf (f := I)) (Ag.mo rfl hr)))
      · exact Ok_m (aX12_leave_b47) (fun _ hr => (Ag.tr (Ag.rf (f := I)) (Ag.mo rfl hr)))
theorem aX12_leave {σ : Shp} {I : Nat → Nat → Int32} {R : Nat → Nat → Option Nat} {x1 : Int32} {x2 : Int32} : Ok (gX12_leave σ I R x1 x2) (fun r => Ag FwX12_leave I r) := by
  unfold gX12_leave
  refine Ok_t ?_
  intro r1
  exact Ok_m (aX12_leave_l9  _ _ _ _) (fun _ hr => (Ag.tr (Ag.rf (f := I)) (Ag.mo rfl hr)))
theorem aX12_unwind_b133 {σ : Shp} {R : Nat → Nat → Option Nat} {I : Nat → Nat → Int32} {J : Nat → Nat → Int64} {x1 : Int32} : Ok (gX12_unwind_b133 σ R I J x1) (fun r => Ag FwX12_unwind_b133 I r.1 ∧ Ag FwX12_unwind_b133 J r.2) := by
  unfold gX12_unwind_b133
  refine Ok_i (fun g_1 => ?_) (fun _ => ?_)
  · refine Ok_g (fun g_2 => ?_)
    refine Ok_b (aX12_undoTo) ?_
    intro rr hr
    obtain ⟨I46, J47⟩ := rr
    obtain ⟨h_3, h_4⟩ := hr
    have m_5 : Ag FwX12_unwind_b133 I I46 := Ag.tr (Ag.rf (f := I)) (Ag.mo rfl h_3)
    have m_6 : Ag FwX12_unwind_b133 J J47 := Ag.tr (Ag.rf (f := J)) (Ag.mo rfl h_4)
    refine Ok_b (aX12_again) ?_
    intro I49 hr
    have h_7 := hr
    have m_8 : Ag FwX12_unwind_b133 I I49 := Ag.tr m_5 (Ag.mo rfl h_7)
    exact Ok_s ⟨m_8, m_6⟩
  · exact Ok_s ⟨(Ag.rf (f := I)), (Ag.rf (f := J))⟩
theorem aX12_unwind {σ : Shp} {I : Nat → Nat → Int32} {J : Nat → Nat → Int64} {R : Nat → Nat → Option Nat} : Ok (gX12_unwind σ I J R) (fun r => Ag FwX12_unwind I r.1 ∧ Ag FwX12_unwind J r.2) := by
  unfold gX12_unwind
  refine Ok_g (fun g_2 => ?_)
  refine Ok_g (fun g_3 => ?_)
  refine Ok_b (aX12_giveBack) ?_
  intro rr hr
  obtain ⟨I7, J8⟩ := rr
  obtain ⟨h_4, h_5⟩ := hr
  have m_6 : Ag FwX12_unwind I I7 := Ag.tr (Ag.st (Ag.rf (f := I)) (show inW FwX12_unwind (key 114 42) = true from rfl)) (Ag.mo rfl h_4)
  have m_7 : Ag FwX12_unwind J J8 := Ag.tr (Ag.rf (f := J)) (Ag.mo rfl h_5)
  refine Ok_g (fun g_8 => ?_)
  refine Ok_i (fun g_9 => ?_) (fun _ => ?_)
  · exact Ok_s ⟨(Ag.st m_6 (show inW FwX12_unwind (key 114 66) = true from rfl)), m_7⟩
  · refine Ok_i (fun g_11 => ?_) (fun _ => ?_)
    · exact Ok_s ⟨m_6, m_7⟩
    · refine Ok_i (fun g_12 => ?_) (fun _ => ?_)
      · exact Ok_s ⟨m_6, m_7⟩
      · refine Ok_i (fun g_13 => ?_) (fun _ => ?_)
        · exact Ok_s ⟨m_6, m_7⟩
        · refine Ok_i (fun g_14 => ?_) (fun _ => ?_)
          · exact Ok_m (aX12_unwind_b133) (fun _ ⟨h0, h1⟩ => ⟨(Ag.tr m_6 (Ag.mo rfl h0)), (Ag.tr m_7 (Ag.mo rfl h1))⟩)
          · refine Ok_i (fun g_15 => ?_) (fun _ => ?_)
            · exact Ok_m (aX12_unwind_b133) (fun _ ⟨h0, h1⟩ => ⟨(Ag.tr m_6 (Ag.mo rfl h0)), (Ag.tr m_7 (Ag.mo rfl h1))⟩)
            · refine Ok_i (fun g_16 => ?_) (fun _ => ?_)
              · refine Ok_i (fun g_17 => ?_) (fun _ => ?_)
                · refine Ok_b (aX12_isMet) ?_
                  intro rr hr
                  obtain ⟨I40, r41⟩ := rr
                  have h_18 := hr
                  have m_19 : Ag FwX12_unwind I I40 := Ag.tr m_6 (Ag.mo rfl h_18)
                  refine Ok_i (fun g_20 => ?_) (fun _ => ?_)
                  · refine Ok_i (fun g_21 => ?_) (fun _ => ?_)
                    · exact Ok_s ⟨m_19, m_7⟩
                    · refine Ok_b (aX12_leave) ?_
                      intro I43 hr
                      have h_22 := hr
                      have m_23 : Ag FwX12_unwind I I43 := Ag.tr m_19 (Ag.mo rfl h_22)
                      exact Ok_s ⟨m_23, m_7⟩
                  · exact Ok_s ⟨m_19, m_7⟩
                · refine Ok_i (fun g_24 => ?_) (fun _ => ?_)
                  · exact Ok_s ⟨m_6, m_7⟩
                  · refine Ok_b (aX12_leave) ?_
                    intro I38 hr
                    have h_25 := hr
                    have m_26 : Ag FwX12_unwind I I38 := Ag.tr m_6 (Ag.mo rfl h_25)
                    exact Ok_s ⟨m_26, m_7⟩
              · refine Ok_i (fun g_27 => ?_) (fun _ => ?_)
                · refine Ok_i (fun g_28 => ?_) (fun _ => ?_)
                  · refine Ok_g (fun g_29 => ?_)
                    refine Ok_i (fun g_31 => ?_) (fun _ => ?_)
                    · exact Ok_s ⟨(Ag.st m_6 (show inW FwX12_unwind (key 114 63) = true from rfl)), m_7⟩
                    · refine Ok_b (aX12_leave) ?_
                      intro I36 hr
                      have h_32 := hr
                      have m_33 : Ag FwX12_unwind I I36 := Ag.tr (Ag.st m_6 (show inW FwX12_unwind (key 114 63) = true from rfl)) (Ag.mo rfl h_32)
                      exact Ok_s ⟨m_33, m_7⟩
                  · refine Ok_i (fun g_35 => ?_) (fun _ => ?_)
                    · exact Ok_s ⟨(Ag.st m_6 (show inW FwX12_unwind (key 114 63) = true from rfl)), m_7⟩
                    · refine Ok_b (aX12_leave) ?_
                      intro I32 hr
                      have h_36 := hr
                      have m_37 : Ag FwX12_unwind I I32 := Ag.tr (Ag.st m_6 (show inW FwX12_unwind (key 114 63) = true from rfl)) (Ag.mo rfl h_36)
                      exact Ok_s ⟨m_37, m_7⟩
                · refine Ok_i (fun g_38 => ?_) (fun _ => ?_)
                  · refine Ok_i (fun g_39 => ?_) (fun _ => ?_)
                    · refine Ok_g (fun g_40 => ?_)
                      refine Ok_i (fun g_41 => ?_) (fun _ => ?_)
                      · refine Ok_g (fun g_42 => ?_)
                        exact Ok_s ⟨(Ag.st m_6 (show inW FwX12_unwind (key 114 63) = true from rfl)), m_7⟩
                      · exact Ok_s ⟨(Ag.st m_6 (show inW FwX12_unwind (key 114 63) = true from rfl)), m_7⟩
                    · exact Ok_s ⟨(Ag.st m_6 (show inW FwX12_unwind (key 114 63) = true from rfl)), m_7⟩
                  · refine Ok_i (fun g_46 => ?_) (fun _ => ?_)
                    · exact Ok_s ⟨m_6, m_7⟩
                    · refine Ok_i (fun g_47 => ?_) (fun _ => ?_)
                      · exact Ok_s ⟨m_6, m_7⟩
                      · refine Ok_i (fun g_48 => ?_) (fun _ => ?_)
                        · refine Ok_i (fun g_49 => ?_) (fun _ => ?_)
                          · refine Ok_b (aX12_undoTo) ?_
                            intro rr hr
                            obtain ⟨I23, J24⟩ := rr
                            obtain ⟨h_50, h_51⟩ := hr
                            have m_52 : Ag FwX12_unwind I I23 := Ag.tr m_6 (Ag.mo rfl h_50)
                            have m_53 : Ag FwX12_unwind J J24 := Ag.tr m_7 (Ag.mo rfl h_51)
                            exact Ok_s ⟨m_52, m_53⟩
                          · exact Ok_s ⟨m_6, m_7⟩
                        · exact Ok_s ⟨m_6, m_7⟩
theorem aX12_run_b331 {σ : Shp} {R : Nat → Nat → Option Nat} {I : Nat → Nat → Int32} {J : Nat → Nat → Int64} {x2 : Int32} {s0 : Option Nat} {s1 : Int32} (hs_s0 : Cin [(114, 115)] s0) : Ok (gX12_run_b331 σ R I J x2 s0 s1) (fun r => Ag FwX12_run_b331 I r.1 ∧ Ag FwX12_run_b331 J r.2.1) := by
  unfold gX12_run_b331
  refine Ok_bc (fun a24 e_1 => ?_)
  refine Ok_g (fun g_2 => ?_)
  refine Ok_i (fun g_4 => ?_) (fun _ => ?_)
  · refine Ok_i (fun g_5 => ?_) (fun _ => ?_)
    · exact Ok_s ⟨(Ag.st (Ag.rf (f := I)) (keyv (a := a24) (c := 114) (inW_1 (inW_mo (L := [(114, 115)]) (M := [(114, 115)]) rfl (Cin.get hs_s0 e_1))) (show inW FwX12_run_b331 (key 114 74) = true from rfl))), (Ag.rf (f := J))⟩
    · refine Ok_i (fun g_6 => ?_) (fun _ => ?_)
      · exact Ok_s ⟨(Ag.st (Ag.rf (f := I)) (keyv (a := a24) (c := 114) (inW_1 (inW_mo (L := [(114, 115)]) (M := [(114, 115)]) rfl (Cin.get hs_s0 e_1))) (show inW FwX12_run_b331 (key 114 74) = true from rfl))), (Ag.rf (f := J))⟩
      · exact Ok_s ⟨(Ag.st (Ag.rf (f := I)) (keyv (a := a24) (c := 114) (inW_1 (inW_mo (L := [(114, 115)]) (M := [(114, 115)]) rfl (Cin.get hs_s0 e_1))) (show inW FwX12_run_b331 (key 114 74) = true from rfl))), (Ag.rf (f := J))⟩
  · exact Ok_s ⟨(Ag.st (Ag.st (Ag.rf (f := I)) (keyv (a := a24) (c := 114) (inW_1 (inW_mo (L := [(114, 115)]) (M := [(114, 115)]) rfl (Cin.get hs_s0 e_1))) (show inW FwX12_run_b331 (key 114 74) = true from rfl))) (show inW FwX12_run_b331 (key 114 2) = true from rfl)), (Ag.rf (f := J))⟩
theorem aX12_run_b295 {σ : Shp} {R : Nat → Nat → Option Nat} {I : Nat → Nat → Int32} {J : Nat → Nat → Int64} {x2 : Int32} {s0 : Option Nat} {s1 : Int32} (hs_s0 : Cin [(114, 115)] s0) : Ok (gX12_run_b295 σ R I J x2 s0 s1) (fun r => Ag FwX12_run_b295 I r.1 ∧ Ag FwX12_run_b295 J r.2.1) := by
  unfold gX12_run_b295
  refine Ok_bc (fun a20 e_1 => ?_)
  refine Ok_g (fun g_2 => ?_)
  refine Ok_i (fun g_4 => ?_) (fun _ => ?_)
  · refine Ok_i (fun g_6 => ?_) (fun _ => ?_)
    · exact Ok_m (aX12_run_b331 ⟨_, rfl, (show inW [(114, 115)] 114 = true from rfl)⟩) (fun _ ⟨h0, h1⟩ => ⟨(Ag.tr (Ag.st (Ag.st (Ag.rf (f := I)) (keyv (a := a20) (c := 114) (inW_1 (inW_mo (L := [(114, 115)]) (M := [(114, 115)]) rfl (Cin.get hs_s0 e_1))) (show inW FwX12_run_b295 (key 114 72) = true from rfl))) (show inW FwX12_run_b295 (key 114 73) = true from rfl)) (Ag.mo rfl h0)), (Ag.tr (Ag.rf (f := J)) (Ag.mo rfl h1))⟩)
    · exact Ok_m (aX12_run_b331 ⟨_, rfl, (show inW [(114, 115)] 114 = true from rfl)⟩) (fun _ ⟨h0, h1⟩ => ⟨(Ag.tr (Ag.st (Ag.st (Ag.rf (f := I)) (keyv (a := a20) (c := 114) (inW_1 (inW_mo (L := [(114, 115)]) (M := [(114, 115)]) rfl (Cin.get hs_s0 e_1))) (show inW FwX12_run_b295 (key 114 72) = true from rfl))) (show inW FwX12_run_b295 (key 114 73) = true from rfl)) (Ag.mo rfl h0)), (Ag.tr (Ag.rf (f := J)) (Ag.mo rfl h1))⟩)
  · refine Ok_i (fun g_8 => ?_) (fun _ => ?_)
    · exact Ok_m (aX12_run_b331 ⟨_, rfl, (show inW [(114, 115)] 114 = true from rfl)⟩) (fun _ ⟨h0, h1⟩ => ⟨(Ag.tr (Ag.st (Ag.st (Ag.rf (f := I)) (keyv (a := a20) (c := 114) (inW_1 (inW_mo (L := [(114, 115)]) (M := [(114, 115)]) rfl (Cin.get hs_s0 e_1))) (show inW FwX12_run_b295 (key 114 72) = true from rfl))) (show inW FwX12_run_b295 (key 114 73) = true from rfl)) (Ag.mo rfl h0)), (Ag.tr (Ag.rf (f := J)) (Ag.mo rfl h1))⟩)
    · exact Ok_m (aX12_run_b331 ⟨_, rfl, (show inW [(114, 115)] 114 = true from rfl)⟩) (fun _ ⟨h0, h1⟩ => ⟨(Ag.tr (Ag.st (Ag.st (Ag.rf (f := I)) (keyv (a := a20) (c := 114) (inW_1 (inW_mo (L := [(114, 115)]) (M := [(114, 115)]) rfl (Cin.get hs_s0 e_1))) (show inW FwX12_run_b295 (key 114 72) = true from rfl))) (show inW FwX12_run_b295 (key 114 73) = true from rfl)) (Ag.mo rfl h0)), (Ag.tr (Ag.rf (f := J)) (Ag.mo rfl h1))⟩)
theorem aX12_run_b265 {σ : Shp} {R : Nat → Nat → Option Nat} {I : Nat → Nat → Int32} {J : Nat → Nat → Int64} {s0 : Int32} : Ok (gX12_run_b265 σ R I J s0) (fun r => Ag FwX12_run_b265 I r.1 ∧ Ag FwX12_run_b265 J r.2.1) := by
  unfold gX12_run_b265
  refine Ok_i (fun g_1 => ?_) (fun _ => ?_)
  · refine Ok_i (fun g_3 => ?_) (fun _ => ?_)
    · exact Ok_m (aX12_run_b295 ⟨_, rfl, (show inW [(114, 115)] 114 = true from rfl)⟩) (fun _ ⟨h0, h1⟩ => ⟨(Ag.tr (Ag.st (Ag.rf (f := I)) (show inW FwX12_run_b265 (key 114 71) = true from rfl)) (Ag.mo rfl h0)), (Ag.tr (Ag.rf (f := J)) (Ag.mo rfl h1))⟩)
    · exact Ok_m (aX12_run_b295 ⟨_, rfl, (show inW [(114, 115)] 114 = true from rfl)⟩) (fun _ ⟨h0, h1⟩ => ⟨(Ag.tr (Ag.st (Ag.rf (f := I)) (show inW FwX12_run_b265 (key 114 71) = true from rfl)) (Ag.mo rfl h0)), (Ag.tr (Ag.rf (f := J)) (Ag.mo rfl h1))⟩)
  · refine Ok_i (fun g_5 => ?_) (fun _ => ?_)
    · exact Ok_m (aX12_run_b295 ⟨_, rfl, (show inW [(114, 115)] 114 = true from rfl)⟩) (fun _ ⟨h0, h1⟩ => ⟨(Ag.tr (Ag.st (Ag.rf (f := I)) (show inW FwX12_run_b265 (key 114 71) = true from rfl)) (Ag.mo rfl h0)), (Ag.tr (Ag.rf (f := J)) (Ag.mo rfl h1))⟩)
    · exact Ok_m (aX12_run_b295 ⟨_, rfl, (show inW [(114, 115)] 114 = true from rfl)⟩) (fun _ ⟨h0, h1⟩ => ⟨(Ag.tr (Ag.st (Ag.rf (f := I)) (show inW FwX12_run_b265 (key 114 71) = true from rfl)) (Ag.mo rfl h0)), (Ag.tr (Ag.rf (f := J)) (Ag.mo rfl h1))⟩)
theorem aX12_run_b166 {q95 : (Nat → Nat → Int32) → (Nat → Nat → Int64) → (Option ((Nat → Nat → Int32) × (Nat → Nat → Int64) × (Int32)))} {σ : Shp} {R : Nat → Nat → Option Nat} {I : Nat → Nat → Int32} {J : Nat → Nat → Int64} {s0 : Option Nat} {s1 : Int32} {s2 : Int32} (hq95 : ∀ (I : Nat → Nat → Int32) (J : Nat → Nat → Int64), Ok (q95 I J) (fun r => Ag FwX12_run_l95 I r.1 ∧ Ag FwX12_run_l95 J r.2.1)) (hs_s0 : Cin [(114, 115)] s0) (hS : Skel σ R) : Ok (gX12_run_b166 q95 σ R I J s0 s1 s2) (fun r => Ag FwX12_run_b166 I r.1 ∧ Ag FwX12_run_b166 J r.2.1) := by
  unfold gX12_run_b166
  refine Ok_bc (fun a40 e_1 => ?_)
  refine Ok_g (fun g_2 => ?_)
  refine Ok_g (fun g_4 => ?_)
  refine Ok_g (fun g_6 => ?_)
  exact Ok_m (hq95 _ _) (fun _ ⟨h0, h1⟩ => ⟨(Ag.tr (Ag.st (Ag.st (Ag.st (Ag.rf (f := I)) (keyv (a := a40) (c := 114) (inW_1 (inW_mo (L := [(114, 115)]) (M := [(114, 115)]) rfl (Cin.get hs_s0 e_1))) (show inW FwX12_run_b166 (key 114 66) = true from rfl))) (show inW FwX12_run_b166 (key 114 57) = true from rfl)) (show inW FwX12_run_b166 (key 114 58) = true from rfl)) (Ag.mo rfl h0)), (Ag.tr (Ag.rf (f := J)) (Ag.mo rfl h1))⟩)
theorem aX12_run_l95 {σ : Shp} {R : Nat → Nat → Option Nat} (hS : Skel σ R) : ∀ (n : Nat) (I : Nat → Nat → Int32) (J : Nat → Nat → Int64), Ok (gX12_run_l95 σ R n I J) (fun r => Ag FwX12_run_l95 I r.1 ∧ Ag FwX12_run_l95 J r.2.1) := by
  intro n
  induction n with
  | zero => intro I J; exact Ok_e rfl
  | succ n ih =>
    intro I J
    rw [gX12_run_l95]
    refine Ok_i (fun g_1 => ?_) (fun _ => ?_)
    · refine Ok_i (fun g_2 => ?_) (fun _ => ?_)
      · exact Ok_m (aX12_run_b265) (fun _ ⟨h0, h1⟩ => ⟨(Ag.tr (Ag.rf (f := I)) (Ag.mo rfl h0)), (Ag.tr (Ag.rf (f := J)) (Ag.mo rfl h1))⟩)
      · exact Ok_m (aX12_run_b265) (fun _ ⟨h0, h1⟩ => ⟨(Ag.tr (Ag.rf (f := I)) (Ag.mo rfl h0)), (Ag.tr (Ag.rf (f := J)) (Ag.mo rfl h1))⟩)
    · refine Ok_i (fun g_3 => ?_) (fun _ => ?_)
      · refine Ok_g (fun g_4 => ?_)
        refine Ok_i (fun g_5 => ?_) (fun _ => ?_)
        · refine Ok_g (fun g_7 => ?_)
          refine Ok_i (fun g_8 => ?_) (fun _ => ?_)
          · exact Ok_m (aX12_run_b166 ih ⟨_, rfl, (show inW [(114, 115)] 114 = true from rfl)⟩ hS) (fun _ ⟨h0, h1⟩ => ⟨(Ag.tr (Ag.st (Ag.rf (f := I)) (show inW FwX12_run_l95 (key 114 42) = true from rfl)) (Ag.mo rfl h0)), (Ag.tr (Ag.rf (f := J)) (Ag.mo rfl h1))⟩)
          · exact Ok_m (aX12_run_b166 ih ⟨_, rfl, (show inW [(114, 115)] 114 = true from rfl)⟩ hS) (fun _ ⟨h0, h1⟩ => ⟨(Ag.tr (Ag.st (Ag.rf (f := I)) (show inW FwX12_run_l95 (key 114 42) = true from rfl)) (Ag.mo rfl h0)), (Ag.tr (Ag.rf (f := J)) (Ag.mo rfl h1))⟩)
        · refine Ok_g (fun g_9 => ?_)
          refine Ok_i (fun g_10 => ?_) (fun _ => ?_)
          · refine Ok_b (aX12_close) ?_
            intro rr hr
            obtain ⟨I35, J36⟩ := rr
            obtain ⟨h_11, h_12⟩ := hr
            have m_13 : Ag FwX12_run_l95 I I35 := Ag.tr (Ag.rf (f := I)) (Ag.mo rfl h_11)
            have m_14 : Ag FwX12_run_l95 J J36 := Ag.tr (Ag.rf (f := J)) (Ag.mo rfl h_12)
            exact Ok_m (ih _ _) (fun _ ⟨h0, h1⟩ => ⟨(Ag.tr m_13 (Ag.mo rfl h0)), (Ag.tr m_14 (Ag.mo rfl h1))⟩)
          · refine Ok_b (aX12_begin hS) ?_
            intro rr hr
            obtain ⟨I32, J33⟩ := rr
            obtain ⟨h_15, h_16⟩ := hr
            have m_17 : Ag FwX12_run_l95 I I32 := Ag.tr (Ag.rf (f := I)) (Ag.mo rfl h_15)
            have m_18 : Ag FwX12_run_l95 J J33 := Ag.tr (Ag.rf (f := J)) (Ag.mo rfl h_16)
            exact Ok_m (ih _ _) (fun _ ⟨h0, h1⟩ => ⟨(Ag.tr m_17 (Ag.mo rfl h0)), (Ag.tr m_18 (Ag.mo rfl h1))⟩)
      · refine Ok_b (aX12_unwind) ?_
        intro rr hr
        obtain ⟨I47, J48⟩ := rr
        obtain ⟨h_19, h_20⟩ := hr
        have m_21 : Ag FwX12_run_l95 I I47 := Ag.tr (Ag.rf (f := I)) (Ag.mo rfl h_19)
        have m_22 : Ag FwX12_run_l95 J J48 := Ag.tr (Ag.rf (f := J)) (Ag.mo rfl h_20)
        exact Ok_m (ih _ _) (fun _ ⟨h0, h1⟩ => ⟨(Ag.tr m_21 (Ag.mo rfl h0)), (Ag.tr m_22 (Ag.mo rfl h1))⟩)
theorem aX12_run {σ : Shp} {I : Nat → Nat → Int32} {J : Nat → Nat → Int64} {R : Nat → Nat → Option Nat} {x1 : Int32} (hS : Skel σ R) : Ok (gX12_run σ I J R x1) (fun r => Ag FwX12_run I r.1 ∧ Ag FwX12_run J r.2.1) := by
  unfold gX12_run
  refine Ok_i (fun g_1 => ?_) (fun _ => ?_)
  · exact Ok_s ⟨(Ag.rf (f := I)), (Ag.rf (f := J))⟩
  · refine Ok_b (aX12_wrong) ?_
    intro rr hr
    obtain ⟨I1, r2⟩ := rr
    have h_2 := hr
    have m_3 : Ag FwX12_run I I1 := Ag.tr (Ag.rf (f := I)) (Ag.mo rfl h_2)
    refine Ok_i (fun g_4 => ?_) (fun _ => ?_)
    · refine Ok_t ?_
      intro r4
      refine Ok_i (fun g_5 => ?_) (fun _ => ?_)
      · refine Ok_b (aX12_push) ?_
        intro I17 hr
        have h_17 := hr
        have m_18 : Ag FwX12_run I I17 := Ag.tr (Ag.st (Ag.st (Ag.st (Ag.st (Ag.st (Ag.st (Ag.st (Ag.st (Ag.st (Ag.st (Ag.st m_3 (show inW FwX12_run (key 114 59) = true from rfl)) (show inW FwX12_run (key 114 57) = true from rfl)) (show inW FwX12_run (key 114 58) = true from rfl)) (show inW FwX12_run (key 114 65) = true from rfl)) (show inW FwX12_run (key 114 66) = true from rfl)) (show inW FwX12_run (key 114 67) = true from rfl)) (show inW FwX12_run (key 114 68) = true from rfl)) (show inW FwX12_run (key 114 69) = true from rfl)) (show inW FwX12_run (key 114 70) = true from rfl)) (show inW FwX12_run (key 114 54) = true from rfl)) (show inW FwX12_run (key 114 42) = true from rfl)) (Ag.mo rfl h_17)
        exact Ok_m (aX12_run_l95 hS _ _ _) (fun _ ⟨h0, h1⟩ => ⟨(Ag.tr m_18 (Ag.mo rfl h0)), (Ag.tr (Ag.rf (f := J)) (Ag.mo rfl h1))⟩)
      · exact Ok_s ⟨m_3, (Ag.rf (f := J))⟩
    · exact Ok_s ⟨m_3, (Ag.rf (f := J))⟩
