theorem aX0_beginAsk {I : Nat → Nat → Int32} : Ok (gX0_beginAsk I) (fun r => Ag FwX0_beginAsk I r) := by
  unfold gX0_beginAsk
  exact Ok_s (Ag.st (Ag.st (Ag.rf (f := I)) (keyo (L := [(7, 8)]) (M := FwX0_beginAsk) rfl rfl (show inW [(7, 8)] 7 = true from rfl))) (keyo (L := [(7, 8)]) (M := FwX0_beginAsk) rfl rfl (show inW [(7, 8)] 7 = true from rfl)))
theorem aX0_begin {σ : Shp} {I : Nat → Nat → Int32} {x1 : Int32} : Ok (gX0_begin σ I x1) (fun r => Ag FwX0_begin I r) := by
  unfold gX0_begin
  refine Ok_i (fun g_1 => ?_) (fun _ => ?_)
  · exact Ok_s (Ag.rf (f := I))
  · refine Ok_g (fun g_2 => ?_)
    exact Ok_s (Ag.st (Ag.st (Ag.rf (f := I)) (keyo (L := [(8, 9)]) (M := FwX0_begin) rfl rfl (show inW [(8, 9)] 8 = true from rfl))) (keyo (L := [(7, 8)]) (M := FwX0_begin) rfl rfl (show inW [(7, 8)] 7 = true from rfl)))
theorem aX0_faulted {I : Nat → Nat → Int32} {x1 : Int32} : Ok (gX0_faulted I x1) (fun r => Ag FwX0_faulted I r.1) := by
  unfold gX0_faulted
  exact Ok_s (Ag.st (Ag.rf (f := I)) (keyo (L := [(7, 8)]) (M := FwX0_faulted) rfl rfl (show inW [(7, 8)] 7 = true from rfl)))
theorem aX0_costAlone_b14 {σ : Shp} {R : Nat → Nat → Option Nat} {I : Nat → Nat → Int32} {x1 : Option Nat} : Ok (gX0_costAlone_b14 σ R I x1) (fun r => Ag FwX0_costAlone_b14 I r.1) := by
  unfold gX0_costAlone_b14
  refine Ok_b (aX0_begin) ?_
  intro I3 hr
  have h_1 := hr
  have m_2 : Ag FwX0_costAlone_b14 I I3 := Ag.tr (Ag.rf (f := I)) (Ag.mo rfl h_1)
  refine Ok_bc (fun a5 e_3 => ?_)
  refine Ok_g (fun g_4 => ?_)
  refine Ok_i (fun g_5 => ?_) (fun _ => ?_)
  · refine Ok_b (aX0_faulted) ?_
    intro rr hr
    obtain ⟨I8, r9⟩ := rr
    have h_6 := hr
    have m_7 : Ag FwX0_costAlone_b14 I I8 := Ag.tr m_2 (Ag.mo rfl h_6)
    exact Ok_s m_7
  · refine Ok_g (fun g_8 => ?_)
    exact Ok_s m_2
theorem aX0_costAlone {σ : Shp} {I : Nat → Nat → Int32} {R : Nat → Nat → Option Nat} {x1 : Option Nat} : Ok (gX0_costAlone σ I R x1) (fun r => Ag FwX0_costAlone I r.1) := by
  unfold gX0_costAlone
  refine Ok_bc (fun a1 e_1 => ?_)
  refine Ok_g (fun g_2 => ?_)
  refine Ok_i (fun g_3 => ?_) (fun _ => ?_)
  · refine Ok_b (aX0_begin) ?_
    intro I11 hr
    have h_4 := hr
    have m_5 : Ag FwX0_costAlone I I11 := Ag.tr (Ag.rf (f := I)) (Ag.mo rfl h_4)
    exact Ok_m (aX0_costAlone_b14) (fun _ hr => (Ag.tr m_5 (Ag.mo rfl hr)))
  · exact Ok_m (aX0_costAlone_b14) (fun _ hr => (Ag.tr (Ag.rf (f := I)) (Ag.mo rfl hr)))
theorem aX0_markOf {σ : Shp} {I : Nat → Nat → Int32} {x1 : Option Nat} : Ok (gX0_markOf σ I x1) (fun r => Ag FwX0_markOf I r.1) := by
  unfold gX0_markOf
  refine Ok_bc (fun a1 e_1 => ?_)
  refine Ok_g (fun g_2 => ?_)
  refine Ok_i (fun g_3 => ?_) (fun _ => ?_)
  · refine Ok_b (aX0_begin) ?_
    intro I3 hr
    have h_4 := hr
    have m_5 : Ag FwX0_markOf I I3 := Ag.tr (Ag.rf (f := I)) (Ag.mo rfl h_4)
    exact Ok_s m_5
  · refine Ok_b (aX0_begin) ?_
    intro I5 hr
    have h_6 := hr
    have m_7 : Ag FwX0_markOf I I5 := Ag.tr (Ag.rf (f := I)) (Ag.mo rfl h_6)
    exact Ok_s m_7
theorem aX0_sizeOf_b98 {fr : (Shp) → (Nat → Nat → Int32) → (Nat → Nat → Option Nat) → (Option Nat) → (Int32) → Option ((Nat → Nat → Int32) × (Int32))} {σ : Shp} {R : Nat → Nat → Option Nat} {I : Nat → Nat → Int32} {x1 : Option Nat} {x3 : Int32} (hfr : ∀ (σ : Shp) (I : Nat → Nat → Int32) (R : Nat → Nat → Option Nat) (x1 : Option Nat) (x2 : Int32), Ok (fr σ I R x1 x2) (fun r => Ag FwX0_sizeOf I r.1)) : Ok (gX0_sizeOf_b98 fr σ R I x1 x3) (fun r => Ag FwX0_sizeOf_b98 I r.1) := by
  unfold gX0_sizeOf_b98
  refine Ok_b (aX0_begin) ?_
  intro I8 hr
  have h_1 := hr
  have m_2 : Ag FwX0_sizeOf_b98 I I8 := Ag.tr (Ag.rf (f := I)) (Ag.mo rfl h_1)
  refine Ok_b (aX0_begin) ?_
  intro I10 hr
  have h_3 := hr
  have m_4 : Ag FwX0_sizeOf_b98 I I10 := Ag.tr m_2 (Ag.mo rfl h_3)
  refine Ok_bc (fun a12 e_5 => ?_)
  refine Ok_g (fun g_6 => ?_)
  exact Ok_s m_4
theorem aX0_sizeOf_b82 {fr : (Shp) → (Nat → Nat → Int32) → (Nat → Nat → Option Nat) → (Option Nat) → (Int32) → Option ((Nat → Nat → Int32) × (Int32))} {σ : Shp} {R : Nat → Nat → Option Nat} {I : Nat → Nat → Int32} {x1 : Option Nat} {x3 : Int32} (hfr : ∀ (σ : Shp) (I : Nat → Nat → Int32) (R : Nat → Nat → Option Nat) (x1 : Option Nat) (x2 : Int32), Ok (fr σ I R x1 x2) (fun r => Ag FwX0_sizeOf I r.1)) : Ok (gX0_sizeOf_b82 fr σ R I x1 x3) (fun r => Ag FwX0_sizeOf_b82 I r.1) := by
  unfold gX0_sizeOf_b82
  refine Ok_bc (fun a6 e_1 => ?_)
  refine Ok_g (fun g_2 => ?_)
  refine Ok_i (fun g_3 => ?_) (fun _ => ?_)
  · exact Ok_m (aX0_sizeOf_b98 hfr) (fun _ hr => (Ag.tr (Ag.rf (f := I)) (Ag.mo rfl hr)))
  · refine Ok_i (fun g_4 => ?_) (fun _ => ?_)
    · exact Ok_m (aX0_sizeOf_b98 hfr) (fun _ hr => (Ag.tr (Ag.rf (f := I)) (Ag.mo rfl hr)))
    · refine Ok_i (fun g_5 => ?_) (fun _ => ?_)
      · refine Ok_b (aX0_begin) ?_
        intro I16 hr
        have h_6 := hr
        have m_7 : Ag FwX0_sizeOf_b82 I I16 := Ag.tr (Ag.rf (f := I)) (Ag.mo rfl h_6)
        refine Ok_b (aX0_begin) ?_
        intro I18 hr
        have h_8 := hr
        have m_9 : Ag FwX0_sizeOf_b82 I I18 := Ag.tr m_7 (Ag.mo rfl h_8)
        refine Ok_i (fun g_10 => ?_) (fun _ => ?_)
        · refine Ok_b (aX0_faulted) ?_
          intro rr hr
          obtain ⟨I21, r22⟩ := rr
          have h_11 := hr
          have m_12 : Ag FwX0_sizeOf_b82 I I21 := Ag.tr m_9 (Ag.mo rfl h_11)
          exact Ok_s m_12
        · refine Ok_g (fun g_13 => ?_)
          exact Ok_s m_9
      · refine Ok_b (aX0_begin) ?_
        intro I14 hr
        have h_14 := hr
        have m_15 : Ag FwX0_sizeOf_b82 I I14 := Ag.tr (Ag.rf (f := I)) (Ag.mo rfl h_14)
        exact Ok_s m_15
theorem aX0_sizeOf_l33 {fr : (Shp) → (Nat → Nat → Int32) → (Nat → Nat → Option Nat) → (Option Nat) → (Int32) → Option ((Nat → Nat → Int32) × (Int32))} {σ : Shp} {R : Nat → Nat → Option Nat} (hfr : ∀ (σ : Shp) (I : Nat → Nat → Int32) (R : Nat → Nat → Option Nat) (x1 : Option Nat) (x2 : Int32), Ok (fr σ I R x1 x2) (fun r => Ag FwX0_sizeOf I r.1)) : ∀ (n : Nat) (I : Nat → Nat → Int32) (x1 : Option Nat) (x2 : Int32) (x3 : Int32) (x4 : Int32), Ok (gX0_sizeOf_l33 fr σ R n I x1 x2 x3 x4) (fun r => Ag FwX0_sizeOf_l33 I r.1) := by
  intro n
  induction n with
  | zero => intro I x1 x2 x3 x4; exact Ok_e rfl
  | succ n ih =>
    intro I x1 x2 x3 x4
    rw [gX0_sizeOf_l33]
    refine Ok_bc (fun a26 e_1 => ?_)
    refine Ok_g (fun g_2 => ?_)
    refine Ok_bc (fun a28 e_3 => ?_)
    refine Ok_g (fun g_4 => ?_)
    refine Ok_i (fun g_5 => ?_) (fun _ => ?_)
    · refine Ok_i (fun g_6 => ?_) (fun _ => ?_)
      · exact Ok_m (aX0_sizeOf_b82 hfr) (fun _ hr => (Ag.tr (Ag.rf (f := I)) (Ag.mo rfl hr)))
      · exact Ok_s (Ag.rf (f := I))
    · refine Ok_i (fun g_7 => ?_) (fun _ => ?_)
      · refine Ok_g (fun g_8 => ?_)
        refine Ok_b (hfr _ _ _ _ _) ?_
        intro rr hr
        obtain ⟨I31, r32⟩ := rr
        have h_9 := hr
        have m_10 : Ag FwX0_sizeOf_l33 I I31 := Ag.tr (Ag.rf (f := I)) (Ag.mo rfl h_9)
        exact Ok_m (ih _ _ _ _ _) (fun _ hr => (Ag.tr m_10 (Ag.mo rfl hr)))
      · refine Ok_i (fun g_11 => ?_) (fun _ => ?_)
        · exact Ok_m (aX0_sizeOf_b82 hfr) (fun _ hr => (Ag.tr (Ag.rf (f := I)) (Ag.mo rfl hr)))
        · exact Ok_s (Ag.rf (f := I))
theorem aX0_sizeOf  : ∀ (n : Nat) (σ : Shp) (I : Nat → Nat → Int32) (R : Nat → Nat → Option Nat) (x1 : Option Nat) (x2 : Int32), Ok (gX0_sizeOf n σ I R x1 x2) (fun r => Ag FwX0_sizeOf I r.1) := by
  intro n
  induction n with
  | zero => intro σ I R x1 x2; exact Ok_e rfl
  | succ n ih =>
    intro σ I R x1 x2
    rw [gX0_sizeOf]
    refine Ok_o (fun _ => ?_) (fun a1 e_1 => ?_)
    · refine Ok_b (aX0_faulted) ?_
      intro rr hr
      obtain ⟨I2, r3⟩ := rr
      have h_2 := hr
      have m_3 : Ag FwX0_sizeOf I I2 := Ag.tr (Ag.rf (f := I)) (Ag.mo rfl h_2)
      exact Ok_s m_3
    · refine Ok_i (fun g_4 => ?_) (fun _ => ?_)
      · refine Ok_g (fun g_5 => ?_)
        refine Ok_i (fun g_6 => ?_) (fun _ => ?_)
        · refine Ok_b (aX0_begin) ?_
          intro I24 hr
          have h_7 := hr
          have m_8 : Ag FwX0_sizeOf I I24 := Ag.tr (Ag.rf (f := I)) (Ag.mo rfl h_7)
          exact Ok_m (aX0_sizeOf_l33 ih _ _ _ _ _ _) (fun _ hr => (Ag.tr m_8 (Ag.mo rfl hr)))
        · exact Ok_m (aX0_sizeOf_b82 ih) (fun _ hr => (Ag.tr (Ag.rf (f := I)) (Ag.mo rfl hr)))
      · refine Ok_b (aX0_faulted) ?_
        intro rr hr
        obtain ⟨I36, r37⟩ := rr
        have h_9 := hr
        have m_10 : Ag FwX0_sizeOf I I36 := Ag.tr (Ag.rf (f := I)) (Ag.mo rfl h_9)
        exact Ok_s m_10
theorem aX0_thirstOf_b43 {σ : Shp} {R : Nat → Nat → Option Nat} {I : Nat → Nat → Int32} {x1 : Option Nat} {x2 : Int32} : Ok (gX0_thirstOf_b43 σ R I x1 x2) (fun r => Ag FwX0_thirstOf_b43 I r.1) := by
  unfold gX0_thirstOf_b43
  refine Ok_b (aX0_begin) ?_
  intro I3 hr
  have h_1 := hr
  have m_2 : Ag FwX0_thirstOf_b43 I I3 := Ag.tr (Ag.rf (f := I)) (Ag.mo rfl h_1)
  refine Ok_b (aX0_sizeOf  _ _ _ _ _ _) ?_
  intro rr hr
  obtain ⟨I5, r6⟩ := rr
  have h_3 := hr
  have m_4 : Ag FwX0_thirstOf_b43 I I5 := Ag.tr m_2 (Ag.mo rfl h_3)
  refine Ok_i (fun g_5 => ?_) (fun _ => ?_)
  · exact Ok_s m_4
  · exact Ok_s m_4
theorem aX0_thirstOf {σ : Shp} {I : Nat → Nat → Int32} {R : Nat → Nat → Option Nat} {x1 : Option Nat} : Ok (gX0_thirstOf σ I R x1) (fun r => Ag FwX0_thirstOf I r.1) := by
  unfold gX0_thirstOf
  refine Ok_bc (fun a1 e_1 => ?_)
  refine Ok_g (fun g_2 => ?_)
  refine Ok_i (fun g_3 => ?_) (fun _ => ?_)
  · refine Ok_b (aX0_begin) ?_
    intro I13 hr
    have h_4 := hr
    have m_5 : Ag FwX0_thirstOf I I13 := Ag.tr (Ag.rf (f := I)) (Ag.mo rfl h_4)
    exact Ok_s m_5
  · refine Ok_i (fun g_6 => ?_) (fun _ => ?_)
    · refine Ok_i (fun g_7 => ?_) (fun _ => ?_)
      · exact Ok_m (aX0_thirstOf_b43) (fun _ hr => (Ag.tr (Ag.rf (f := I)) (Ag.mo rfl hr)))
      · refine Ok_b (aX0_begin) ?_
        intro I9 hr
        have h_8 := hr
        have m_9 : Ag FwX0_thirstOf I I9 := Ag.tr (Ag.rf (f := I)) (Ag.mo rfl h_8)
        exact Ok_m (aX0_thirstOf_b43) (fun _ hr => (Ag.tr m_9 (Ag.mo rfl hr)))
    · refine Ok_i (fun g_10 => ?_) (fun _ => ?_)
      · exact Ok_m (aX0_thirstOf_b43) (fun _ hr => (Ag.tr (Ag.rf (f := I)) (Ag.mo rfl hr)))
      · refine Ok_b (aX0_begin) ?_
        intro I11 hr
        have h_11 := hr
        have m_12 : Ag FwX0_thirstOf I I11 := Ag.tr (Ag.rf (f := I)) (Ag.mo rfl h_11)
        exact Ok_m (aX0_thirstOf_b43) (fun _ hr => (Ag.tr m_12 (Ag.mo rfl hr)))
theorem aX0_tell {σ : Shp} {I : Nat → Nat → Int32} {R : Nat → Nat → Option Nat} {x1 : Option Nat} {x2 : Int32} : Ok (gX0_tell σ I R x1 x2) (fun r => Ag FwX0_tell I r.1) := by
  unfold gX0_tell
  refine Ok_o (fun _ => ?_) (fun a1 e_1 => ?_)
  · refine Ok_b (aX0_faulted) ?_
    intro rr hr
    obtain ⟨I2, r3⟩ := rr
    have h_2 := hr
    have m_3 : Ag FwX0_tell I I2 := Ag.tr (Ag.rf (f := I)) (Ag.mo rfl h_2)
    exact Ok_s m_3
  · refine Ok_g (fun g_4 => ?_)
    refine Ok_i (fun g_5 => ?_) (fun _ => ?_)
    · refine Ok_i (fun g_6 => ?_) (fun _ => ?_)
      · refine Ok_b (aX0_faulted) ?_
        intro rr hr
        obtain ⟨I31, r32⟩ := rr
        have h_7 := hr
        have m_8 : Ag FwX0_tell I I31 := Ag.tr (Ag.rf (f := I)) (Ag.mo rfl h_7)
        exact Ok_s m_8
      · refine Ok_i (fun g_9 => ?_) (fun _ => ?_)
        · refine Ok_b (aX0_costAlone) ?_
          intro rr hr
          obtain ⟨I25, r26⟩ := rr
          have h_10 := hr
          have m_11 : Ag FwX0_tell I I25 := Ag.tr (Ag.rf (f := I)) (Ag.mo rfl h_10)
          refine Ok_i (fun g_12 => ?_) (fun _ => ?_)
          · refine Ok_i (fun g_13 => ?_) (fun _ => ?_)
            · refine Ok_b (aX0_thirstOf) ?_
              intro rr hr
              obtain ⟨I28, r29⟩ := rr
              have h_14 := hr
              have m_15 : Ag FwX0_tell I I28 := Ag.tr m_11 (Ag.mo rfl h_14)
              exact Ok_s m_15
            · exact Ok_s m_11
          · exact Ok_s m_11
        · refine Ok_i (fun g_16 => ?_) (fun _ => ?_)
          · refine Ok_b (aX0_sizeOf  _ _ _ _ _ _) ?_
            intro rr hr
            obtain ⟨I22, r23⟩ := rr
            have h_17 := hr
            have m_18 : Ag FwX0_tell I I22 := Ag.tr (Ag.rf (f := I)) (Ag.mo rfl h_17)
            exact Ok_s m_18
          · refine Ok_i (fun g_19 => ?_) (fun _ => ?_)
            · refine Ok_b (aX0_thirstOf) ?_
              intro rr hr
              obtain ⟨I19, r20⟩ := rr
              have h_20 := hr
              have m_21 : Ag FwX0_tell I I19 := Ag.tr (Ag.rf (f := I)) (Ag.mo rfl h_20)
              exact Ok_s m_21
            · refine Ok_i (fun g_22 => ?_) (fun _ => ?_)
              · exact Ok_s (Ag.rf (f := I))
              · refine Ok_i (fun g_23 => ?_) (fun _ => ?_)
                · refine Ok_b (aX0_markOf) ?_
                  intro rr hr
                  obtain ⟨I16, r17⟩ := rr
                  have h_24 := hr
                  have m_25 : Ag FwX0_tell I I16 := Ag.tr (Ag.rf (f := I)) (Ag.mo rfl h_24)
                  exact Ok_s m_25
                · refine Ok_i (fun g_26 => ?_) (fun _ => ?_)
                  · refine Ok_i (fun g_27 => ?_) (fun _ => ?_)
                    · exact Ok_s (Ag.rf (f := I))
                    · exact Ok_s (Ag.rf (f := I))
                  · refine Ok_i (fun g_28 => ?_) (fun _ => ?_)
                    · exact Ok_s (Ag.rf (f := I))
                    · refine Ok_i (fun g_29 => ?_) (fun _ => ?_)
                      · exact Ok_s (Ag.rf (f := I))
                      · exact Ok_s (Ag.rf (f := I))
    · refine Ok_b (aX0_faulted) ?_
      intro rr hr
      obtain ⟨I6, r7⟩ := rr
      have h_30 := hr
      have m_31 : Ag FwX0_tell I I6 := Ag.tr (Ag.rf (f := I)) (Ag.mo rfl h_30)
      exact Ok_s m_31
theorem aX1_powerSet {I : Nat → Nat → Int32} {x1 : Int32} : Ok (gX1_powerSet I x1) (fun r => Ag FwX1_powerSet I r.1) := by
  unfold gX1_powerSet
  refine Ok_i (fun g_1 => ?_) (fun _ => ?_)
  · exact Ok_s (Ag.st (Ag.rf (f := I)) (keyo (L := [(108, 109)]) (M := FwX1_powerSet) rfl rfl (show inW [(108, 109)] 108 = true from rfl)))
  · exact Ok_s (Ag.rf (f := I))
theorem aX1_putNumber_l3 {σ : Shp} {R : Nat → Nat → Option Nat} : ∀ (n : Nat) (I : Nat → Nat → Int32) (x1 : Int32) (x2 : Int32) (x3 : Int64) (x5 : Int32), Ok (gX1_putNumber_l3 σ R n I x1 x2 x3 x5) (fun r => Ag FwX1_putNumber_l3 I r) := by
  intro n
  induction n with
  | zero => intro I x1 x2 x3 x5; exact Ok_e rfl
  | succ n ih =>
    intro I x1 x2 x3 x5
    rw [gX1_putNumber_l3]
    refine Ok_i (fun g_1 => ?_) (fun _ => ?_)
    · exact Ok_s (Ag.rf (f := I))
    · refine Ok_i (fun g_2 => ?_) (fun _ => ?_)
      · exact Ok_s (Ag.rf (f := I))
      · refine Ok_g (fun g_3 => ?_)
        exact Ok_m (ih _ _ _ _ _) (fun _ hr => (Ag.tr (Ag.st (Ag.rf (f := I)) (keyo (L := [(110, 111)]) (M := FwX1_putNumber_l3) rfl rfl (show inW [(110, 111)] 110 = true from rfl))) (Ag.mo rfl hr)))
theorem aX1_putNumber {σ : Shp} {I : Nat → Nat → Int32} {R : Nat → Nat → Option Nat} {x1 : Int32} {x2 : Int32} {x3 : Int64} : Ok (gX1_putNumber σ I R x1 x2 x3) (fun r => Ag FwX1_putNumber I r) := by
  unfold gX1_putNumber
  exact Ok_m (aX1_putNumber_l3  _ _ _ _ _ _) (fun _ hr => (Ag.tr (Ag.rf (f := I)) (Ag.mo rfl hr)))
theorem aX1_fillDraft_l50 {σ : Shp} {J : Nat → Nat → Int64} {R : Nat → Nat → Option Nat} : ∀ (n : Nat) (I : Nat → Nat → Int32) (x3 : Option Nat) (x4 : Int32), Ok (gX1_fillDraft_l50 σ J R n I x3 x4) (fun r => Ag FwX1_fillDraft_l50 I r) := by
  intro n
  induction n with
  | zero => intro I x3 x4; exact Ok_e rfl
  | succ n ih =>
    intro I x3 x4
    rw [gX1_fillDraft_l50]
    refine Ok_bc (fun a9 e_1 => ?_)
    refine Ok_g (fun g_2 => ?_)
    refine Ok_i (fun g_3 => ?_) (fun _ => ?_)
    · refine Ok_t ?_
      intro r11
      refine Ok_b (aX1_putNumber) ?_
      intro I13 hr
      have h_4 := hr
      have m_5 : Ag FwX1_fillDraft_l50 I I13 := Ag.tr (Ag.rf (f := I)) (Ag.mo rfl h_4)
      exact Ok_s m_5
    · refine Ok_i (fun g_6 => ?_) (fun _ => ?_)
      · refine Ok_t ?_
        intro r15
        refine Ok_b (aX1_putNumber) ?_
        intro I17 hr
        have h_7 := hr
        have m_8 : Ag FwX1_fillDraft_l50 I I17 := Ag.tr (Ag.rf (f := I)) (Ag.mo rfl h_7)
        exact Ok_s m_8
      · refine Ok_g (fun g_9 => ?_)
        refine Ok_b (aX1_putNumber) ?_
        intro I20 hr
        have h_10 := hr
        have m_11 : Ag FwX1_fillDraft_l50 I I20 := Ag.tr (Ag.rf (f := I)) (Ag.mo rfl h_10)
        exact Ok_m (ih _ _ _) (fun _ hr => (Ag.tr m_11 (Ag.mo rfl hr)))
theorem aX1_fillDraft_l3 {σ : Shp} {J : Nat → Nat → Int64} {R : Nat → Nat → Option Nat} : ∀ (n : Nat) (I : Nat → Nat → Int32) (x1 : Int32) (x2 : Int32) (x3 : Option Nat) (x4 : Int32), Ok (gX1_fillDraft_l3 σ J R n I x1 x2 x3 x4) (fun r => Ag FwX1_fillDraft_l3 I r) := by
  intro n
  induction n with
  | zero => intro I x1 x2 x3 x4; exact Ok_e rfl
  | succ n ih =>
    intro I x1 x2 x3 x4
    rw [gX1_fillDraft_l3]
    refine Ok_i (fun g_1 => ?_) (fun _ => ?_)
    · refine Ok_b (aX1_putNumber) ?_
      intro I1 hr
      have h_2 := hr
      have m_3 : Ag FwX1_fillDraft_l3 I I1 := Ag.tr (Ag.rf (f := I)) (Ag.mo rfl h_2)
      refine Ok_g (fun g_4 => ?_)
      refine Ok_bc (fun a5 e_6 => ?_)
      refine Ok_g (fun g_7 => ?_)
      refine Ok_g (fun g_8 => ?_)
      exact Ok_m (aX1_fillDraft_l50  _ _ _ _) (fun _ hr => (Ag.tr (Ag.st (Ag.st m_3 (keyo (L := [(110, 111)]) (M := FwX1_fillDraft_l3) rfl rfl (show inW [(110, 111)] 110 = true from rfl))) (keyo (L := [(110, 111)]) (M := FwX1_fillDraft_l3) rfl rfl (show inW [(110, 111)] 110 = true from rfl))) (Ag.mo rfl hr)))
    · refine Ok_g (fun g_10 => ?_)
      exact Ok_m (ih _ _ _ _ _) (fun _ hr => (Ag.tr (Ag.st (Ag.rf (f := I)) (keyo (L := [(110, 111)]) (M := FwX1_fillDraft_l3) rfl rfl (show inW [(110, 111)] 110 = true from rfl))) (Ag.mo rfl hr)))
theorem aX1_fillDraft {σ : Shp} {I : Nat → Nat → Int32} {J : Nat → Nat → Int64} {R : Nat → Nat → Option Nat} {x1 : Int32} {x2 : Int32} {x3 : Option Nat} : Ok (gX1_fillDraft σ I J R x1 x2 x3) (fun r => Ag FwX1_fillDraft I r) := by
  unfold gX1_fillDraft
  exact Ok_m (aX1_fillDraft_l3  _ _ _ _ _ _) (fun _ hr => (Ag.tr (Ag.rf (f := I)) (Ag.mo rfl hr)))
theorem aX1_written_b124 {σ : Shp} {J : Nat → Nat → Int64} {R : Nat → Nat → Option Nat} {I : Nat → Nat → Int32} {x3 : Int32} : Ok (gX1_written_b124 σ J R I x3) (fun r => Ag FwX1_written_b124 I r.1) := by
  unfold gX1_written_b124
  refine Ok_i (fun g_1 => ?_) (fun _ => ?_)
  · refine Ok_i (fun g_2 => ?_) (fun _ => ?_)
    · exact Ok_s (Ag.st (Ag.rf (f := I)) (keyo (L := [(108, 109)]) (M := FwX1_written_b124) rfl rfl (show inW [(108, 109)] 108 = true from rfl)))
    · exact Ok_s (Ag.st (Ag.st (Ag.rf (f := I)) (keyo (L := [(108, 109)]) (M := FwX1_written_b124) rfl rfl (show inW [(108, 109)] 108 = true from rfl))) (keyo (L := [(108, 109)]) (M := FwX1_written_b124) rfl rfl (show inW [(108, 109)] 108 = true from rfl)))
  · exact Ok_s (Ag.st (Ag.rf (f := I)) (keyo (L := [(108, 109)]) (M := FwX1_written_b124) rfl rfl (show inW [(108, 109)] 108 = true from rfl)))
theorem aX1_written_l76 {σ : Shp} {J : Nat → Nat → Int64} {R : Nat → Nat → Option Nat} : ∀ (n : Nat) (I : Nat → Nat → Int32) (x3 : Int32) (x4 : Int32), Ok (gX1_written_l76 σ J R n I x3 x4) (fun r => Ag FwX1_written_l76 I r.1) := by
  intro n
  induction n with
  | zero => intro I x3 x4; exact Ok_e rfl
  | succ n ih =>
    intro I x3 x4
    rw [gX1_written_l76]
    refine Ok_i (fun g_1 => ?_) (fun _ => ?_)
    · refine Ok_i (fun g_2 => ?_) (fun _ => ?_)
      · exact Ok_m (aX1_written_b124) (fun _ hr => (Ag.tr (Ag.rf (f := I)) (Ag.mo rfl hr)))
      · exact Ok_m (aX1_written_b124) (fun _ hr => (Ag.tr (Ag.st (Ag.rf (f := I)) (keyo (L := [(108, 109)]) (M := FwX1_written_l76) rfl rfl (show inW [(108, 109)] 108 = true from rfl))) (Ag.mo rfl hr)))
    · refine Ok_g (fun g_4 => ?_)
      refine Ok_g (fun g_5 => ?_)
      exact Ok_m (ih _ _ _) (fun _ hr => (Ag.tr (Ag.st (Ag.rf (f := I)) (keyo (L := [(109, 110)]) (M := FwX1_written_l76) rfl rfl (show inW [(109, 110)] 109 = true from rfl))) (Ag.mo rfl hr)))
theorem aX1_written {σ : Shp} {I : Nat → Nat → Int32} {J : Nat → Nat → Int64} {R : Nat → Nat → Option Nat} {x1 : Int32} {x2 : Option Nat} : Ok (gX1_written σ I J R x1 x2) (fun r => Ag FwX1_written I r.1) := by
  unfold gX1_written
  refine Ok_i (fun g_1 => ?_) (fun _ => ?_)
  · refine Ok_bc (fun a1 e_2 => ?_)
    refine Ok_g (fun g_3 => ?_)
    refine Ok_i (fun g_4 => ?_) (fun _ => ?_)
    · exact Ok_s (Ag.rf (f := I))
    · refine Ok_i (fun g_5 => ?_) (fun _ => ?_)
      · exact Ok_s (Ag.rf (f := I))
      · refine Ok_i (fun g_6 => ?_) (fun _ => ?_)
        · exact Ok_s (Ag.rf (f := I))
        · refine Ok_b (aX1_fillDraft) ?_
          intro I3 hr
          have h_7 := hr
          have m_8 : Ag FwX1_written I I3 := Ag.tr (Ag.rf (f := I)) (Ag.mo rfl h_7)
          refine Ok_i (fun g_9 => ?_) (fun _ => ?_)
          · exact Ok_m (aX1_written_l76  _ _ _ _) (fun _ hr => (Ag.tr m_8 (Ag.mo rfl hr)))
          · exact Ok_m (aX1_written_l76  _ _ _ _) (fun _ hr => (Ag.tr m_8 (Ag.mo rfl hr)))
  · exact Ok_s (Ag.rf (f := I))
theorem aX1_gatherRead_l29 {q4 : (Nat → Nat → Int32) → (Int32) → (Int32) → (Option ((Nat → Nat → Int32) × (Int32)))} {σ : Shp} {R : Nat → Nat → Option Nat} (hq4 : ∀ (I : Nat → Nat → Int32) (x1 : Int32) (x2 : Int32), Ok (q4 I x1 x2) (fun r => Ag FwX1_gatherRead_l4 I r.1)) : ∀ (n : Nat) (I : Nat → Nat → Int32) (x1 : Int32) (x2 : Int32) (x3 : Int32), Ok (gX1_gatherRead_l29 q4 σ R n I x1 x2 x3) (fun r => Ag FwX1_gatherRead_l29 I r.1) := by
  intro n
  induction n with
  | zero => intro I x1 x2 x3; exact Ok_e rfl
  | succ n ih =>
    intro I x1 x2 x3
    rw [gX1_gatherRead_l29]
    refine Ok_i (fun g_1 => ?_) (fun _ => ?_)
    · refine Ok_g (fun g_2 => ?_)
      exact Ok_m (hq4 _ _ _) (fun _ hr => (Ag.tr (Ag.st (Ag.rf (f := I)) (keyo (L := [(111, 112)]) (M := FwX1_gatherRead_l29) rfl rfl (show inW [(111, 112)] 111 = true from rfl))) (Ag.mo rfl hr)))
    · refine Ok_g (fun g_4 => ?_)
      refine Ok_t ?_
      intro r12
      refine Ok_t ?_
      intro r14
      refine Ok_i (fun g_5 => ?_) (fun _ => ?_)
      · refine Ok_g (fun g_6 => ?_)
        exact Ok_m (hq4 _ _ _) (fun _ hr => (Ag.tr (Ag.st (Ag.rf (f := I)) (keyo (L := [(111, 112)]) (M := FwX1_gatherRead_l29) rfl rfl (show inW [(111, 112)] 111 = true from rfl))) (Ag.mo rfl hr)))
      · refine Ok_g (fun g_8 => ?_)
        exact Ok_m (ih _ _ _ _) (fun _ hr => (Ag.tr (Ag.st (Ag.rf (f := I)) (keyo (L := [(111, 112)]) (M := FwX1_gatherRead_l29) rfl rfl (show inW [(111, 112)] 111 = true from rfl))) (Ag.mo rfl hr)))
theorem aX1_gatherRead_l4 {σ : Shp} {R : Nat → Nat → Option Nat} : ∀ (n : Nat) (I : Nat → Nat → Int32) (x1 : Int32) (x2 : Int32), Ok (gX1_gatherRead_l4 σ R n I x1 x2) (fun r => Ag FwX1_gatherRead_l4 I r.1) := by
  intro n
  induction n with
  | zero => intro I x1 x2; exact Ok_e rfl
  | succ n ih =>
    intro I x1 x2
    rw [gX1_gatherRead_l4]
    refine Ok_i (fun g_1 => ?_) (fun _ => ?_)
    · exact Ok_s (Ag.rf (f := I))
    · refine Ok_t ?_
      intro r1
      refine Ok_i (fun g_2 => ?_) (fun _ => ?_)
      · exact Ok_m (ih _ _ _) (fun _ hr => (Ag.tr (Ag.rf (f := I)) (Ag.mo rfl hr)))
      · refine Ok_t ?_
        intro r4
        refine Ok_i (fun g_3 => ?_) (fun _ => ?_)
        · exact Ok_m (aX1_gatherRead_l29 ih _ _ _ _ _) (fun _ hr => (Ag.tr (Ag.rf (f := I)) (Ag.mo rfl hr)))
        · exact Ok_m (ih _ _ _) (fun _ hr => (Ag.tr (Ag.rf (f := I)) (Ag.mo rfl hr)))
theorem aX1_gatherRead {σ : Shp} {I : Nat → Nat → Int32} {R : Nat → Nat → Option Nat} : Ok (gX1_gatherRead σ I R) (fun r => Ag FwX1_gatherRead I r.1) := by
  unfold gX1_gatherRead
  exact Ok_m (aX1_gatherRead_l4  _ _ _ _) (fun _ hr => (Ag.tr (Ag.rf (f := I)) (Ag.mo rfl hr)))
theorem aX1_opened_l46 {σ : Shp} {R : Nat → Nat → Option Nat} : ∀ (n : Nat) (I : Nat → Nat → Int32) (x1 : Int32) (x2 : Int32), Ok (gX1_opened_l46 σ R n I x1 x2) (fun r => Ag FwX1_opened_l46 I r.1) := by
  intro n
  induction n with
  | zero => intro I x1 x2; exact Ok_e rfl
  | succ n ih =>
    intro I x1 x2
    rw [gX1_opened_l46]
    refine Ok_i (fun g_1 => ?_) (fun _ => ?_)
    · exact Ok_s (Ag.rf (f := I))
    · refine Ok_t ?_
      intro r11
      refine Ok_i (fun g_2 => ?_) (fun _ => ?_)
      · exact Ok_m (ih _ _ _) (fun _ hr => (Ag.tr (Ag.st (Ag.rf (f := I)) (keyo (L := [(108, 109)]) (M := FwX1_opened_l46) rfl rfl (show inW [(108, 109)] 108 = true from rfl))) (Ag.mo rfl hr)))
      · exact Ok_m (ih _ _ _) (fun _ hr => (Ag.tr (Ag.rf (f := I)) (Ag.mo rfl hr)))
theorem aX1_opened {σ : Shp} {I : Nat → Nat → Int32} {R : Nat → Nat → Option Nat} : Ok (gX1_opened σ I R) (fun r => Ag FwX1_opened I r.1) := by
  unfold gX1_opened
  refine Ok_b (aX1_gatherRead) ?_
  intro rr hr
  obtain ⟨I3, r4⟩ := rr
  have h_3 := hr
  have m_4 : Ag FwX1_opened I I3 := Ag.tr (Ag.st (Ag.st (Ag.rf (f := I)) (keyo (L := [(108, 109)]) (M := FwX1_opened) rfl rfl (show inW [(108, 109)] 108 = true from rfl))) (keyo (L := [(108, 109)]) (M := FwX1_opened) rfl rfl (show inW [(108, 109)] 108 = true from rfl))) (Ag.mo rfl h_3)
  refine Ok_i (fun g_5 => ?_) (fun _ => ?_)
  · exact Ok_m (aX1_opened_l46  _ _ _ _) (fun _ hr => (Ag.tr (Ag.st (Ag.st m_4 (keyo (L := [(108, 109)]) (M := FwX1_opened) rfl rfl (show inW [(108, 109)] 108 = true from rfl))) (keyo (L := [(108, 109)]) (M := FwX1_opened) rfl rfl (show inW [(108, 109)] 108 = true from rfl))) (Ag.mo rfl hr)))
  · refine Ok_g (fun g_8 => ?_)
    refine Ok_t ?_
    intro r7
    exact Ok_m (aX1_opened_l46  _ _ _ _) (fun _ hr => (Ag.tr (Ag.st (Ag.st m_4 (keyo (L := [(108, 109)]) (M := FwX1_opened) rfl rfl (show inW [(108, 109)] 108 = true from rfl))) (keyo (L := [(108, 109)]) (M := FwX1_opened) rfl rfl (show inW [(108, 109)] 108 = true from rfl))) (Ag.mo rfl hr)))
theorem aX1_readOf {σ : Shp} {I : Nat → Nat → Int32} {R : Nat → Nat → Option Nat} {x1 : Int32} {x2 : Int32} : Ok (gX1_readOf σ I R x1 x2) (fun r => Ag FwX1_readOf I r.1) := by
  unfold gX1_readOf
  refine Ok_i (fun g_1 => ?_) (fun _ => ?_)
  · exact Ok_s (Ag.rf (f := I))
  · refine Ok_b (aX1_gatherRead) ?_
    intro rr hr
    obtain ⟨I1, r2⟩ := rr
    have h_2 := hr
    have m_3 : Ag FwX1_readOf I I1 := Ag.tr (Ag.rf (f := I)) (Ag.mo rfl h_2)
    refine Ok_i (fun g_4 => ?_) (fun _ => ?_)
    · exact Ok_s m_3
    · refine Ok_i (fun g_5 => ?_) (fun _ => ?_)
      · refine Ok_g (fun g_6 => ?_)
        refine Ok_t ?_
        intro r6
        refine Ok_i (fun g_7 => ?_) (fun _ => ?_)
        · exact Ok_s m_3
        · refine Ok_i (fun g_8 => ?_) (fun _ => ?_)
          · refine Ok_t ?_
            intro r17
            exact Ok_s m_3
          · refine Ok_i (fun g_9 => ?_) (fun _ => ?_)
            · refine Ok_t ?_
              intro r15
              exact Ok_s m_3
            · refine Ok_i (fun g_10 => ?_) (fun _ => ?_)
              · exact Ok_s m_3
              · refine Ok_i (fun g_11 => ?_) (fun _ => ?_)
                · exact Ok_s m_3
                · refine Ok_i (fun g_12 => ?_) (fun _ => ?_)
                  · exact Ok_s m_3
                  · refine Ok_t ?_
                    intro r13
                    exact Ok_s m_3
      · exact Ok_s m_3
theorem aX2_becomes {I : Nat → Nat → Int32} {x1 : Int32} {x2 : Int32} {x3 : Int32} : Ok (gX2_becomes I x1 x2 x3) (fun r => Ag FwX2_becomes I r.1) := by
  unfold gX2_becomes
  refine Ok_g (fun g_1 => ?_)
  refine Ok_g (fun g_2 => ?_)
  exact Ok_s (Ag.st (Ag.rf (f := I)) (keyo (L := [(73, 79)]) (M := FwX2_becomes) rfl rfl (inW_r (L := [(73, 79)]) (lo := 73) (n := 6) rfl (rowi g_1))))
theorem aX2_clearOutcome_l34 {σ : Shp} {R : Nat → Nat → Option Nat} : ∀ (n : Nat) (I : Nat → Nat → Int32) (J : Nat → Nat → Int64) (x1 : Int32), Ok (gX2_clearOutcome_l34 σ R n I J x1) (fun r => Ag FwX2_clearOutcome_l34 I r.1 ∧ Ag FwX2_clearOutcome_l34 J r.2) := by
  intro n
  induction n with
  | zero => intro I J x1; exact Ok_e rfl
  | succ n ih =>
    intro I J x1
    rw [gX2_clearOutcome_l34]
    refine Ok_i (fun g_1 => ?_) (fun _ => ?_)
    · exact Ok_s ⟨(Ag.rf (f := I)), (Ag.rf (f := J))⟩
    · refine Ok_g (fun g_2 => ?_)
      exact Ok_m (ih _ _ _) (fun _ ⟨h0, h1⟩ => ⟨(Ag.tr (Ag.rf (f := I)) (Ag.mo rfl h0)), (Ag.tr (Ag.st (Ag.rf (f := J)) (keyo (L := [(90, 91)]) (M := FwX2_clearOutcome_l34) rfl rfl (show inW [(90, 91)] 90 = true from rfl))) (Ag.mo rfl h1))⟩)
theorem aX2_clearOutcome_l7 {σ : Shp} {R : Nat → Nat → Option Nat} : ∀ (n : Nat) (I : Nat → Nat → Int32) (J : Nat → Nat → Int64) (x1 : Int32), Ok (gX2_clearOutcome_l7 σ R n I J x1) (fun r => Ag FwX2_clearOutcome_l7 I r.1 ∧ Ag FwX2_clearOutcome_l7 J r.2) := by
  intro n
  induction n with
  | zero => intro I J x1; exact Ok_e rfl
  | succ n ih =>
    intro I J x1
    rw [gX2_clearOutcome_l7]
    refine Ok_i (fun g_1 => ?_) (fun _ => ?_)
    · exact Ok_m (aX2_clearOutcome_l34  _ _ _ _) (fun _ ⟨h0, h1⟩ => ⟨(Ag.tr (Ag.rf (f := I)) (Ag.mo rfl h0)), (Ag.tr (Ag.rf (f := J)) (Ag.mo rfl h1))⟩)
    · refine Ok_g (fun g_2 => ?_)
      refine Ok_g (fun g_4 => ?_)
      exact Ok_m (ih _ _ _) (fun _ ⟨h0, h1⟩ => ⟨(Ag.tr (Ag.rf (f := I)) (Ag.mo rfl h0)), (Ag.tr (Ag.st (Ag.st (Ag.rf (f := J)) (keyo (L := [(88, 89)]) (M := FwX2_clearOutcome_l7) rfl rfl (show inW [(88, 89)] 88 = true from rfl))) (keyo (L := [(89, 90)]) (M := FwX2_clearOutcome_l7) rfl rfl (show inW [(89, 90)] 89 = true from rfl))) (Ag.mo rfl h1))⟩)
theorem aX2_clearOutcome {σ : Shp} {I : Nat → Nat → Int32} {J : Nat → Nat → Int64} {R : Nat → Nat → Option Nat} : Ok (gX2_clearOutcome σ I J R) (fun r => Ag FwX2_clearOutcome I r.1 ∧ Ag FwX2_clearOutcome J r.2) := by
  unfold gX2_clearOutcome
  exact Ok_m (aX2_clearOutcome_l7  _ _ _ _) (fun _ ⟨h0, h1⟩ => ⟨(Ag.tr (Ag.st (Ag.rf (f := I)) (keyo (L := [(71, 72)]) (M := FwX2_clearOutcome) rfl rfl (show inW [(71, 72)] 71 = true from rfl))) (Ag.mo rfl h0)), (Ag.tr (Ag.rf (f := J)) (Ag.mo rfl h1))⟩)
theorem aX2_fillRows_l9 {q2 : (Nat → Nat → Int64) → (Int32) → (Option ((Nat → Nat → Int64)))} {σ : Shp} {I : Nat → Nat → Int32} {R : Nat → Nat → Option Nat} (hq2 : ∀ (J : Nat → Nat → Int64) (x1 : Int32), Ok (q2 J x1) (fun r => Ag FwX2_fillRows_l2 J r)) : ∀ (n : Nat) (J : Nat → Nat → Int64) (x1 : Int32) (x2 : Int32), Ok (gX2_fillRows_l9 q2 σ I R n J x1 x2) (fun r => Ag FwX2_fillRows_l9 J r) := by
  intro n
  induction n with
  | zero => intro J x1 x2; exact Ok_e rfl
  | succ n ih =>
    intro J x1 x2
    rw [gX2_fillRows_l9]
    refine Ok_i (fun g_1 => ?_) (fun _ => ?_)
    · refine Ok_g (fun g_2 => ?_)
      refine Ok_g (fun g_3 => ?_)
      refine Ok_g (fun g_4 => ?_)
      refine Ok_g (fun g_5 => ?_)
      refine Ok_g (fun g_6 => ?_)
      refine Ok_g (fun g_7 => ?_)
      exact Ok_m (hq2 _ _) (fun _ hr => (Ag.tr (Ag.st (Ag.rf (f := J)) (keyo (L := [(80, 83)]) (M := FwX2_fillRows_l9) rfl rfl (inW_r (L := [(80, 83)]) (lo := 80) (n := 3) rfl (rowi g_2)))) (Ag.mo rfl hr)))
    · refine Ok_g (fun g_9 => ?_)
      refine Ok_i (fun g_10 => ?_) (fun _ => ?_)
      · refine Ok_i (fun g_11 => ?_) (fun _ => ?_)
        · refine Ok_g (fun g_12 => ?_)
          refine Ok_g (fun g_14 => ?_)
          refine Ok_g (fun g_15 => ?_)
          exact Ok_m (ih _ _ _) (fun _ hr => (Ag.tr (Ag.st (Ag.st (Ag.rf (f := J)) (keyo (L := [(80, 83)]) (M := FwX2_fillRows_l9) rfl rfl (inW_r (L := [(80, 83)]) (lo := 80) (n := 3) rfl (rowi g_9)))) (keyo (L := [(84, 87)]) (M := FwX2_fillRows_l9) rfl rfl (inW_r (L := [(84, 87)]) (lo := 84) (n := 3) rfl (rowi g_9)))) (Ag.mo rfl hr)))
        · refine Ok_g (fun g_17 => ?_)
          refine Ok_g (fun g_19 => ?_)
          refine Ok_g (fun g_20 => ?_)
          exact Ok_m (ih _ _ _) (fun _ hr => (Ag.tr (Ag.st (Ag.st (Ag.rf (f := J)) (keyo (L := [(80, 83)]) (M := FwX2_fillRows_l9) rfl rfl (inW_r (L := [(80, 83)]) (lo := 80) (n := 3) rfl (rowi g_9)))) (keyo (L := [(84, 87)]) (M := FwX2_fillRows_l9) rfl rfl (inW_r (L := [(84, 87)]) (lo := 84) (n := 3) rfl (rowi g_9)))) (Ag.mo rfl hr)))
      · refine Ok_g (fun g_22 => ?_)
        refine Ok_g (fun g_23 => ?_)
        refine Ok_g (fun g_24 => ?_)
        refine Ok_g (fun g_26 => ?_)
        refine Ok_g (fun g_27 => ?_)
        exact Ok_m (ih _ _ _) (fun _ hr => (Ag.tr (Ag.st (Ag.st (Ag.rf (f := J)) (keyo (L := [(80, 83)]) (M := FwX2_fillRows_l9) rfl rfl (inW_r (L := [(80, 83)]) (lo := 80) (n := 3) rfl (rowi g_9)))) (keyo (L := [(84, 87)]) (M := FwX2_fillRows_l9) rfl rfl (inW_r (L := [(84, 87)]) (lo := 84) (n := 3) rfl (rowi g_9)))) (Ag.mo rfl hr)))
theorem aX2_fillRows_l2 {σ : Shp} {I : Nat → Nat → Int32} {R : Nat → Nat → Option Nat} : ∀ (n : Nat) (J : Nat → Nat → Int64) (x1 : Int32), Ok (gX2_fillRows_l2 σ I R n J x1) (fun r => Ag FwX2_fillRows_l2 J r) := by
  intro n
  induction n with
  | zero => intro J x1; exact Ok_e rfl
  | succ n ih =>
    intro J x1
    rw [gX2_fillRows_l2]
    refine Ok_i (fun g_1 => ?_) (fun _ => ?_)
    · exact Ok_s (Ag.rf (f := J))
    · exact Ok_m (aX2_fillRows_l9 ih _ _ _ _) (fun _ hr => (Ag.tr (Ag.rf (f := J)) (Ag.mo rfl hr)))
theorem aX2_fillRows {σ : Shp} {I : Nat → Nat → Int32} {J : Nat → Nat → Int64} {R : Nat → Nat → Option Nat} : Ok (gX2_fillRows σ I J R) (fun r => Ag FwX2_fillRows J r) := by
  unfold gX2_fillRows
  exact Ok_m (aX2_fillRows_l2  _ _ _) (fun _ hr => (Ag.tr (Ag.rf (f := J)) (Ag.mo rfl hr)))
theorem aX2_tellFractions_l24 {σ : Shp} {I : Nat → Nat → Int32} {R : Nat → Nat → Option Nat} : ∀ (n : Nat) (J : Nat → Nat → Int64) (x1 : Int32) (x2 : Int32), Ok (gX2_tellFractions_l24 σ I R n J x1 x2) (fun r => Ag FwX2_tellFractions_l24 J r.1) := by
  intro n
  induction n with
  | zero => intro J x1 x2; exact Ok_e rfl
  | succ n ih =>
    intro J x1 x2
    rw [gX2_tellFractions_l24]
    refine Ok_i (fun g_1 => ?_) (fun _ => ?_)
    · refine Ok_g (fun g_2 => ?_)
      exact Ok_s (Ag.rf (f := J))
    · refine Ok_i (fun g_3 => ?_) (fun _ => ?_)
      · refine Ok_g (fun g_4 => ?_)
        exact Ok_s (Ag.rf (f := J))
      · refine Ok_g (fun g_5 => ?_)
        refine Ok_g (fun g_6 => ?_)
        refine Ok_g (fun g_7 => ?_)
        refine Ok_g (fun g_8 => ?_)
        refine Ok_g (fun g_10 => ?_)
        refine Ok_g (fun g_11 => ?_)
        refine Ok_g (fun g_12 => ?_)
        refine Ok_i (fun g_14 => ?_) (fun _ => ?_)
        · exact Ok_m (ih _ _ _) (fun _ hr => (Ag.tr (Ag.st (Ag.st (Ag.rf (f := J)) (keyo (L := [(88, 89)]) (M := FwX2_tellFractions_l24) rfl rfl (show inW [(88, 89)] 88 = true from rfl))) (keyo (L := [(89, 90)]) (M := FwX2_tellFractions_l24) rfl rfl (show inW [(89, 90)] 89 = true from rfl))) (Ag.mo rfl hr)))
        · refine Ok_i (fun g_15 => ?_) (fun _ => ?_)
          · exact Ok_m (ih _ _ _) (fun _ hr => (Ag.tr (Ag.st (Ag.st (Ag.rf (f := J)) (keyo (L := [(88, 89)]) (M := FwX2_tellFractions_l24) rfl rfl (show inW [(88, 89)] 88 = true from rfl))) (keyo (L := [(89, 90)]) (M := FwX2_tellFractions_l24) rfl rfl (show inW [(89, 90)] 89 = true from rfl))) (Ag.mo rfl hr)))
          · exact Ok_m (ih _ _ _) (fun _ hr => (Ag.tr (Ag.st (Ag.st (Ag.rf (f := J)) (keyo (L := [(88, 89)]) (M := FwX2_tellFractions_l24) rfl rfl (show inW [(88, 89)] 88 = true from rfl))) (keyo (L := [(89, 90)]) (M := FwX2_tellFractions_l24) rfl rfl (show inW [(89, 90)] 89 = true from rfl))) (Ag.mo rfl hr)))
theorem aX2_tellFractions_l2 {σ : Shp} {I : Nat → Nat → Int32} {R : Nat → Nat → Option Nat} : ∀ (n : Nat) (J : Nat → Nat → Int64) (x1 : Int32), Ok (gX2_tellFractions_l2 σ I R n J x1) (fun r => Ag FwX2_tellFractions_l2 J r.1) := by
  intro n
  induction n with
  | zero => intro J x1; exact Ok_e rfl
  | succ n ih =>
    intro J x1
    rw [gX2_tellFractions_l2]
    refine Ok_i (fun g_1 => ?_) (fun _ => ?_)
    · exact Ok_m (aX2_tellFractions_l24  _ _ _ _) (fun _ hr => (Ag.tr (Ag.rf (f := J)) (Ag.mo rfl hr)))
    · refine Ok_g (fun g_2 => ?_)
      exact Ok_m (ih _ _) (fun _ hr => (Ag.tr (Ag.st (Ag.rf (f := J)) (keyo (L := [(89, 90)]) (M := FwX2_tellFractions_l2) rfl rfl (show inW [(89, 90)] 89 = true from rfl))) (Ag.mo rfl hr)))
theorem aX2_tellFractions {σ : Shp} {I : Nat → Nat → Int32} {J : Nat → Nat → Int64} {R : Nat → Nat → Option Nat} : Ok (gX2_tellFractions σ I J R) (fun r => Ag FwX2_tellFractions J r.1) := by
  unfold gX2_tellFractions
  exact Ok_m (aX2_tellFractions_l2  _ _ _) (fun _ hr => (Ag.tr (Ag.rf (f := J)) (Ag.mo rfl hr)))
theorem aX2_tellWitness_l157 {σ : Shp} {R : Nat → Nat → Option Nat} : ∀ (n : Nat) (J : Nat → Nat → Int64) (x6 : Int64) (x8 : Int32), Ok (gX2_tellWitness_l157 σ R n J x6 x8) (fun r => Ag FwX2_tellWitness_l157 J r) := by
  intro n
  induction n with
  | zero => intro J x6 x8; exact Ok_e rfl
  | succ n ih =>
    intro J x6 x8
    rw [gX2_tellWitness_l157]
    refine Ok_i (fun g_1 => ?_) (fun _ => ?_)
    · exact Ok_s (Ag.rf (f := J))
    · refine Ok_i (fun g_2 => ?_) (fun _ => ?_)
      · exact Ok_s (Ag.rf (f := J))
      · refine Ok_g (fun g_3 => ?_)
        refine Ok_g (fun g_4 => ?_)
        exact Ok_m (ih _ _ _) (fun _ hr => (Ag.tr (Ag.st (Ag.rf (f := J)) (keyo (L := [(90, 91)]) (M := FwX2_tellWitness_l157) rfl rfl (show inW [(90, 91)] 90 = true from rfl))) (Ag.mo rfl hr)))
theorem aX2_tellWitness_l63 {σ : Shp} {R : Nat → Nat → Option Nat} : ∀ (n : Nat) (J : Nat → Nat → Int64) (x1 : Int32) (x2 : Int64) (x4 : Int64) (x6 : Int32), Ok (gX2_tellWitness_l63 σ R n J x1 x2 x4 x6) (fun r => Ag FwX2_tellWitness_l63 J r) := by
  intro n
  induction n with
  | zero => intro J x1 x2 x4 x6; exact Ok_e rfl
  | succ n ih =>
    intro J x1 x2 x4 x6
    rw [gX2_tellWitness_l63]
    refine Ok_i (fun g_1 => ?_) (fun _ => ?_)
    · refine Ok_i (fun g_2 => ?_) (fun _ => ?_)
      · exact Ok_s (Ag.rf (f := J))
      · refine Ok_t ?_
        intro r1
        exact Ok_m (aX2_tellWitness_l157  _ _ _ _) (fun _ hr => (Ag.tr (Ag.rf (f := J)) (Ag.mo rfl hr)))
    · refine Ok_g (fun g_3 => ?_)
      refine Ok_g (fun g_4 => ?_)
      refine Ok_i (fun g_5 => ?_) (fun _ => ?_)
      · refine Ok_g (fun g_6 => ?_)
        refine Ok_bc (fun r21 e_8 => ?_)
        exact Ok_m (ih _ _ _ _ _) (fun _ hr => (Ag.tr (Ag.st (Ag.rf (f := J)) (keyo (L := [(90, 91)]) (M := FwX2_tellWitness_l63) rfl rfl (show inW [(90, 91)] 90 = true from rfl))) (Ag.mo rfl hr)))
      · refine Ok_g (fun g_9 => ?_)
        refine Ok_g (fun g_10 => ?_)
        refine Ok_g (fun g_11 => ?_)
        refine Ok_g (fun g_12 => ?_)
        refine Ok_bc (fun r16 e_14 => ?_)
        exact Ok_m (ih _ _ _ _ _) (fun _ hr => (Ag.tr (Ag.st (Ag.rf (f := J)) (keyo (L := [(90, 91)]) (M := FwX2_tellWitness_l63) rfl rfl (show inW [(90, 91)] 90 = true from rfl))) (Ag.mo rfl hr)))
theorem aX2_tellWitness_l5 {σ : Shp} {R : Nat → Nat → Option Nat} : ∀ (n : Nat) (J : Nat → Nat → Int64) (x1 : Int32) (x2 : Int64) (x4 : Int32), Ok (gX2_tellWitness_l5 σ R n J x1 x2 x4) (fun r => Ag FwX2_tellWitness_l5 J r) := by
  intro n
  induction n with
  | zero => intro J x1 x2 x4; exact Ok_e rfl
  | succ n ih =>
    intro J x1 x2 x4
    rw [gX2_tellWitness_l5]
    refine Ok_i (fun g_1 => ?_) (fun _ => ?_)
    · exact Ok_m (aX2_tellWitness_l63  _ _ _ _ _ _) (fun _ hr => (Ag.tr (Ag.rf (f := J)) (Ag.mo rfl hr)))
    · refine Ok_g (fun g_2 => ?_)
      refine Ok_g (fun g_3 => ?_)
      refine Ok_bc (fun r27 e_4 => ?_)
      refine Ok_i (fun g_5 => ?_) (fun _ => ?_)
      · exact Ok_m (ih _ _ _ _) (fun _ hr => (Ag.tr (Ag.rf (f := J)) (Ag.mo rfl hr)))
      · refine Ok_g (fun g_6 => ?_)
        exact Ok_m (ih _ _ _ _) (fun _ hr => (Ag.tr (Ag.rf (f := J)) (Ag.mo rfl hr)))
theorem aX2_tellWitness {σ : Shp} {J : Nat → Nat → Int64} {R : Nat → Nat → Option Nat} {x1 : Int32} : Ok (gX2_tellWitness σ J R x1) (fun r => Ag FwX2_tellWitness J r) := by
  unfold gX2_tellWitness
  exact Ok_m (aX2_tellWitness_l5  _ _ _ _ _) (fun _ hr => (Ag.tr (Ag.rf (f := J)) (Ag.mo rfl hr)))
theorem aX2_changePlaces_l2 {σ : Shp} {R : Nat → Nat → Option Nat} : ∀ (n : Nat) (J : Nat → Nat → Int64) (x1 : Int32) (x2 : Int32) (x3 : Int32), Ok (gX2_changePlaces_l2 σ R n J x1 x2 x3) (fun r => Ag FwX2_changePlaces_l2 J r) := by
  intro n
  induction n with
  | zero => intro J x1 x2 x3; exact Ok_e rfl
  | succ n ih =>
    intro J x1 x2 x3
    rw [gX2_changePlaces_l2]
    refine Ok_i (fun g_1 => ?_) (fun _ => ?_)
    · exact Ok_s (Ag.rf (f := J))
    · refine Ok_g (fun g_2 => ?_)
      refine Ok_g (fun g_3 => ?_)
      refine Ok_g (fun g_4 => ?_)
      refine Ok_g (fun g_5 => ?_)
      refine Ok_g (fun g_8 => ?_)
      refine Ok_g (fun g_9 => ?_)
      refine Ok_g (fun g_10 => ?_)
      refine Ok_g (fun g_11 => ?_)
      exact Ok_m (ih _ _ _ _) (fun _ hr => (Ag.tr (Ag.st (Ag.st (Ag.st (Ag.st (Ag.rf (f := J)) (keyo (L := [(80, 83)]) (M := FwX2_changePlaces_l2) rfl rfl (inW_r (L := [(80, 83)]) (lo := 80) (n := 3) rfl (rowi g_2)))) (keyo (L := [(80, 83)]) (M := FwX2_changePlaces_l2) rfl rfl (inW_r (L := [(80, 83)]) (lo := 80) (n := 3) rfl (rowi g_4)))) (keyo (L := [(84, 87)]) (M := FwX2_changePlaces_l2) rfl rfl (inW_r (L := [(84, 87)]) (lo := 84) (n := 3) rfl (rowi g_2)))) (keyo (L := [(84, 87)]) (M := FwX2_changePlaces_l2) rfl rfl (inW_r (L := [(84, 87)]) (lo := 84) (n := 3) rfl (rowi g_4)))) (Ag.mo rfl hr)))
theorem aX2_changePlaces {σ : Shp} {J : Nat → Nat → Int64} {R : Nat → Nat → Option Nat} {x1 : Int32} {x2 : Int32} : Ok (gX2_changePlaces σ J R x1 x2) (fun r => Ag FwX2_changePlaces J r) := by
  unfold gX2_changePlaces
  exact Ok_m (aX2_changePlaces_l2  _ _ _ _ _) (fun _ hr => (Ag.tr (Ag.rf (f := J)) (Ag.mo rfl hr)))
theorem aX2_becomesFraction_b31 {σ : Shp} {R : Nat → Nat → Option Nat} {J : Nat → Nat → Int64} {x1 : Int32} {x2 : Int32} {x3 : Int64} {x5 : Int64} {s0 : Int64} : Ok (gX2_becomesFraction_b31 σ R J x1 x2 x3 x5 s0) (fun r => Ag FwX2_becomesFraction_b31 J r) := by
  unfold gX2_becomesFraction_b31
  refine Ok_g (fun g_1 => ?_)
  refine Ok_g (fun g_2 => ?_)
  refine Ok_g (fun g_3 => ?_)
  refine Ok_g (fun g_5 => ?_)
  refine Ok_g (fun g_6 => ?_)
  exact Ok_s (Ag.st (Ag.st (Ag.rf (f := J)) (keyo (L := [(80, 83)]) (M := FwX2_becomesFraction_b31) rfl rfl (inW_r (L := [(80, 83)]) (lo := 80) (n := 3) rfl (rowi g_1)))) (keyo (L := [(84, 87)]) (M := FwX2_becomesFraction_b31) rfl rfl (inW_r (L := [(84, 87)]) (lo := 84) (n := 3) rfl (rowi g_1))))
theorem aX2_becomesFraction {σ : Shp} {J : Nat → Nat → Int64} {R : Nat → Nat → Option Nat} {x1 : Int32} {x2 : Int32} {x3 : Int64} {x5 : Int64} : Ok (gX2_becomesFraction σ J R x1 x2 x3 x5) (fun r => Ag FwX2_becomesFraction J r) := by
  unfold gX2_becomesFraction
  refine Ok_bc (fun r1 e_1 => ?_)
  refine Ok_i (fun g_2 => ?_) (fun _ => ?_)
  · exact Ok_s (Ag.rf (f := J))
  · refine Ok_i (fun g_3 => ?_) (fun _ => ?_)
    · exact Ok_m (aX2_becomesFraction_b31) (fun _ hr => (Ag.tr (Ag.rf (f := J)) (Ag.mo rfl hr)))
    · exact Ok_m (aX2_becomesFraction_b31) (fun _ hr => (Ag.tr (Ag.rf (f := J)) (Ag.mo rfl hr)))
theorem aX2_divideRow_l3 {σ : Shp} {R : Nat → Nat → Option Nat} : ∀ (n : Nat) (J : Nat → Nat → Int64) (x1 : Int32) (x2 : Int64) (x4 : Int64) (x6 : Int32), Ok (gX2_divideRow_l3 σ R n J x1 x2 x4 x6) (fun r => Ag FwX2_divideRow_l3 J r) := by
  intro n
  induction n with
  | zero => intro J x1 x2 x4 x6; exact Ok_e rfl
  | succ n ih =>
    intro J x1 x2 x4 x6
    rw [gX2_divideRow_l3]
    refine Ok_i (fun g_1 => ?_) (fun _ => ?_)
    · exact Ok_s (Ag.rf (f := J))
    · refine Ok_g (fun g_2 => ?_)
      refine Ok_g (fun g_3 => ?_)
      refine Ok_g (fun g_4 => ?_)
      refine Ok_g (fun g_5 => ?_)
      refine Ok_b (aX2_becomesFraction) ?_
      intro J5 hr
      have h_6 := hr
      have m_7 : Ag FwX2_divideRow_l3 J J5 := Ag.tr (Ag.rf (f := J)) (Ag.mo rfl h_6)
      exact Ok_m (ih _ _ _ _ _) (fun _ hr => (Ag.tr m_7 (Ag.mo rfl hr)))
theorem aX2_divideRow {σ : Shp} {J : Nat → Nat → Int64} {R : Nat → Nat → Option Nat} {x1 : Int32} {x2 : Int64} {x4 : Int64} : Ok (gX2_divideRow σ J R x1 x2 x4) (fun r => Ag FwX2_divideRow J r) := by
  unfold gX2_divideRow
  exact Ok_m (aX2_divideRow_l3  _ _ _ _ _ _) (fun _ hr => (Ag.tr (Ag.rf (f := J)) (Ag.mo rfl hr)))
theorem aX2_takeRow_b67 {q3 : (Nat → Nat → Int64) → (Int32) → (Int32) → (Int64) → (Int64) → (Int32) → (Option ((Nat → Nat → Int64)))} {σ : Shp} {R : Nat → Nat → Option Nat} {J : Nat → Nat → Int64} {x1 : Int32} {x2 : Int32} {x3 : Int64} {x5 : Int64} {x7 : Int32} {x8 : Int64} {x10 : Int64} (hq3 : ∀ (J : Nat → Nat → Int64) (x1 : Int32) (x2 : Int32) (x3 : Int64) (x5 : Int64) (x7 : Int32), Ok (q3 J x1 x2 x3 x5 x7) (fun r => Ag FwX2_takeRow_l3 J r)) : Ok (gX2_takeRow_b67 q3 σ R J x1 x2 x3 x5 x7 x8 x10) (fun r => Ag FwX2_takeRow_b67 J r) := by
  unfold gX2_takeRow_b67
  refine Ok_g (fun g_1 => ?_)
  refine Ok_g (fun g_2 => ?_)
  refine Ok_g (fun g_3 => ?_)
  refine Ok_g (fun g_4 => ?_)
  refine Ok_b (aX2_becomesFraction) ?_
  intro J13 hr
  have h_5 := hr
  have m_6 : Ag FwX2_takeRow_b67 J J13 := Ag.tr (Ag.rf (f := J)) (Ag.mo rfl h_5)
  exact Ok_m (hq3 _ _ _ _ _ _) (fun _ hr => (Ag.tr m_6 (Ag.mo rfl hr)))
theorem aX2_takeRow_l3 {σ : Shp} {R : Nat → Nat → Option Nat} : ∀ (n : Nat) (J : Nat → Nat → Int64) (x1 : Int32) (x2 : Int32) (x3 : Int64) (x5 : Int64) (x7 : Int32), Ok (gX2_takeRow_l3 σ R n J x1 x2 x3 x5 x7) (fun r => Ag FwX2_takeRow_l3 J r) := by
  intro n
  induction n with
  | zero => intro J x1 x2 x3 x5 x7; exact Ok_e rfl
  | succ n ih =>
    intro J x1 x2 x3 x5 x7
    rw [gX2_takeRow_l3]
    refine Ok_i (fun g_1 => ?_) (fun _ => ?_)
    · exact Ok_s (Ag.rf (f := J))
    · refine Ok_g (fun g_2 => ?_)
      refine Ok_g (fun g_3 => ?_)
      refine Ok_g (fun g_4 => ?_)
      refine Ok_g (fun g_5 => ?_)
      refine Ok_bc (fun r7 e_6 => ?_)
      refine Ok_i (fun g_7 => ?_) (fun _ => ?_)
      · exact Ok_m (aX2_takeRow_b67 ih) (fun _ hr => (Ag.tr (Ag.rf (f := J)) (Ag.mo rfl hr)))
      · refine Ok_g (fun g_8 => ?_)
        exact Ok_m (aX2_takeRow_b67 ih) (fun _ hr => (Ag.tr (Ag.rf (f := J)) (Ag.mo rfl hr)))
theorem aX2_takeRow {σ : Shp} {J : Nat → Nat → Int64} {R : Nat → Nat → Option Nat} {x1 : Int32} {x2 : Int32} {x3 : Int64} {x5 : Int64} : Ok (gX2_takeRow σ J R x1 x2 x3 x5) (fun r => Ag FwX2_takeRow J r) := by
  unfold gX2_takeRow
  exact Ok_m (aX2_takeRow_l3  _ _ _ _ _ _ _) (fun _ hr => (Ag.tr (Ag.rf (f := J)) (Ag.mo rfl hr)))
theorem aX2_workColumn_l76 {σ : Shp} {R : Nat → Nat → Option Nat} : ∀ (n : Nat) (I : Nat → Nat → Int32) (J : Nat → Nat → Int64) (x1 : Int32) (x3 : Int32), Ok (gX2_workColumn_l76 σ R n I J x1 x3) (fun r => Ag FwX2_workColumn_l76 I r.1 ∧ Ag FwX2_workColumn_l76 J r.2) := by
  intro n
  induction n with
  | zero => intro I J x1 x3; exact Ok_e rfl
  | succ n ih =>
    intro I J x1 x3
    rw [gX2_workColumn_l76]
    refine Ok_i (fun g_1 => ?_) (fun _ => ?_)
    · refine Ok_g (fun g_2 => ?_)
      exact Ok_s ⟨(Ag.st (Ag.st (Ag.rf (f := I)) (keyo (L := [(87, 88)]) (M := FwX2_workColumn_l76) rfl rfl (show inW [(87, 88)] 87 = true from rfl))) (keyo (L := [(71, 72)]) (M := FwX2_workColumn_l76) rfl rfl (show inW [(71, 72)] 71 = true from rfl))), (Ag.rf (f := J))⟩
    · refine Ok_i (fun g_5 => ?_) (fun _ => ?_)
      · exact Ok_m (ih _ _ _ _) (fun _ ⟨h0, h1⟩ => ⟨(Ag.tr (Ag.rf (f := I)) (Ag.mo rfl h0)), (Ag.tr (Ag.rf (f := J)) (Ag.mo rfl h1))⟩)
      · refine Ok_g (fun g_6 => ?_)
        refine Ok_g (fun g_7 => ?_)
        refine Ok_g (fun g_8 => ?_)
        refine Ok_g (fun g_9 => ?_)
        refine Ok_b (aX2_takeRow) ?_
        intro J18 hr
        have h_10 := hr
        have m_11 : Ag FwX2_workColumn_l76 J J18 := Ag.tr (Ag.rf (f := J)) (Ag.mo rfl h_10)
        exact Ok_m (ih _ _ _ _) (fun _ ⟨h0, h1⟩ => ⟨(Ag.tr (Ag.rf (f := I)) (Ag.mo rfl h0)), (Ag.tr m_11 (Ag.mo rfl h1))⟩)
theorem aX2_workColumn_b29 {σ : Shp} {R : Nat → Nat → Option Nat} {I : Nat → Nat → Int32} {J : Nat → Nat → Int64} {x1 : Int32} {x2 : Int32} : Ok (gX2_workColumn_b29 σ R I J x1 x2) (fun r => Ag FwX2_workColumn_b29 I r.1 ∧ Ag FwX2_workColumn_b29 J r.2) := by
  unfold gX2_workColumn_b29
  refine Ok_i (fun g_1 => ?_) (fun _ => ?_)
  · refine Ok_b (aX2_changePlaces) ?_
    intro J2 hr
    have h_2 := hr
    have m_3 : Ag FwX2_workColumn_b29 J J2 := Ag.tr (Ag.rf (f := J)) (Ag.mo rfl h_2)
    refine Ok_g (fun g_4 => ?_)
    refine Ok_g (fun g_5 => ?_)
    refine Ok_g (fun g_6 => ?_)
    refine Ok_g (fun g_7 => ?_)
    refine Ok_b (aX2_divideRow) ?_
    intro J8 hr
    have h_8 := hr
    have m_9 : Ag FwX2_workColumn_b29 J J8 := Ag.tr m_3 (Ag.mo rfl h_8)
    exact Ok_m (aX2_workColumn_l76  _ _ _ _ _) (fun _ ⟨h0, h1⟩ => ⟨(Ag.tr (Ag.rf (f := I)) (Ag.mo rfl h0)), (Ag.tr m_9 (Ag.mo rfl h1))⟩)
  · exact Ok_s ⟨(Ag.rf (f := I)), (Ag.rf (f := J))⟩
theorem aX2_workColumn_l5 {σ : Shp} {R : Nat → Nat → Option Nat} : ∀ (n : Nat) (I : Nat → Nat → Int32) (J : Nat → Nat → Int64) (x1 : Int32) (x2 : Int32), Ok (gX2_workColumn_l5 σ R n I J x1 x2) (fun r => Ag FwX2_workColumn_l5 I r.1 ∧ Ag FwX2_workColumn_l5 J r.2) := by
  intro n
  induction n with
  | zero => intro I J x1 x2; exact Ok_e rfl
  | succ n ih =>
    intro I J x1 x2
    rw [gX2_workColumn_l5]
    refine Ok_i (fun g_1 => ?_) (fun _ => ?_)
    · exact Ok_m (aX2_workColumn_b29) (fun _ ⟨h0, h1⟩ => ⟨(Ag.tr (Ag.rf (f := I)) (Ag.mo rfl h0)), (Ag.tr (Ag.rf (f := J)) (Ag.mo rfl h1))⟩)
    · refine Ok_g (fun g_2 => ?_)
      refine Ok_g (fun g_3 => ?_)
      refine Ok_i (fun g_4 => ?_) (fun _ => ?_)
      · exact Ok_m (ih _ _ _ _) (fun _ ⟨h0, h1⟩ => ⟨(Ag.tr (Ag.rf (f := I)) (Ag.mo rfl h0)), (Ag.tr (Ag.rf (f := J)) (Ag.mo rfl h1))⟩)
      · exact Ok_m (aX2_workColumn_b29) (fun _ ⟨h0, h1⟩ => ⟨(Ag.tr (Ag.rf (f := I)) (Ag.mo rfl h0)), (Ag.tr (Ag.rf (f := J)) (Ag.mo rfl h1))⟩)
theorem aX2_workColumn {σ : Shp} {I : Nat → Nat → Int32} {J : Nat → Nat → Int64} {R : Nat → Nat → Option Nat} {x1 : Int32} : Ok (gX2_workColumn σ I J R x1) (fun r => Ag FwX2_workColumn I r.1 ∧ Ag FwX2_workColumn J r.2) := by
  unfold gX2_workColumn
  exact Ok_m (aX2_workColumn_l5  _ _ _ _ _) (fun _ ⟨h0, h1⟩ => ⟨(Ag.tr (Ag.rf (f := I)) (Ag.mo rfl h0)), (Ag.tr (Ag.rf (f := J)) (Ag.mo rfl h1))⟩)
theorem aX2_solved_l31 {σ : Shp} {R : Nat → Nat → Option Nat} : ∀ (n : Nat) (I : Nat → Nat → Int32) (J : Nat → Nat → Int64) (x1 : Int32), Ok (gX2_solved_l31 σ R n I J x1) (fun r => Ag FwX2_solved_l31 I r.1 ∧ Ag FwX2_solved_l31 J r.2.1) := by
  intro n
  induction n with
  | zero => intro I J x1; exact Ok_e rfl
  | succ n ih =>
    intro I J x1
    rw [gX2_solved_l31]
    refine Ok_i (fun g_1 => ?_) (fun _ => ?_)
    · refine Ok_b (aX2_tellFractions) ?_
      intro rr hr
      obtain ⟨J7, r8⟩ := rr
      have h_2 := hr
      have m_3 : Ag FwX2_solved_l31 J J7 := Ag.tr (Ag.rf (f := J)) (Ag.mo rfl h_2)
      refine Ok_i (fun g_4 => ?_) (fun _ => ?_)
      · exact Ok_s ⟨(Ag.rf (f := I)), m_3⟩
      · exact Ok_s ⟨(Ag.rf (f := I)), m_3⟩
    · refine Ok_g (fun g_5 => ?_)
      refine Ok_g (fun g_6 => ?_)
      refine Ok_i (fun g_7 => ?_) (fun _ => ?_)
      · exact Ok_m (ih _ _ _) (fun _ ⟨h0, h1⟩ => ⟨(Ag.tr (Ag.rf (f := I)) (Ag.mo rfl h0)), (Ag.tr (Ag.rf (f := J)) (Ag.mo rfl h1))⟩)
      · refine Ok_b (aX2_tellWitness) ?_
        intro J13 hr
        have h_8 := hr
        have m_9 : Ag FwX2_solved_l31 J J13 := Ag.tr (Ag.rf (f := J)) (Ag.mo rfl h_8)
        exact Ok_s ⟨(Ag.rf (f := I)), m_9⟩
theorem aX2_solved_l10 {σ : Shp} {R : Nat → Nat → Option Nat} : ∀ (n : Nat) (I : Nat → Nat → Int32) (J : Nat → Nat → Int64) (x1 : Int32), Ok (gX2_solved_l10 σ R n I J x1) (fun r => Ag FwX2_solved_l10 I r.1 ∧ Ag FwX2_solved_l10 J r.2.1) := by
  intro n
  induction n with
  | zero => intro I J x1; exact Ok_e rfl
  | succ n ih =>
    intro I J x1
    rw [gX2_solved_l10]
    refine Ok_i (fun g_1 => ?_) (fun _ => ?_)
    · exact Ok_m (aX2_solved_l31  _ _ _ _) (fun _ ⟨h0, h1⟩ => ⟨(Ag.tr (Ag.rf (f := I)) (Ag.mo rfl h0)), (Ag.tr (Ag.rf (f := J)) (Ag.mo rfl h1))⟩)
    · refine Ok_b (aX2_workColumn) ?_
      intro rr hr
      obtain ⟨I15, J16⟩ := rr
      obtain ⟨h_2, h_3⟩ := hr
      have m_4 : Ag FwX2_solved_l10 I I15 := Ag.tr (Ag.rf (f := I)) (Ag.mo rfl h_2)
      have m_5 : Ag FwX2_solved_l10 J J16 := Ag.tr (Ag.rf (f := J)) (Ag.mo rfl h_3)
      exact Ok_m (ih _ _ _) (fun _ ⟨h0, h1⟩ => ⟨(Ag.tr m_4 (Ag.mo rfl h0)), (Ag.tr m_5 (Ag.mo rfl h1))⟩)
theorem aX2_solved {σ : Shp} {I : Nat → Nat → Int32} {J : Nat → Nat → Int64} {R : Nat → Nat → Option Nat} : Ok (gX2_solved σ I J R) (fun r => Ag FwX2_solved I r.1 ∧ Ag FwX2_solved J r.2.1) := by
  unfold gX2_solved
  refine Ok_b (aX2_clearOutcome) ?_
  intro rr hr
  obtain ⟨I1, J2⟩ := rr
  obtain ⟨h_1, h_2⟩ := hr
  have m_3 : Ag FwX2_solved I I1 := Ag.tr (Ag.rf (f := I)) (Ag.mo rfl h_1)
  have m_4 : Ag FwX2_solved J J2 := Ag.tr (Ag.rf (f := J)) (Ag.mo rfl h_2)
  refine Ok_b (aX2_fillRows) ?_
  intro J4 hr
  have h_5 := hr
  have m_6 : Ag FwX2_solved J J4 := Ag.tr m_4 (Ag.mo rfl h_5)
  exact Ok_m (aX2_solved_l10  _ _ _ _) (fun _ ⟨h0, h1⟩ => ⟨(Ag.tr m_3 (Ag.mo rfl h0)), (Ag.tr m_6 (Ag.mo rfl h1))⟩)
theorem aX4_takeReading {J : Nat → Nat → Int64} {D : Nat → Nat → UInt64} {x1 : Int32} {x2 : Int64} : Ok (gX4_takeReading J D x1 x2) (fun r => Ag FwX4_takeReading J r.1 ∧ Ag FwX4_takeReading D r.2) := by
  unfold gX4_takeReading
  refine Ok_g (fun g_1 => ?_)
  refine Ok_i (fun g_3 => ?_) (fun _ => ?_)
  · refine Ok_g (fun g_4 => ?_)
    exact Ok_s ⟨(Ag.st (Ag.rf (f := J)) (keyo (L := [(52, 53)]) (M := FwX4_takeReading) rfl rfl (show inW [(52, 53)] 52 = true from rfl))), (Ag.st (Ag.rf (f := D)) (keyo (L := [(53, 54)]) (M := FwX4_takeReading) rfl rfl (show inW [(53, 54)] 53 = true from rfl)))⟩
  · refine Ok_bc (fun r5 e_6 => ?_)
    refine Ok_g (fun g_7 => ?_)
    exact Ok_s ⟨(Ag.st (Ag.rf (f := J)) (keyo (L := [(52, 53)]) (M := FwX4_takeReading) rfl rfl (show inW [(52, 53)] 52 = true from rfl))), (Ag.st (Ag.rf (f := D)) (keyo (L := [(53, 54)]) (M := FwX4_takeReading) rfl rfl (show inW [(53, 54)] 53 = true from rfl)))⟩
theorem aX4_newWeather {I : Nat → Nat → Int32} {x1 : Int32} {x2 : Int32} : Ok (gX4_newWeather I x1 x2) (fun r => Ag FwX4_newWeather I r.1) := by
  unfold gX4_newWeather
  refine Ok_i (fun g_1 => ?_) (fun _ => ?_)
  · exact Ok_s (Ag.rf (f := I))
  · refine Ok_i (fun g_2 => ?_) (fun _ => ?_)
    · exact Ok_s (Ag.rf (f := I))
    · refine Ok_g (fun g_3 => ?_)
      refine Ok_i (fun g_4 => ?_) (fun _ => ?_)
      · exact Ok_s (Ag.rf (f := I))
      · refine Ok_i (fun g_5 => ?_) (fun _ => ?_)
        · refine Ok_g (fun g_6 => ?_)
          exact Ok_s (Ag.st (Ag.rf (f := I)) (keyo (L := [(61, 62)]) (M := FwX4_newWeather) rfl rfl (show inW [(61, 62)] 61 = true from rfl)))
        · exact Ok_s (Ag.rf (f := I))
theorem aX9_layDown_b74 {fr : (Shp) → (Nat → Nat → Int32) → (Nat → Nat → Option Nat) → (Int32) → (Int32) → Option ((Nat → Nat → Int32))} {σ : Shp} {R : Nat → Nat → Option Nat} {I : Nat → Nat → Int32} {x1 : Int32} (hfr : ∀ (σ : Shp) (I : Nat → Nat → Int32) (R : Nat → Nat → Option Nat) (x1 : Int32) (x2 : Int32), Ok (fr σ I R x1 x2) (fun r => Ag FwX9_layDown I r)) : Ok (gX9_layDown_b74 fr σ R I x1) (fun r => Ag FwX9_layDown_b74 I r) := by
  unfold gX9_layDown_b74
  refine Ok_g (fun g_1 => ?_)
  refine Ok_i (fun g_3 => ?_) (fun _ => ?_)
  · exact Ok_s (Ag.st (Ag.rf (f := I)) (keyo (L := [(40, 41)]) (M := FwX9_layDown_b74) rfl rfl (show inW [(40, 41)] 40 = true from rfl)))
  · refine Ok_g (fun g_4 => ?_)
    exact Ok_s (Ag.st (Ag.st (Ag.st (Ag.rf (f := I)) (keyo (L := [(40, 41)]) (M := FwX9_layDown_b74) rfl rfl (show inW [(40, 41)] 40 = true from rfl))) (keyo (L := [(41, 42)]) (M := FwX9_layDown_b74) rfl rfl (show inW [(41, 42)] 41 = true from rfl))) (keyo (L := [(27, 28)]) (M := FwX9_layDown_b74) rfl rfl (show inW [(27, 28)] 27 = true from rfl)))
theorem aX9_layDown_b47 {fr : (Shp) → (Nat → Nat → Int32) → (Nat → Nat → Option Nat) → (Int32) → (Int32) → Option ((Nat → Nat → Int32))} {σ : Shp} {R : Nat → Nat → Option Nat} {I : Nat → Nat → Int32} {x1 : Int32} {x3 : Int32} (hfr : ∀ (σ : Shp) (I : Nat → Nat → Int32) (R : Nat → Nat → Option Nat) (x1 : Int32) (x2 : Int32), Ok (fr σ I R x1 x2) (fun r => Ag FwX9_layDown I r)) : Ok (gX9_layDown_b47 fr σ R I x1 x3) (fun r => Ag FwX9_layDown_b47 I r) := by
  unfold gX9_layDown_b47
  refine Ok_g (fun g_1 => ?_)
  refine Ok_i (fun g_2 => ?_) (fun _ => ?_)
  · refine Ok_g (fun g_3 => ?_)
    exact Ok_m (aX9_layDown_b74 hfr) (fun _ hr => (Ag.tr (Ag.st (Ag.rf (f := I)) (keyo (L := [(38, 39)]) (M := FwX9_layDown_b47) rfl rfl (show inW [(38, 39)] 38 = true from rfl))) (Ag.mo rfl hr)))
  · refine Ok_g (fun g_5 => ?_)
    refine Ok_g (fun g_6 => ?_)
    exact Ok_m (aX9_layDown_b74 hfr) (fun _ hr => (Ag.tr (Ag.st (Ag.rf (f := I)) (keyo (L := [(38, 39)]) (M := FwX9_layDown_b47) rfl rfl (show inW [(38, 39)] 38 = true from rfl))) (Ag.mo rfl hr)))
theorem aX9_layDown  : ∀ (n : Nat) (σ : Shp) (I : Nat → Nat → Int32) (R : Nat → Nat → Option Nat) (x1 : Int32) (x2 : Int32), Ok (gX9_layDown n σ I R x1 x2) (fun r => Ag FwX9_layDown I r) := by
  intro n
  induction n with
  | zero => intro σ I R x1 x2; exact Ok_e rfl
  | succ n ih =>
    intro σ I R x1 x2
    rw [gX9_layDown]
    refine Ok_g (fun g_1 => ?_)
    refine Ok_g (fun g_3 => ?_)
    refine Ok_i (fun g_4 => ?_) (fun _ => ?_)
    · exact Ok_m (aX9_layDown_b74 ih) (fun _ hr => (Ag.tr (Ag.st (Ag.rf (f := I)) (keyo (L := [(39, 40)]) (M := FwX9_layDown) rfl rfl (show inW [(39, 40)] 39 = true from rfl))) (Ag.mo rfl hr)))
    · refine Ok_i (fun g_5 => ?_) (fun _ => ?_)
      · exact Ok_m (aX9_layDown_b74 ih) (fun _ hr => (Ag.tr (Ag.st (Ag.rf (f := I)) (keyo (L := [(39, 40)]) (M := FwX9_layDown) rfl rfl (show inW [(39, 40)] 39 = true from rfl))) (Ag.mo rfl hr)))
      · refine Ok_g (fun g_6 => ?_)
        refine Ok_i (fun g_7 => ?_) (fun _ => ?_)
        · refine Ok_i (fun g_8 => ?_) (fun _ => ?_)
          · exact Ok_m (aX9_layDown_b47 ih) (fun _ hr => (Ag.tr (Ag.st (Ag.rf (f := I)) (keyo (L := [(39, 40)]) (M := FwX9_layDown) rfl rfl (show inW [(39, 40)] 39 = true from rfl))) (Ag.mo rfl hr)))
          · refine Ok_b (ih _ _ _ _ _) ?_
            intro I17 hr
            have h_9 := hr
            have m_10 : Ag FwX9_layDown I I17 := Ag.tr (Ag.st (Ag.rf (f := I)) (keyo (L := [(39, 40)]) (M := FwX9_layDown) rfl rfl (show inW [(39, 40)] 39 = true from rfl))) (Ag.mo rfl h_9)
            exact Ok_m (aX9_layDown_b47 ih) (fun _ hr => (Ag.tr m_10 (Ag.mo rfl hr)))
        · exact Ok_m (aX9_layDown_b47 ih) (fun _ hr => (Ag.tr (Ag.st (Ag.rf (f := I)) (keyo (L := [(39, 40)]) (M := FwX9_layDown) rfl rfl (show inW [(39, 40)] 39 = true from rfl))) (Ag.mo rfl hr)))
theorem aX9_valueAt {σ : Shp} {I : Nat → Nat → Int32} {R : Nat → Nat → Option Nat} {x1 : Int32} {x2 : Int32} : Ok (gX9_valueAt σ I R x1 x2) (fun r => Ag FwX9_valueAt I r.1) := by
  unfold gX9_valueAt
  refine Ok_g (fun g_1 => ?_)
  refine Ok_i (fun g_2 => ?_) (fun _ => ?_)
  · refine Ok_b (aX9_layDown  _ _ _ _ _ _) ?_
    intro I5 hr
    have h_3 := hr
    have m_4 : Ag FwX9_valueAt I I5 := Ag.tr (Ag.rf (f := I)) (Ag.mo rfl h_3)
    refine Ok_g (fun g_5 => ?_)
    refine Ok_t ?_
    intro r8
    exact Ok_s m_4
  · refine Ok_g (fun g_6 => ?_)
    refine Ok_t ?_
    intro r3
    exact Ok_s (Ag.rf (f := I))
theorem aX4_mostVapour {σ : Shp} {I : Nat → Nat → Int32} {R : Nat → Nat → Option Nat} {x1 : Int64} : Ok (gX4_mostVapour σ I R x1) (fun r => Ag FwX4_mostVapour I r.1) := by
  unfold gX4_mostVapour
  refine Ok_t ?_
  intro r1
  refine Ok_i (fun g_1 => ?_) (fun _ => ?_)
  · exact Ok_s (Ag.rf (f := I))
  · refine Ok_b (aX9_valueAt) ?_
    intro rr hr
    obtain ⟨I3, r4⟩ := rr
    have h_2 := hr
    have m_3 : Ag FwX4_mostVapour I I3 := Ag.tr (Ag.rf (f := I)) (Ag.mo rfl h_2)
    exact Ok_s m_3
theorem aX4_changeAir_b162 {σ : Shp} {R : Nat → Nat → Option Nat} {I : Nat → Nat → Int32} {J : Nat → Nat → Int64} {x2 : Option Nat} {x11 : Int64} (hs_x2 : Cin [(58, 61)] x2) : Ok (gX4_changeAir_b162 σ R I J x2 x11) (fun r => Ag FwX4_changeAir_b162 I r.1 ∧ Ag FwX4_changeAir_b162 J r.2) := by
  unfold gX4_changeAir_b162
  refine Ok_bc (fun a23 e_1 => ?_)
  refine Ok_g (fun g_2 => ?_)
  refine Ok_g (fun g_3 => ?_)
  refine Ok_b (aX4_mostVapour) ?_
  intro rr hr
  obtain ⟨I26, r27⟩ := rr
  have h_4 := hr
  have m_5 : Ag FwX4_changeAir_b162 I I26 := Ag.tr (Ag.rf (f := I)) (Ag.mo rfl h_4)
  refine Ok_g (fun g_6 => ?_)
  refine Ok_g (fun g_8 => ?_)
  exact Ok_s ⟨m_5, (Ag.st (Ag.st (Ag.rf (f := J)) (keyo (L := [(58, 61)]) (M := FwX4_changeAir_b162) rfl rfl (inW_mo (L := [(58, 61)]) (M := [(58, 61)]) rfl (Cin.get hs_x2 e_1)))) (keyo (L := [(58, 61)]) (M := FwX4_changeAir_b162) rfl rfl (inW_mo (L := [(58, 61)]) (M := [(58, 61)]) rfl (Cin.get hs_x2 e_1))))⟩
theorem aX4_changeAir {σ : Shp} {I : Nat → Nat → Int32} {J : Nat → Nat → Int64} {R : Nat → Nat → Option Nat} {x1 : Int32} : Ok (gX4_changeAir σ I J R x1) (fun r => Ag FwX4_changeAir I r.1 ∧ Ag FwX4_changeAir J r.2) := by
  unfold gX4_changeAir
  refine Ok_g (fun g_1 => ?_)
  refine Ok_g (fun g_2 => ?_)
  refine Ok_g (fun g_3 => ?_)
  refine Ok_g (fun g_4 => ?_)
  refine Ok_g (fun g_5 => ?_)
  refine Ok_g (fun g_6 => ?_)
  refine Ok_g (fun g_8 => ?_)
  refine Ok_g (fun g_10 => ?_)
  refine Ok_g (fun g_12 => ?_)
  refine Ok_g (fun g_13 => ?_)
  refine Ok_g (fun g_14 => ?_)
  refine Ok_g (fun g_16 => ?_)
  refine Ok_i (fun g_18 => ?_) (fun _ => ?_)
  · exact Ok_m (aX4_changeAir_b162 ⟨_, rfl, (inW_r (L := [(58, 61)]) (lo := 58) (n := 3) rfl (rowi g_1))⟩) (fun _ ⟨h0, h1⟩ => ⟨(Ag.tr (Ag.rf (f := I)) (Ag.mo rfl h0)), (Ag.tr (Ag.st (Ag.st (Ag.st (Ag.st (Ag.st (Ag.rf (f := J)) (keyo (L := [(58, 61)]) (M := FwX4_changeAir) rfl rfl (inW_r (L := [(58, 61)]) (lo := 58) (n := 3) rfl (rowi g_1)))) (keyo (L := [(58, 61)]) (M := FwX4_changeAir) rfl rfl (inW_r (L := [(58, 61)]) (lo := 58) (n := 3) rfl (rowi g_1)))) (keyo (L := [(58, 61)]) (M := FwX4_changeAir) rfl rfl (inW_r (L := [(58, 61)]) (lo := 58) (n := 3) rfl (rowi g_1)))) (keyo (L := [(58, 61)]) (M := FwX4_changeAir) rfl rfl (inW_r (L := [(58, 61)]) (lo := 58) (n := 3) rfl (rowi g_1)))) (keyo (L := [(58, 61)]) (M := FwX4_changeAir) rfl rfl (inW_r (L := [(58, 61)]) (lo := 58) (n := 3) rfl (rowi g_1)))) (Ag.mo rfl h1))⟩)
  · refine Ok_g (fun g_19 => ?_)
    exact Ok_m (aX4_changeAir_b162 ⟨_, rfl, (inW_r (L := [(58, 61)]) (lo := 58) (n := 3) rfl (rowi g_1))⟩) (fun _ ⟨h0, h1⟩ => ⟨(Ag.tr (Ag.rf (f := I)) (Ag.mo rfl h0)), (Ag.tr (Ag.st (Ag.st (Ag.st (Ag.st (Ag.st (Ag.st (Ag.rf (f := J)) (keyo (L := [(58, 61)]) (M := FwX4_changeAir) rfl rfl (inW_r (L := [(58, 61)]) (lo := 58) (n := 3) rfl (rowi g_1)))) (keyo (L := [(58, 61)]) (M := FwX4_changeAir) rfl rfl (inW_r (L := [(58, 61)]) (lo := 58) (n := 3) rfl (rowi g_1)))) (keyo (L := [(58, 61)]) (M := FwX4_changeAir) rfl rfl (inW_r (L := [(58, 61)]) (lo := 58) (n := 3) rfl (rowi g_1)))) (keyo (L := [(58, 61)]) (M := FwX4_changeAir) rfl rfl (inW_r (L := [(58, 61)]) (lo := 58) (n := 3) rfl (rowi g_1)))) (keyo (L := [(58, 61)]) (M := FwX4_changeAir) rfl rfl (inW_r (L := [(58, 61)]) (lo := 58) (n := 3) rfl (rowi g_1)))) (keyo (L := [(58, 61)]) (M := FwX4_changeAir) rfl rfl (inW_r (L := [(58, 61)]) (lo := 58) (n := 3) rfl (rowi g_1)))) (Ag.mo rfl h1))⟩)
theorem aX4_moveBy_b24 {σ : Shp} {R : Nat → Nat → Option Nat} {J : Nat → Nat → Int64} {x1 : Int32} {x2 : Int64} {x4 : Int32} {s0 : Int32} : Ok (gX4_moveBy_b24 σ R J x1 x2 x4 s0) (fun r => Ag FwX4_moveBy_b24 J r) := by
  unfold gX4_moveBy_b24
  refine Ok_g (fun g_1 => ?_)
  refine Ok_g (fun g_2 => ?_)
  refine Ok_g (fun g_4 => ?_)
  exact Ok_s (Ag.st (Ag.st (Ag.rf (f := J)) (keyo (L := [(58, 61)]) (M := FwX4_moveBy_b24) rfl rfl (inW_r (L := [(58, 61)]) (lo := 58) (n := 3) rfl (rowi g_1)))) (keyo (L := [(58, 61)]) (M := FwX4_moveBy_b24) rfl rfl (inW_r (L := [(58, 61)]) (lo := 58) (n := 3) rfl (rowi g_1))))
theorem aX4_moveBy {σ : Shp} {J : Nat → Nat → Int64} {R : Nat → Nat → Option Nat} {x1 : Int32} {x2 : Int64} : Ok (gX4_moveBy σ J R x1 x2) (fun r => Ag FwX4_moveBy J r) := by
  unfold gX4_moveBy
  refine Ok_i (fun g_1 => ?_) (fun _ => ?_)
  · refine Ok_i (fun g_2 => ?_) (fun _ => ?_)
    · exact Ok_m (aX4_moveBy_b24) (fun _ hr => (Ag.tr (Ag.rf (f := J)) (Ag.mo rfl hr)))
    · exact Ok_m (aX4_moveBy_b24) (fun _ hr => (Ag.tr (Ag.rf (f := J)) (Ag.mo rfl hr)))
  · refine Ok_i (fun g_3 => ?_) (fun _ => ?_)
    · exact Ok_m (aX4_moveBy_b24) (fun _ hr => (Ag.tr (Ag.rf (f := J)) (Ag.mo rfl hr)))
    · exact Ok_m (aX4_moveBy_b24) (fun _ hr => (Ag.tr (Ag.rf (f := J)) (Ag.mo rfl hr)))
theorem aX4_wantedMove {σ : Shp} {I : Nat → Nat → Int32} {J : Nat → Nat → Int64} {D : Nat → Nat → UInt64} {R : Nat → Nat → Option Nat} {x1 : Int32} : Ok (gX4_wantedMove σ I J D R x1) (fun r => Ag FwX4_wantedMove J r.1) := by
  unfold gX4_wantedMove
  refine Ok_g (fun g_1 => ?_)
  refine Ok_t ?_
  intro r2
  refine Ok_g (fun g_2 => ?_)
  refine Ok_t ?_
  intro r6
  refine Ok_g (fun g_3 => ?_)
  exact Ok_s (Ag.st (Ag.rf (f := J)) (keyo (L := [(58, 61)]) (M := FwX4_wantedMove) rfl rfl (inW_r (L := [(58, 61)]) (lo := 58) (n := 3) rfl (rowi g_1))))
theorem aX4_steer_b85 {σ : Shp} {I : Nat → Nat → Int32} {D : Nat → Nat → UInt64} {R : Nat → Nat → Option Nat} {J : Nat → Nat → Int64} {x2 : Option Nat} {x3 : Int64} (hs_x2 : Cin [(58, 61)] x2) : Ok (gX4_steer_b85 σ I D R J x2 x3) (fun r => Ag FwX4_steer_b85 J r) := by
  unfold gX4_steer_b85
  refine Ok_g (fun g_1 => ?_)
  refine Ok_i (fun g_2 => ?_) (fun _ => ?_)
  · refine Ok_bc (fun a13 e_3 => ?_)
    refine Ok_g (fun g_4 => ?_)
    refine Ok_g (fun g_5 => ?_)
    refine Ok_i (fun g_6 => ?_) (fun _ => ?_)
    · exact Ok_s (Ag.rf (f := J))
    · exact Ok_s (Ag.st (Ag.rf (f := J)) (keyo (L := [(58, 61)]) (M := FwX4_steer_b85) rfl rfl (inW_mo (L := [(58, 61)]) (M := [(58, 61)]) rfl (Cin.get hs_x2 e_3))))
  · exact Ok_s (Ag.rf (f := J))
theorem aX4_steer_b50 {σ : Shp} {I : Nat → Nat → Int32} {D : Nat → Nat → UInt64} {R : Nat → Nat → Option Nat} {J : Nat → Nat → Int64} {x2 : Option Nat} {x3 : Int64} (hs_x2 : Cin [(58, 61)] x2) : Ok (gX4_steer_b50 σ I D R J x2 x3) (fun r => Ag FwX4_steer_b50 J r) := by
  unfold gX4_steer_b50
  refine Ok_bc (fun a6 e_1 => ?_)
  refine Ok_g (fun g_2 => ?_)
  refine Ok_g (fun g_3 => ?_)
  refine Ok_g (fun g_5 => ?_)
  exact Ok_m (aX4_steer_b85 (Cin.mo (L := [(58, 61)]) (M := [(58, 61)]) rfl hs_x2)) (fun _ hr => (Ag.tr (Ag.st (Ag.st (Ag.rf (f := J)) (keyo (L := [(58, 61)]) (M := FwX4_steer_b50) rfl rfl (inW_mo (L := [(58, 61)]) (M := [(58, 61)]) rfl (Cin.get hs_x2 e_1)))) (keyo (L := [(58, 61)]) (M := FwX4_steer_b50) rfl rfl (inW_mo (L := [(58, 61)]) (M := [(58, 61)]) rfl (Cin.get hs_x2 e_1)))) (Ag.mo rfl hr)))
theorem aX4_steer {σ : Shp} {I : Nat → Nat → Int32} {J : Nat → Nat → Int64} {D : Nat → Nat → UInt64} {R : Nat → Nat → Option Nat} {x1 : Int32} : Ok (gX4_steer σ I J D R x1) (fun r => Ag FwX4_steer J r) := by
  unfold gX4_steer
  refine Ok_g (fun g_1 => ?_)
  refine Ok_g (fun g_2 => ?_)
  refine Ok_g (fun g_3 => ?_)
  refine Ok_i (fun g_4 => ?_) (fun _ => ?_)
  · exact Ok_s (Ag.st (Ag.rf (f := J)) (keyo (L := [(58, 61)]) (M := FwX4_steer) rfl rfl (inW_r (L := [(58, 61)]) (lo := 58) (n := 3) rfl (rowi g_1))))
  · refine Ok_g (fun g_6 => ?_)
    refine Ok_i (fun g_7 => ?_) (fun _ => ?_)
    · exact Ok_m (aX4_steer_b50 ⟨_, rfl, (inW_r (L := [(58, 61)]) (lo := 58) (n := 3) rfl (rowi g_1))⟩) (fun _ hr => (Ag.tr (Ag.rf (f := J)) (Ag.mo rfl hr)))
    · refine Ok_t ?_
      intro r17
      refine Ok_i (fun g_8 => ?_) (fun _ => ?_)
      · exact Ok_m (aX4_steer_b50 ⟨_, rfl, (inW_r (L := [(58, 61)]) (lo := 58) (n := 3) rfl (rowi g_1))⟩) (fun _ hr => (Ag.tr (Ag.rf (f := J)) (Ag.mo rfl hr)))
      · refine Ok_b (aX4_wantedMove) ?_
        intro rr hr
        obtain ⟨J19, r20⟩ := rr
        have h_9 := hr
        have m_10 : Ag FwX4_steer J J19 := Ag.tr (Ag.rf (f := J)) (Ag.mo rfl h_9)
        refine Ok_b (aX4_moveBy) ?_
        intro J22 hr
        have h_11 := hr
        have m_12 : Ag FwX4_steer J J22 := Ag.tr m_10 (Ag.mo rfl h_11)
        exact Ok_m (aX4_steer_b85 ⟨_, rfl, (inW_r (L := [(58, 61)]) (lo := 58) (n := 3) rfl (rowi g_1))⟩) (fun _ hr => (Ag.tr m_12 (Ag.mo rfl hr)))
theorem aX4_countOff_b105 {σ : Shp} {J : Nat → Nat → Int64} {D : Nat → Nat → UInt64} {R : Nat → Nat → Option Nat} {I : Nat → Nat → Int32} {x1 : Int32} {x9 : Int32} {s0 : Option Nat} {s1 : Int32} {s2 : Int32} (hs_s0 : Cin [(43, 52)] s0) : Ok (gX4_countOff_b105 σ J D R I x1 x9 s0 s1 s2) (fun r => Ag FwX4_countOff_b105 I r) := by
  unfold gX4_countOff_b105
  refine Ok_bc (fun a5 e_1 => ?_)
  refine Ok_g (fun g_2 => ?_)
  refine Ok_g (fun g_3 => ?_)
  refine Ok_g (fun g_5 => ?_)
  refine Ok_i (fun g_6 => ?_) (fun _ => ?_)
  · refine Ok_g (fun g_7 => ?_)
    exact Ok_s (Ag.st (Ag.st (Ag.rf (f := I)) (keyo (L := [(43, 52)]) (M := FwX4_countOff_b105) rfl rfl (inW_mo (L := [(43, 52)]) (M := [(43, 52)]) rfl (Cin.get hs_s0 e_1)))) (keyo (L := [(43, 52)]) (M := FwX4_countOff_b105) rfl rfl (inW_r (L := [(43, 52)]) (lo := 43) (n := 9) rfl (rowi g_5))))
  · refine Ok_g (fun g_9 => ?_)
    exact Ok_s (Ag.st (Ag.st (Ag.rf (f := I)) (keyo (L := [(43, 52)]) (M := FwX4_countOff_b105) rfl rfl (inW_mo (L := [(43, 52)]) (M := [(43, 52)]) rfl (Cin.get hs_s0 e_1)))) (keyo (L := [(43, 52)]) (M := FwX4_countOff_b105) rfl rfl (inW_r (L := [(43, 52)]) (lo := 43) (n := 9) rfl (rowi g_5))))
theorem aX4_countOff_b77 {σ : Shp} {J : Nat → Nat → Int64} {D : Nat → Nat → UInt64} {R : Nat → Nat → Option Nat} {I : Nat → Nat → Int32} {x1 : Int32} {s0 : Int32} : Ok (gX4_countOff_b77 σ J D R I x1 s0) (fun r => Ag FwX4_countOff_b77 I r) := by
  unfold gX4_countOff_b77
  refine Ok_g (fun g_1 => ?_)
  refine Ok_i (fun g_2 => ?_) (fun _ => ?_)
  · exact Ok_m (aX4_countOff_b105 ⟨_, rfl, (inW_r (L := [(43, 52)]) (lo := 43) (n := 9) rfl (rowi g_1))⟩) (fun _ hr => (Ag.tr (Ag.rf (f := I)) (Ag.mo rfl hr)))
  · refine Ok_g (fun g_3 => ?_)
    exact Ok_m (aX4_countOff_b105 ⟨_, rfl, (inW_r (L := [(43, 52)]) (lo := 43) (n := 9) rfl (rowi g_1))⟩) (fun _ hr => (Ag.tr (Ag.rf (f := I)) (Ag.mo rfl hr)))
theorem aX4_countOff_b47 {σ : Shp} {J : Nat → Nat → Int64} {D : Nat → Nat → UInt64} {R : Nat → Nat → Option Nat} {I : Nat → Nat → Int32} {x1 : Int32} {s0 : UInt64} : Ok (gX4_countOff_b47 σ J D R I x1 s0) (fun r => Ag FwX4_countOff_b47 I r) := by
  unfold gX4_countOff_b47
  refine Ok_i (fun g_1 => ?_) (fun _ => ?_)
  · refine Ok_i (fun g_2 => ?_) (fun _ => ?_)
    · exact Ok_m (aX4_countOff_b77) (fun _ hr => (Ag.tr (Ag.rf (f := I)) (Ag.mo rfl hr)))
    · exact Ok_m (aX4_countOff_b77) (fun _ hr => (Ag.tr (Ag.rf (f := I)) (Ag.mo rfl hr)))
  · refine Ok_i (fun g_3 => ?_) (fun _ => ?_)
    · exact Ok_m (aX4_countOff_b77) (fun _ hr => (Ag.tr (Ag.rf (f := I)) (Ag.mo rfl hr)))
    · exact Ok_m (aX4_countOff_b77) (fun _ hr => (Ag.tr (Ag.rf (f := I)) (Ag.mo rfl hr)))
theorem aX4_countOff {σ : Shp} {I : Nat → Nat → Int32} {J : Nat → Nat → Int64} {D : Nat → Nat → UInt64} {R : Nat → Nat → Option Nat} {x1 : Int32} {x2 : Int32} {x3 : Int64} {x5 : UInt64} : Ok (gX4_countOff σ I J D R x1 x2 x3 x5) (fun r => Ag FwX4_countOff I r) := by
  unfold gX4_countOff
  refine Ok_i (fun g_1 => ?_) (fun _ => ?_)
  · refine Ok_g (fun g_2 => ?_)
    refine Ok_g (fun g_3 => ?_)
    refine Ok_g (fun g_5 => ?_)
    exact Ok_s (Ag.st (Ag.st (Ag.rf (f := I)) (keyo (L := [(43, 52)]) (M := FwX4_countOff) rfl rfl (inW_r (L := [(43, 52)]) (lo := 43) (n := 9) rfl (rowi g_2)))) (keyo (L := [(43, 52)]) (M := FwX4_countOff) rfl rfl (inW_r (L := [(43, 52)]) (lo := 43) (n := 9) rfl (rowi g_2))))
  · refine Ok_g (fun g_7 => ?_)
    refine Ok_i (fun g_8 => ?_) (fun _ => ?_)
    · exact Ok_m (aX4_countOff_b47) (fun _ hr => (Ag.tr (Ag.rf (f := I)) (Ag.mo rfl hr)))
    · refine Ok_g (fun g_9 => ?_)
      refine Ok_g (fun g_10 => ?_)
      exact Ok_m (aX4_countOff_b47) (fun _ hr => (Ag.tr (Ag.rf (f := I)) (Ag.mo rfl hr)))
theorem aX4_countSame_b75 {q4 : (Nat → Nat → Int32) → (Nat → Nat → Int64) → (Int32) → (Int32) → (Option ((Nat → Nat → Int32) × (Nat → Nat → Int64) × (Int32)))} {σ : Shp} {R : Nat → Nat → Option Nat} {I : Nat → Nat → Int32} {J : Nat → Nat → Int64} {x3 : Int32} {x5 : Int32} {s0 : Int32} (hq4 : ∀ (I : Nat → Nat → Int32) (J : Nat → Nat → Int64) (x2 : Int32) (x3 : Int32), Ok (q4 I J x2 x3) (fun r => Ag FwX4_countSame_l4 I r.1 ∧ Ag FwX4_countSame_l4 J r.2.1)) : Ok (gX4_countSame_b75 q4 σ R I J x3 x5 s0) (fun r => Ag FwX4_countSame_b75 I r.1 ∧ Ag FwX4_countSame_b75 J r.2.1) := by
  unfold gX4_countSame_b75
  refine Ok_g (fun g_1 => ?_)
  refine Ok_i (fun g_2 => ?_) (fun _ => ?_)
  · refine Ok_g (fun g_3 => ?_)
    refine Ok_g (fun g_5 => ?_)
    refine Ok_g (fun g_6 => ?_)
    exact Ok_m (hq4 _ _ _ _) (fun _ ⟨h0, h1⟩ => ⟨(Ag.tr (Ag.st (Ag.rf (f := I)) (keyo (L := [(43, 52)]) (M := FwX4_countSame_b75) rfl rfl (inW_r (L := [(43, 52)]) (lo := 43) (n := 9) rfl (rowi g_1)))) (Ag.mo rfl h0)), (Ag.tr (Ag.st (Ag.rf (f := J)) (keyo (L := [(54, 55)]) (M := FwX4_countSame_b75) rfl rfl (show inW [(54, 55)] 54 = true from rfl))) (Ag.mo rfl h1))⟩)
  · refine Ok_g (fun g_8 => ?_)
    refine Ok_g (fun g_10 => ?_)
    refine Ok_g (fun g_11 => ?_)
    exact Ok_m (hq4 _ _ _ _) (fun _ ⟨h0, h1⟩ => ⟨(Ag.tr (Ag.st (Ag.rf (f := I)) (keyo (L := [(43, 52)]) (M := FwX4_countSame_b75) rfl rfl (inW_r (L := [(43, 52)]) (lo := 43) (n := 9) rfl (rowi g_1)))) (Ag.mo rfl h0)), (Ag.tr (Ag.st (Ag.rf (f := J)) (keyo (L := [(54, 55)]) (M := FwX4_countSame_b75) rfl rfl (show inW [(54, 55)] 54 = true from rfl))) (Ag.mo rfl h1))⟩)
theorem aX4_countSame_b54 {q4 : (Nat → Nat → Int32) → (Nat → Nat → Int64) → (Int32) → (Int32) → (Option ((Nat → Nat → Int32) × (Nat → Nat → Int64) × (Int32)))} {σ : Shp} {R : Nat → Nat → Option Nat} {I : Nat → Nat → Int32} {J : Nat → Nat → Int64} {x2 : Int32} {x3 : Int32} {x4 : Int32} {s0 : Int32} (hq4 : ∀ (I : Nat → Nat → Int32) (J : Nat → Nat → Int64) (x2 : Int32) (x3 : Int32), Ok (q4 I J x2 x3) (fun r => Ag FwX4_countSame_l4 I r.1 ∧ Ag FwX4_countSame_l4 J r.2.1)) : Ok (gX4_countSame_b54 q4 σ R I J x2 x3 x4 s0) (fun r => Ag FwX4_countSame_b54 I r.1 ∧ Ag FwX4_countSame_b54 J r.2.1) := by
  unfold gX4_countSame_b54
  refine Ok_i (fun g_1 => ?_) (fun _ => ?_)
  · refine Ok_i (fun g_2 => ?_) (fun _ => ?_)
    · refine Ok_i (fun g_3 => ?_) (fun _ => ?_)
      · exact Ok_m (aX4_countSame_b75 hq4) (fun _ ⟨h0, h1⟩ => ⟨(Ag.tr (Ag.rf (f := I)) (Ag.mo rfl h0)), (Ag.tr (Ag.rf (f := J)) (Ag.mo rfl h1))⟩)
      · exact Ok_m (aX4_countSame_b75 hq4) (fun _ ⟨h0, h1⟩ => ⟨(Ag.tr (Ag.rf (f := I)) (Ag.mo rfl h0)), (Ag.tr (Ag.rf (f := J)) (Ag.mo rfl h1))⟩)
    · exact Ok_m (aX4_countSame_b75 hq4) (fun _ ⟨h0, h1⟩ => ⟨(Ag.tr (Ag.rf (f := I)) (Ag.mo rfl h0)), (Ag.tr (Ag.rf (f := J)) (Ag.mo rfl h1))⟩)
  · exact Ok_m (aX4_countSame_b75 hq4) (fun _ ⟨h0, h1⟩ => ⟨(Ag.tr (Ag.rf (f := I)) (Ag.mo rfl h0)), (Ag.tr (Ag.rf (f := J)) (Ag.mo rfl h1))⟩)
theorem aX4_countSame_b26 {q4 : (Nat → Nat → Int32) → (Nat → Nat → Int64) → (Int32) → (Int32) → (Option ((Nat → Nat → Int32) × (Nat → Nat → Int64) × (Int32)))} {σ : Shp} {R : Nat → Nat → Option Nat} {I : Nat → Nat → Int32} {J : Nat → Nat → Int64} {x2 : Int32} {x3 : Int32} {s0 : Int32} (hq4 : ∀ (I : Nat → Nat → Int32) (J : Nat → Nat → Int64) (x2 : Int32) (x3 : Int32), Ok (q4 I J x2 x3) (fun r => Ag FwX4_countSame_l4 I r.1 ∧ Ag FwX4_countSame_l4 J r.2.1)) : Ok (gX4_countSame_b26 q4 σ R I J x2 x3 s0) (fun r => Ag FwX4_countSame_b26 I r.1 ∧ Ag FwX4_countSame_b26 J r.2.1) := by
  unfold gX4_countSame_b26
  refine Ok_i (fun g_1 => ?_) (fun _ => ?_)
  · refine Ok_g (fun g_2 => ?_)
    refine Ok_g (fun g_3 => ?_)
    refine Ok_i (fun g_4 => ?_) (fun _ => ?_)
    · exact Ok_m (aX4_countSame_b54 hq4) (fun _ ⟨h0, h1⟩ => ⟨(Ag.tr (Ag.rf (f := I)) (Ag.mo rfl h0)), (Ag.tr (Ag.rf (f := J)) (Ag.mo rfl h1))⟩)
    · exact Ok_m (aX4_countSame_b54 hq4) (fun _ ⟨h0, h1⟩ => ⟨(Ag.tr (Ag.rf (f := I)) (Ag.mo rfl h0)), (Ag.tr (Ag.rf (f := J)) (Ag.mo rfl h1))⟩)
  · exact Ok_m (aX4_countSame_b54 hq4) (fun _ ⟨h0, h1⟩ => ⟨(Ag.tr (Ag.rf (f := I)) (Ag.mo rfl h0)), (Ag.tr (Ag.rf (f := J)) (Ag.mo rfl h1))⟩)
theorem aX4_countSame_l4 {σ : Shp} {R : Nat → Nat → Option Nat} : ∀ (n : Nat) (I : Nat → Nat → Int32) (J : Nat → Nat → Int64) (x2 : Int32) (x3 : Int32), Ok (gX4_countSame_l4 σ R n I J x2 x3) (fun r => Ag FwX4_countSame_l4 I r.1 ∧ Ag FwX4_countSame_l4 J r.2.1) := by
  intro n
  induction n with
  | zero => intro I J x2 x3; exact Ok_e rfl
  | succ n ih =>
    intro I J x2 x3
    rw [gX4_countSame_l4]
    refine Ok_i (fun g_1 => ?_) (fun _ => ?_)
    · refine Ok_g (fun g_2 => ?_)
      exact Ok_s ⟨(Ag.rf (f := I)), (Ag.rf (f := J))⟩
    · refine Ok_g (fun g_3 => ?_)
      refine Ok_g (fun g_4 => ?_)
      refine Ok_i (fun g_5 => ?_) (fun _ => ?_)
      · exact Ok_m (aX4_countSame_b26 ih) (fun _ ⟨h0, h1⟩ => ⟨(Ag.tr (Ag.rf (f := I)) (Ag.mo rfl h0)), (Ag.tr (Ag.rf (f := J)) (Ag.mo rfl h1))⟩)
      · exact Ok_m (aX4_countSame_b26 ih) (fun _ ⟨h0, h1⟩ => ⟨(Ag.tr (Ag.rf (f := I)) (Ag.mo rfl h0)), (Ag.tr (Ag.rf (f := J)) (Ag.mo rfl h1))⟩)
theorem aX4_countSame {σ : Shp} {I : Nat → Nat → Int32} {J : Nat → Nat → Int64} {R : Nat → Nat → Option Nat} {x1 : Int32} : Ok (gX4_countSame σ I J R x1) (fun r => Ag FwX4_countSame I r.1 ∧ Ag FwX4_countSame J r.2.1) := by
  unfold gX4_countSame
  exact Ok_m (aX4_countSame_l4  _ _ _ _ _) (fun _ ⟨h0, h1⟩ => ⟨(Ag.tr (Ag.rf (f := I)) (Ag.mo rfl h0)), (Ag.tr (Ag.rf (f := J)) (Ag.mo rfl h1))⟩)
theorem aX4_sendTo {I : Nat → Nat → Int32} {x1 : Int32} {x2 : Int32} {x3 : Int32} : Ok (gX4_sendTo I x1 x2 x3) (fun r => Ag FwX4_sendTo I r) := by
  unfold gX4_sendTo
  refine Ok_g (fun g_1 => ?_)
  refine Ok_g (fun g_2 => ?_)
  refine Ok_g (fun g_4 => ?_)
  refine Ok_g (fun g_6 => ?_)
  refine Ok_g (fun g_8 => ?_)
  exact Ok_s (Ag.st (Ag.st (Ag.st (Ag.st (Ag.rf (f := I)) (keyo (L := [(43, 52)]) (M := FwX4_sendTo) rfl rfl (inW_r (L := [(43, 52)]) (lo := 43) (n := 9) rfl (rowi g_1)))) (keyo (L := [(43, 52)]) (M := FwX4_sendTo) rfl rfl (inW_r (L := [(43, 52)]) (lo := 43) (n := 9) rfl (rowi g_1)))) (keyo (L := [(43, 52)]) (M := FwX4_sendTo) rfl rfl (inW_r (L := [(43, 52)]) (lo := 43) (n := 9) rfl (rowi g_1)))) (keyo (L := [(43, 52)]) (M := FwX4_sendTo) rfl rfl (inW_r (L := [(43, 52)]) (lo := 43) (n := 9) rfl (rowi g_1))))
theorem aX4_judge_b83 {σ : Shp} {J : Nat → Nat → Int64} {R : Nat → Nat → Option Nat} {I : Nat → Nat → Int32} {x1 : Int32} {x3 : Int32} : Ok (gX4_judge_b83 σ J R I x1 x3) (fun r => Ag FwX4_judge_b83 I r) := by
  unfold gX4_judge_b83
  refine Ok_i (fun g_1 => ?_) (fun _ => ?_)
  · refine Ok_g (fun g_2 => ?_)
    refine Ok_g (fun g_3 => ?_)
    refine Ok_i (fun g_4 => ?_) (fun _ => ?_)
    · exact Ok_s (Ag.rf (f := I))
    · refine Ok_b (aX4_sendTo) ?_
      intro I6 hr
      have h_5 := hr
      have m_6 : Ag FwX4_judge_b83 I I6 := Ag.tr (Ag.rf (f := I)) (Ag.mo rfl h_5)
      exact Ok_s m_6
  · exact Ok_s (Ag.rf (f := I))
theorem aX4_judge_b57 {σ : Shp} {J : Nat → Nat → Int64} {R : Nat → Nat → Option Nat} {I : Nat → Nat → Int32} {x1 : Int32} {x3 : Int32} : Ok (gX4_judge_b57 σ J R I x1 x3) (fun r => Ag FwX4_judge_b57 I r) := by
  unfold gX4_judge_b57
  refine Ok_i (fun g_1 => ?_) (fun _ => ?_)
  · exact Ok_m (aX4_judge_b83) (fun _ hr => (Ag.tr (Ag.rf (f := I)) (Ag.mo rfl hr)))
  · refine Ok_g (fun g_2 => ?_)
    refine Ok_g (fun g_3 => ?_)
    refine Ok_i (fun g_4 => ?_) (fun _ => ?_)
    · exact Ok_m (aX4_judge_b83) (fun _ hr => (Ag.tr (Ag.rf (f := I)) (Ag.mo rfl hr)))
    · refine Ok_b (aX4_sendTo) ?_
      intro I10 hr
      have h_5 := hr
      have m_6 : Ag FwX4_judge_b57 I I10 := Ag.tr (Ag.rf (f := I)) (Ag.mo rfl h_5)
      exact Ok_s m_6
theorem aX4_judge_b17 {σ : Shp} {J : Nat → Nat → Int64} {R : Nat → Nat → Option Nat} {I : Nat → Nat → Int32} {x1 : Int32} {x2 : Int32} {s0 : Int32} : Ok (gX4_judge_b17 σ J R I x1 x2 s0) (fun r => Ag FwX4_judge_b17 I r) := by
  unfold gX4_judge_b17
  refine Ok_g (fun g_1 => ?_)
  refine Ok_i (fun g_2 => ?_) (fun _ => ?_)
  · exact Ok_m (aX4_judge_b57) (fun _ hr => (Ag.tr (Ag.rf (f := I)) (Ag.mo rfl hr)))
  · refine Ok_g (fun g_3 => ?_)
    refine Ok_g (fun g_4 => ?_)
    refine Ok_i (fun g_5 => ?_) (fun _ => ?_)
    · exact Ok_m (aX4_judge_b57) (fun _ hr => (Ag.tr (Ag.rf (f := I)) (Ag.mo rfl hr)))
    · refine Ok_i (fun g_6 => ?_) (fun _ => ?_)
      · exact Ok_m (aX4_judge_b57) (fun _ hr => (Ag.tr (Ag.rf (f := I)) (Ag.mo rfl hr)))
      · refine Ok_b (aX4_sendTo) ?_
        intro I14 hr
        have h_7 := hr
        have m_8 : Ag FwX4_judge_b17 I I14 := Ag.tr (Ag.rf (f := I)) (Ag.mo rfl h_7)
        exact Ok_s m_8
theorem aX4_judge {σ : Shp} {I : Nat → Nat → Int32} {J : Nat → Nat → Int64} {R : Nat → Nat → Option Nat} {x1 : Int32} {x2 : Int32} : Ok (gX4_judge σ I J R x1 x2) (fun r => Ag FwX4_judge I r) := by
  unfold gX4_judge
  refine Ok_g (fun g_1 => ?_)
  refine Ok_g (fun g_2 => ?_)
  refine Ok_i (fun g_3 => ?_) (fun _ => ?_)
  · exact Ok_m (aX4_judge_b17) (fun _ hr => (Ag.tr (Ag.rf (f := I)) (Ag.mo rfl hr)))
  · exact Ok_m (aX4_judge_b17) (fun _ hr => (Ag.tr (Ag.rf (f := I)) (Ag.mo rfl hr)))
theorem aX11_sortByOrder_l22 {q9 : (Nat → Nat → Int64) → (Option Nat) → (Int32) → (Int32) → (Option ((Nat → Nat → Int64)))} {σ : Shp} (hq9 : ∀ (J : Nat → Nat → Int64) (x0 : Option Nat) (x2 : Int32) (x3 : Int32) (hs_x0 : Cin [(56, 57), (112, 113)] x0), Ok (q9 J x0 x2 x3) (fun r => Ag FwX11_sortByOrder_l9 J r)) : ∀ (n : Nat) (J : Nat → Nat → Int64) (x0 : Option Nat) (x2 : Int32) (x3 : Int32) (x4 : Int64) (x6 : Int32) (hs_x0 : Cin [(56, 57), (112, 113)] x0), Ok (gX11_sortByOrder_l22 q9 σ n J x0 x2 x3 x4 x6) (fun r => Ag FwX11_sortByOrder_l22 J r) := by
  intro n
  induction n with
  | zero => intro J x0 x2 x3 x4 x6 hs_x0; exact Ok_e rfl
  | succ n ih =>
    intro J x0 x2 x3 x4 x6 hs_x0
    rw [gX11_sortByOrder_l22]
    refine Ok_i (fun g_1 => ?_) (fun _ => ?_)
    · refine Ok_bc (fun a8 e_2 => ?_)
      refine Ok_g (fun g_3 => ?_)
      refine Ok_g (fun g_4 => ?_)
      exact Ok_m (hq9 _ _ _ _ (Cin.mo (L := [(56, 57), (112, 113)]) (M := [(56, 57), (112, 113)]) rfl hs_x0)) (fun _ hr => (Ag.tr (Ag.st (Ag.rf (f := J)) (keyo (L := [(56, 57), (112, 113)]) (M := FwX11_sortByOrder_l22) rfl rfl (inW_mo (L := [(56, 57), (112, 113)]) (M := [(56, 57), (112, 113)]) rfl (Cin.get hs_x0 e_2)))) (Ag.mo rfl hr)))
    · refine Ok_bc (fun a13 e_6 => ?_)
      refine Ok_g (fun g_7 => ?_)
      refine Ok_g (fun g_8 => ?_)
      refine Ok_i (fun g_9 => ?_) (fun _ => ?_)
      · refine Ok_g (fun g_10 => ?_)
        exact Ok_m (hq9 _ _ _ _ (Cin.mo (L := [(56, 57), (112, 113)]) (M := [(56, 57), (112, 113)]) rfl hs_x0)) (fun _ hr => (Ag.tr (Ag.st (Ag.rf (f := J)) (keyo (L := [(56, 57), (112, 113)]) (M := FwX11_sortByOrder_l22) rfl rfl (inW_mo (L := [(56, 57), (112, 113)]) (M := [(56, 57), (112, 113)]) rfl (Cin.get hs_x0 e_6)))) (Ag.mo rfl hr)))
      · refine Ok_g (fun g_12 => ?_)
        exact Ok_m (ih _ _ _ _ _ _ (Cin.mo (L := [(56, 57), (112, 113)]) (M := [(56, 57), (112, 113)]) rfl hs_x0)) (fun _ hr => (Ag.tr (Ag.st (Ag.rf (f := J)) (keyo (L := [(56, 57), (112, 113)]) (M := FwX11_sortByOrder_l22) rfl rfl (inW_mo (L := [(56, 57), (112, 113)]) (M := [(56, 57), (112, 113)]) rfl (Cin.get hs_x0 e_6)))) (Ag.mo rfl hr)))
theorem aX11_sortByOrder_l9 {σ : Shp} : ∀ (n : Nat) (J : Nat → Nat → Int64) (x0 : Option Nat) (x2 : Int32) (x3 : Int32) (hs_x0 : Cin [(56, 57), (112, 113)] x0), Ok (gX11_sortByOrder_l9 σ n J x0 x2 x3) (fun r => Ag FwX11_sortByOrder_l9 J r) := by
  intro n
  induction n with
  | zero => intro J x0 x2 x3 hs_x0; exact Ok_e rfl
  | succ n ih =>
    intro J x0 x2 x3 hs_x0
    rw [gX11_sortByOrder_l9]
    refine Ok_i (fun g_1 => ?_) (fun _ => ?_)
    · exact Ok_s (Ag.rf (f := J))
    · refine Ok_bc (fun a4 e_2 => ?_)
      refine Ok_g (fun g_3 => ?_)
      refine Ok_g (fun g_4 => ?_)
      exact Ok_m (aX11_sortByOrder_l22 ih _ _ _ _ _ _ _ (Cin.mo (L := [(56, 57), (112, 113)]) (M := [(56, 57), (112, 113)]) rfl hs_x0)) (fun _ hr => (Ag.tr (Ag.rf (f := J)) (Ag.mo rfl hr)))
theorem aX11_sortByOrder {σ : Shp} {J : Nat → Nat → Int64} {x0 : Option Nat} {x1 : Int32} (hs_x0 : Cin [(56, 57), (112, 113)] x0) : Ok (gX11_sortByOrder σ J x0 x1) (fun r => Ag FwX11_sortByOrder J r) := by
  unfold gX11_sortByOrder
  refine Ok_bc (fun a1 e_1 => ?_)
  refine Ok_g (fun g_2 => ?_)
  exact Ok_m (aX11_sortByOrder_l9  _ _ _ _ _ (Cin.mo (L := [(56, 57), (112, 113)]) (M := [(56, 57), (112, 113)]) rfl hs_x0)) (fun _ hr => (Ag.tr (Ag.rf (f := J)) (Ag.mo rfl hr)))
theorem aX4_middleOf_l4 {σ : Shp} {I : Nat → Nat → Int32} {R : Nat → Nat → Option Nat} : ∀ (n : Nat) (J : Nat → Nat → Int64) (x2 : Int32) (x3 : Int32), Ok (gX4_middleOf_l4 σ I R n J x2 x3) (fun r => Ag FwX4_middleOf_l4 J r.1) := by
  intro n
  induction n with
  | zero => intro J x2 x3; exact Ok_e rfl
  | succ n ih =>
    intro J x2 x3
    rw [gX4_middleOf_l4]
    refine Ok_i (fun g_1 => ?_) (fun _ => ?_)
    · refine Ok_i (fun g_2 => ?_) (fun _ => ?_)
      · exact Ok_s (Ag.rf (f := J))
      · refine Ok_b (aX11_sortByOrder ⟨_, rfl, (show inW [(56, 57), (112, 113)] 56 = true from rfl)⟩) ?_
        intro J1 hr
        have h_3 := hr
        have m_4 : Ag FwX4_middleOf_l4 J J1 := Ag.tr (Ag.rf (f := J)) (Ag.mo rfl h_3)
        refine Ok_g (fun g_5 => ?_)
        exact Ok_s m_4
    · refine Ok_g (fun g_6 => ?_)
      refine Ok_g (fun g_7 => ?_)
      refine Ok_i (fun g_8 => ?_) (fun _ => ?_)
      · refine Ok_g (fun g_9 => ?_)
        refine Ok_i (fun g_10 => ?_) (fun _ => ?_)
        · exact Ok_m (ih _ _ _) (fun _ hr => (Ag.tr (Ag.rf (f := J)) (Ag.mo rfl hr)))
        · refine Ok_i (fun g_11 => ?_) (fun _ => ?_)
          · exact Ok_m (ih _ _ _) (fun _ hr => (Ag.tr (Ag.rf (f := J)) (Ag.mo rfl hr)))
          · refine Ok_g (fun g_12 => ?_)
            exact Ok_m (ih _ _ _) (fun _ hr => (Ag.tr (Ag.st (Ag.rf (f := J)) (keyo (L := [(56, 57)]) (M := FwX4_middleOf_l4) rfl rfl (show inW [(56, 57)] 56 = true from rfl))) (Ag.mo rfl hr)))
      · exact Ok_m (ih _ _ _) (fun _ hr => (Ag.tr (Ag.rf (f := J)) (Ag.mo rfl hr)))
theorem aX4_middleOf {σ : Shp} {I : Nat → Nat → Int32} {J : Nat → Nat → Int64} {R : Nat → Nat → Option Nat} {x1 : Int32} : Ok (gX4_middleOf σ I J R x1) (fun r => Ag FwX4_middleOf J r.1) := by
  unfold gX4_middleOf
  exact Ok_m (aX4_middleOf_l4  _ _ _ _) (fun _ hr => (Ag.tr (Ag.rf (f := J)) (Ag.mo rfl hr)))
theorem aX4_vote_l54 {σ : Shp} {D : Nat → Nat → UInt64} {R : Nat → Nat → Option Nat} : ∀ (n : Nat) (I : Nat → Nat → Int32) (J : Nat → Nat → Int64) (x1 : Int32) (x2 : Int32) (x3 : Int32) (x4 : UInt64) (x6 : Int32), Ok (gX4_vote_l54 σ D R n I J x1 x2 x3 x4 x6) (fun r => Ag FwX4_vote_l54 I r.1 ∧ Ag FwX4_vote_l54 J r.2) := by
  intro n
  induction n with
  | zero => intro I J x1 x2 x3 x4 x6; exact Ok_e rfl
  | succ n ih =>
    intro I J x1 x2 x3 x4 x6
    rw [gX4_vote_l54]
    refine Ok_i (fun g_1 => ?_) (fun _ => ?_)
    · exact Ok_s ⟨(Ag.rf (f := I)), (Ag.rf (f := J))⟩
    · refine Ok_i (fun g_2 => ?_) (fun _ => ?_)
      · refine Ok_g (fun g_3 => ?_)
        refine Ok_b (aX4_countOff) ?_
        intro I13 hr
        have h_4 := hr
        have m_5 : Ag FwX4_vote_l54 I I13 := Ag.tr (Ag.rf (f := I)) (Ag.mo rfl h_4)
        refine Ok_b (aX4_judge) ?_
        intro I15 hr
        have h_6 := hr
        have m_7 : Ag FwX4_vote_l54 I I15 := Ag.tr m_5 (Ag.mo rfl h_6)
        exact Ok_m (ih _ _ _ _ _ _ _) (fun _ ⟨h0, h1⟩ => ⟨(Ag.tr m_7 (Ag.mo rfl h0)), (Ag.tr (Ag.rf (f := J)) (Ag.mo rfl h1))⟩)
      · refine Ok_g (fun g_8 => ?_)
        refine Ok_i (fun g_9 => ?_) (fun _ => ?_)
        · refine Ok_g (fun g_10 => ?_)
          refine Ok_b (aX4_countOff) ?_
          intro I20 hr
          have h_11 := hr
          have m_12 : Ag FwX4_vote_l54 I I20 := Ag.tr (Ag.rf (f := I)) (Ag.mo rfl h_11)
          refine Ok_b (aX4_judge) ?_
          intro I22 hr
          have h_13 := hr
          have m_14 : Ag FwX4_vote_l54 I I22 := Ag.tr m_12 (Ag.mo rfl h_13)
          exact Ok_m (ih _ _ _ _ _ _ _) (fun _ ⟨h0, h1⟩ => ⟨(Ag.tr m_14 (Ag.mo rfl h0)), (Ag.tr (Ag.rf (f := J)) (Ag.mo rfl h1))⟩)
        · refine Ok_g (fun g_15 => ?_)
          refine Ok_b (aX4_countOff) ?_
          intro I26 hr
          have h_16 := hr
          have m_17 : Ag FwX4_vote_l54 I I26 := Ag.tr (Ag.rf (f := I)) (Ag.mo rfl h_16)
          refine Ok_b (aX4_judge) ?_
          intro I28 hr
          have h_18 := hr
          have m_19 : Ag FwX4_vote_l54 I I28 := Ag.tr m_17 (Ag.mo rfl h_18)
          exact Ok_m (ih _ _ _ _ _ _ _) (fun _ ⟨h0, h1⟩ => ⟨(Ag.tr m_19 (Ag.mo rfl h0)), (Ag.tr (Ag.rf (f := J)) (Ag.mo rfl h1))⟩)
theorem aX4_vote {σ : Shp} {I : Nat → Nat → Int32} {J : Nat → Nat → Int64} {D : Nat → Nat → UInt64} {R : Nat → Nat → Option Nat} {x1 : Int32} : Ok (gX4_vote σ I J D R x1) (fun r => Ag FwX4_vote I r.1 ∧ Ag FwX4_vote J r.2) := by
  unfold gX4_vote
  refine Ok_b (aX4_countSame) ?_
  intro rr hr
  obtain ⟨I1, J2, r3⟩ := rr
  obtain ⟨h_1, h_2⟩ := hr
  have m_3 : Ag FwX4_vote I I1 := Ag.tr (Ag.rf (f := I)) (Ag.mo rfl h_1)
  have m_4 : Ag FwX4_vote J J2 := Ag.tr (Ag.rf (f := J)) (Ag.mo rfl h_2)
  refine Ok_b (aX4_middleOf) ?_
  intro rr hr
  obtain ⟨J5, r6⟩ := rr
  have h_5 := hr
  have m_6 : Ag FwX4_vote J J5 := Ag.tr m_4 (Ag.mo rfl h_5)
  refine Ok_g (fun g_7 => ?_)
  refine Ok_i (fun g_9 => ?_) (fun _ => ?_)
  · refine Ok_t ?_
    intro r10
    exact Ok_m (aX4_vote_l54  _ _ _ _ _ _ _ _) (fun _ ⟨h0, h1⟩ => ⟨(Ag.tr m_3 (Ag.mo rfl h0)), (Ag.tr (Ag.st m_6 (keyo (L := [(55, 56)]) (M := FwX4_vote) rfl rfl (show inW [(55, 56)] 55 = true from rfl))) (Ag.mo rfl h1))⟩)
  · refine Ok_t ?_
    intro r31
    refine Ok_i (fun g_10 => ?_) (fun _ => ?_)
    · refine Ok_t ?_
      intro r33
      exact Ok_m (aX4_vote_l54  _ _ _ _ _ _ _ _) (fun _ ⟨h0, h1⟩ => ⟨(Ag.tr m_3 (Ag.mo rfl h0)), (Ag.tr (Ag.st m_6 (keyo (L := [(55, 56)]) (M := FwX4_vote) rfl rfl (show inW [(55, 56)] 55 = true from rfl))) (Ag.mo rfl h1))⟩)
    · refine Ok_t ?_
      intro r35
      exact Ok_m (aX4_vote_l54  _ _ _ _ _ _ _ _) (fun _ ⟨h0, h1⟩ => ⟨(Ag.tr m_3 (Ag.mo rfl h0)), (Ag.tr (Ag.st m_6 (keyo (L := [(55, 56)]) (M := FwX4_vote) rfl rfl (show inW [(55, 56)] 55 = true from rfl))) (Ag.mo rfl h1))⟩)
theorem aX4_passMinute_l12 {σ : Shp} {D : Nat → Nat → UInt64} {R : Nat → Nat → Option Nat} : ∀ (n : Nat) (I : Nat → Nat → Int32) (J : Nat → Nat → Int64) (x1 : Int32), Ok (gX4_passMinute_l12 σ D R n I J x1) (fun r => Ag FwX4_passMinute_l12 I r.1 ∧ Ag FwX4_passMinute_l12 J r.2) := by
  intro n
  induction n with
  | zero => intro I J x1; exact Ok_e rfl
  | succ n ih =>
    intro I J x1
    rw [gX4_passMinute_l12]
    refine Ok_i (fun g_1 => ?_) (fun _ => ?_)
    · exact Ok_s ⟨(Ag.rf (f := I)), (Ag.rf (f := J))⟩
    · refine Ok_b (aX4_vote) ?_
      intro rr hr
      obtain ⟨I2, J3⟩ := rr
      obtain ⟨h_2, h_3⟩ := hr
      have m_4 : Ag FwX4_passMinute_l12 I I2 := Ag.tr (Ag.rf (f := I)) (Ag.mo rfl h_2)
      have m_5 : Ag FwX4_passMinute_l12 J J3 := Ag.tr (Ag.rf (f := J)) (Ag.mo rfl h_3)
      refine Ok_b (aX4_steer) ?_
      intro J5 hr
      have h_6 := hr
      have m_7 : Ag FwX4_passMinute_l12 J J5 := Ag.tr m_5 (Ag.mo rfl h_6)
      refine Ok_b (aX4_changeAir) ?_
      intro rr hr
      obtain ⟨I7, J8⟩ := rr
      obtain ⟨h_8, h_9⟩ := hr
      have m_10 : Ag FwX4_passMinute_l12 I I7 := Ag.tr m_4 (Ag.mo rfl h_8)
      have m_11 : Ag FwX4_passMinute_l12 J J8 := Ag.tr m_7 (Ag.mo rfl h_9)
      exact Ok_m (ih _ _ _) (fun _ ⟨h0, h1⟩ => ⟨(Ag.tr m_10 (Ag.mo rfl h0)), (Ag.tr m_11 (Ag.mo rfl h1))⟩)
theorem aX4_passMinute {σ : Shp} {I : Nat → Nat → Int32} {J : Nat → Nat → Int64} {D : Nat → Nat → UInt64} {R : Nat → Nat → Option Nat} : Ok (gX4_passMinute σ I J D R) (fun r => Ag FwX4_passMinute I r.1 ∧ Ag FwX4_passMinute J r.2) := by
  unfold gX4_passMinute
  exact Ok_m (aX4_passMinute_l12  _ _ _ _) (fun _ ⟨h0, h1⟩ => ⟨(Ag.tr (Ag.st (Ag.rf (f := I)) (keyo (L := [(26, 27)]) (M := FwX4_passMinute) rfl rfl (show inW [(26, 27)] 26 = true from rfl))) (Ag.mo rfl h0)), (Ag.tr (Ag.rf (f := J)) (Ag.mo rfl h1))⟩)
theorem aX4_markAdded_b57 {σ : Shp} {R : Nat → Nat → Option Nat} {I : Nat → Nat → Int32} {x1 : Int32} {x2 : Int32} {x3 : Int32} {x4 : Int32} : Ok (gX4_markAdded_b57 σ R I x1 x2 x3 x4) (fun r => Ag FwX4_markAdded_b57 I r.1) := by
  unfold gX4_markAdded_b57
  refine Ok_i (fun g_1 => ?_) (fun _ => ?_)
  · refine Ok_g (fun g_2 => ?_)
    refine Ok_g (fun g_3 => ?_)
    refine Ok_g (fun g_5 => ?_)
    refine Ok_g (fun g_6 => ?_)
    refine Ok_g (fun g_8 => ?_)
    exact Ok_s (Ag.st (Ag.st (Ag.st (Ag.rf (f := I)) (keyo (L := [(63, 66)]) (M := FwX4_markAdded_b57) rfl rfl (inW_r (L := [(63, 66)]) (lo := 63) (n := 3) rfl (rowi g_2)))) (keyo (L := [(67, 70)]) (M := FwX4_markAdded_b57) rfl rfl (inW_r (L := [(67, 70)]) (lo := 67) (n := 3) rfl (rowi g_2)))) (keyo (L := [(70, 71)]) (M := FwX4_markAdded_b57) rfl rfl (show inW [(70, 71)] 70 = true from rfl)))
  · exact Ok_s (Ag.rf (f := I))
theorem aX4_markAdded {σ : Shp} {I : Nat → Nat → Int32} {R : Nat → Nat → Option Nat} {x1 : Int32} {x2 : Int32} {x3 : Int32} : Ok (gX4_markAdded σ I R x1 x2 x3) (fun r => Ag FwX4_markAdded I r.1) := by
  unfold gX4_markAdded
  refine Ok_g (fun g_1 => ?_)
  refine Ok_i (fun g_2 => ?_) (fun _ => ?_)
  · exact Ok_s (Ag.rf (f := I))
  · refine Ok_i (fun g_3 => ?_) (fun _ => ?_)
    · exact Ok_s (Ag.rf (f := I))
    · refine Ok_i (fun g_4 => ?_) (fun _ => ?_)
      · exact Ok_s (Ag.rf (f := I))
      · refine Ok_i (fun g_5 => ?_) (fun _ => ?_)
        · refine Ok_i (fun g_6 => ?_) (fun _ => ?_)
          · exact Ok_m (aX4_markAdded_b57) (fun _ hr => (Ag.tr (Ag.rf (f := I)) (Ag.mo rfl hr)))
          · refine Ok_g (fun g_7 => ?_)
            refine Ok_g (fun g_8 => ?_)
            refine Ok_i (fun g_9 => ?_) (fun _ => ?_)
            · exact Ok_m (aX4_markAdded_b57) (fun _ hr => (Ag.tr (Ag.rf (f := I)) (Ag.mo rfl hr)))
            · exact Ok_s (Ag.rf (f := I))
        · exact Ok_s (Ag.rf (f := I))
theorem aX4_marksGone {I : Nat → Nat → Int32} {x1 : Int32} : Ok (gX4_marksGone I x1) (fun r => Ag FwX4_marksGone I r.1) := by
  unfold gX4_marksGone
  refine Ok_g (fun g_1 => ?_)
  exact Ok_s (Ag.st (Ag.rf (f := I)) (keyo (L := [(70, 71)]) (M := FwX4_marksGone) rfl rfl (show inW [(70, 71)] 70 = true from rfl)))
theorem aX5_setParts {I : Nat → Nat → Int32} {x1 : Int32} {x2 : Int32} {x3 : Int32} {x4 : Int32} {x5 : Int32} : Ok (gX5_setParts I x1 x2 x3 x4 x5) (fun r => Ag FwX5_setParts I r) := by
  unfold gX5_setParts
  refine Ok_g (fun g_1 => ?_)
  refine Ok_g (fun g_2 => ?_)
  refine Ok_g (fun g_4 => ?_)
  refine Ok_g (fun g_5 => ?_)
  refine Ok_g (fun g_7 => ?_)
  refine Ok_g (fun g_8 => ?_)
  exact Ok_s (Ag.st (Ag.st (Ag.st (Ag.rf (f := I)) (keyo (L := [(96, 98)]) (M := FwX5_setParts) rfl rfl (inW_r (L := [(96, 98)]) (lo := 96) (n := 2) rfl (rowi g_1)))) (keyo (L := [(99, 101)]) (M := FwX5_setParts) rfl rfl (inW_r (L := [(99, 101)]) (lo := 99) (n := 2) rfl (rowi g_1)))) (keyo (L := [(102, 104)]) (M := FwX5_setParts) rfl rfl (inW_r (L := [(102, 104)]) (lo := 102) (n := 2) rfl (rowi g_1))))
theorem aX5_lessen_l2 {σ : Shp} {R : Nat → Nat → Option Nat} : ∀ (n : Nat) (I : Nat → Nat → Int32) (J : Nat → Nat → Int64) (x1 : Int32) (x2 : Int32), Ok (gX5_lessen_l2 σ R n I J x1 x2) (fun r => Ag FwX5_lessen_l2 I r.1 ∧ Ag FwX5_lessen_l2 J r.2) := by
  intro n
  induction n with
  | zero => intro I J x1 x2; exact Ok_e rfl
  | succ n ih =>
    intro I J x1 x2
    rw [gX5_lessen_l2]
    refine Ok_i (fun g_1 => ?_) (fun _ => ?_)
    · exact Ok_s ⟨(Ag.st (Ag.rf (f := I)) (keyo (L := [(91, 92)]) (M := FwX5_lessen_l2) rfl rfl (show inW [(91, 92)] 91 = true from rfl))), (Ag.rf (f := J))⟩
    · refine Ok_g (fun g_3 => ?_)
      refine Ok_g (fun g_4 => ?_)
      exact Ok_m (ih _ _ _ _) (fun _ ⟨h0, h1⟩ => ⟨(Ag.tr (Ag.rf (f := I)) (Ag.mo rfl h0)), (Ag.tr (Ag.st (Ag.rf (f := J)) (keyo (L := [(93, 95)]) (M := FwX5_lessen_l2) rfl rfl (inW_r (L := [(93, 95)]) (lo := 93) (n := 2) rfl (rowi g_3)))) (Ag.mo rfl h1))⟩)
theorem aX5_lessen {σ : Shp} {I : Nat → Nat → Int32} {J : Nat → Nat → Int64} {R : Nat → Nat → Option Nat} {x1 : Int32} : Ok (gX5_lessen σ I J R x1) (fun r => Ag FwX5_lessen I r.1 ∧ Ag FwX5_lessen J r.2) := by
  unfold gX5_lessen
  exact Ok_m (aX5_lessen_l2  _ _ _ _ _) (fun _ ⟨h0, h1⟩ => ⟨(Ag.tr (Ag.rf (f := I)) (Ag.mo rfl h0)), (Ag.tr (Ag.rf (f := J)) (Ag.mo rfl h1))⟩)
theorem aX11_shareOut_l113 {q94 : (Nat → Nat → Int64) → (Int32) → (Option Nat) → (Option Nat) → (Int64) → (Int32) → (Option ((Nat → Nat → Int64)))} {σ : Shp} (hq94 : ∀ (J : Nat → Nat → Int64) (x3 : Int32) (x4 : Option Nat) (x5 : Option Nat) (x8 : Int64) (x10 : Int32) (hs_x4 : Cin [(105, 106)] x4) (hs_x5 : Cin [(106, 107), (112, 113)] x5), Ok (q94 J x3 x4 x5 x8 x10) (fun r => Ag FwX11_shareOut_l94 J r)) : ∀ (n : Nat) (J : Nat → Nat → Int64) (x3 : Int32) (x4 : Option Nat) (x5 : Option Nat) (x8 : Int64) (x10 : Int32) (x11 : Int32) (x12 : Int32) (hs_x4 : Cin [(105, 106)] x4) (hs_x5 : Cin [(106, 107), (112, 113)] x5), Ok (gX11_shareOut_l113 q94 σ n J x3 x4 x5 x8 x10 x11 x12) (fun r => Ag FwX11_shareOut_l113 J r) := by
  intro n
  induction n with
  | zero => intro J x3 x4 x5 x8 x10 x11 x12 hs_x4 hs_x5; exact Ok_e rfl
  | succ n ih =>
    intro J x3 x4 x5 x8 x10 x11 x12 hs_x4 hs_x5
    rw [gX11_shareOut_l113]
    refine Ok_i (fun g_1 => ?_) (fun _ => ?_)
    · refine Ok_bc (fun a1 e_2 => ?_)
      refine Ok_g (fun g_3 => ?_)
      refine Ok_g (fun g_4 => ?_)
      refine Ok_bc (fun a5 e_6 => ?_)
      refine Ok_g (fun g_7 => ?_)
      refine Ok_g (fun g_8 => ?_)
      exact Ok_m (hq94 _ _ _ _ _ _ (Cin.mo (L := [(105, 106)]) (M := [(105, 106)]) rfl hs_x4) (Cin.mo (L := [(106, 107), (112, 113)]) (M := [(106, 107), (112, 113)]) rfl hs_x5)) (fun _ hr => (Ag.tr (Ag.st (Ag.st (Ag.rf (f := J)) (keyo (L := [(105, 106)]) (M := FwX11_shareOut_l113) rfl rfl (inW_mo (L := [(105, 106)]) (M := [(105, 106)]) rfl (Cin.get hs_x4 e_2)))) (keyo (L := [(106, 107), (112, 113)]) (M := FwX11_shareOut_l113) rfl rfl (inW_mo (L := [(106, 107), (112, 113)]) (M := [(106, 107), (112, 113)]) rfl (Cin.get hs_x5 e_6)))) (Ag.mo rfl hr)))
    · refine Ok_bc (fun a11 e_10 => ?_)
      refine Ok_g (fun g_11 => ?_)
      refine Ok_g (fun g_12 => ?_)
      refine Ok_g (fun g_13 => ?_)
      refine Ok_i (fun g_14 => ?_) (fun _ => ?_)
      · exact Ok_m (ih _ _ _ _ _ _ _ _ (Cin.mo (L := [(105, 106)]) (M := [(105, 106)]) rfl hs_x4) (Cin.mo (L := [(106, 107), (112, 113)]) (M := [(106, 107), (112, 113)]) rfl hs_x5)) (fun _ hr => (Ag.tr (Ag.rf (f := J)) (Ag.mo rfl hr)))
      · exact Ok_m (ih _ _ _ _ _ _ _ _ (Cin.mo (L := [(105, 106)]) (M := [(105, 106)]) rfl hs_x4) (Cin.mo (L := [(106, 107), (112, 113)]) (M := [(106, 107), (112, 113)]) rfl hs_x5)) (fun _ hr => (Ag.tr (Ag.rf (f := J)) (Ag.mo rfl hr)))
theorem aX11_shareOut_l94 {σ : Shp} : ∀ (n : Nat) (J : Nat → Nat → Int64) (x3 : Int32) (x4 : Option Nat) (x5 : Option Nat) (x8 : Int64) (x10 : Int32) (hs_x4 : Cin [(105, 106)] x4) (hs_x5 : Cin [(106, 107), (112, 113)] x5), Ok (gX11_shareOut_l94 σ n J x3 x4 x5 x8 x10) (fun r => Ag FwX11_shareOut_l94 J r) := by
  intro n
  induction n with
  | zero => intro J x3 x4 x5 x8 x10 hs_x4 hs_x5; exact Ok_e rfl
  | succ n ih =>
    intro J x3 x4 x5 x8 x10 hs_x4 hs_x5
    rw [gX11_shareOut_l94]
    refine Ok_i (fun g_1 => ?_) (fun _ => ?_)
    · exact Ok_s (Ag.rf (f := J))
    · refine Ok_i (fun g_2 => ?_) (fun _ => ?_)
      · exact Ok_s (Ag.rf (f := J))
      · exact Ok_m (aX11_shareOut_l113 ih _ _ _ _ _ _ _ _ _ (Cin.mo (L := [(105, 106)]) (M := [(105, 106)]) rfl hs_x4) (Cin.mo (L := [(106, 107), (112, 113)]) (M := [(106, 107), (112, 113)]) rfl hs_x5)) (fun _ hr => (Ag.tr (Ag.rf (f := J)) (Ag.mo rfl hr)))
theorem aX11_shareOut_l41 {σ : Shp} : ∀ (n : Nat) (J : Nat → Nat → Int64) (x0 : Int64) (x2 : Option Nat) (x3 : Int32) (x4 : Option Nat) (x5 : Option Nat) (x6 : Int64) (x8 : Int64) (x10 : Int32) (hs_x4 : Cin [(105, 106)] x4) (hs_x5 : Cin [(106, 107), (112, 113)] x5), Ok (gX11_shareOut_l41 σ n J x0 x2 x3 x4 x5 x6 x8 x10) (fun r => Ag FwX11_shareOut_l41 J r) := by
  intro n
  induction n with
  | zero => intro J x0 x2 x3 x4 x5 x6 x8 x10 hs_x4 hs_x5; exact Ok_e rfl
  | succ n ih =>
    intro J x0 x2 x3 x4 x5 x6 x8 x10 hs_x4 hs_x5
    rw [gX11_shareOut_l41]
    refine Ok_i (fun g_1 => ?_) (fun _ => ?_)
    · exact Ok_m (aX11_shareOut_l94  _ _ _ _ _ _ _ (Cin.mo (L := [(105, 106)]) (M := [(105, 106)]) rfl hs_x4) (Cin.mo (L := [(106, 107), (112, 113)]) (M := [(106, 107), (112, 113)]) rfl hs_x5)) (fun _ hr => (Ag.tr (Ag.rf (f := J)) (Ag.mo rfl hr)))
    · refine Ok_bc (fun a17 e_2 => ?_)
      refine Ok_g (fun g_3 => ?_)
      refine Ok_g (fun g_4 => ?_)
      refine Ok_g (fun g_5 => ?_)
      refine Ok_bc (fun a21 e_6 => ?_)
      refine Ok_g (fun g_7 => ?_)
      refine Ok_g (fun g_8 => ?_)
      refine Ok_bc (fun a25 e_10 => ?_)
      refine Ok_g (fun g_11 => ?_)
      refine Ok_g (fun g_12 => ?_)
      exact Ok_m (ih _ _ _ _ _ _ _ _ _ (Cin.mo (L := [(105, 106)]) (M := [(105, 106)]) rfl hs_x4) (Cin.mo (L := [(106, 107), (112, 113)]) (M := [(106, 107), (112, 113)]) rfl hs_x5)) (fun _ hr => (Ag.tr (Ag.st (Ag.st (Ag.rf (f := J)) (keyo (L := [(105, 106)]) (M := FwX11_shareOut_l41) rfl rfl (inW_mo (L := [(105, 106)]) (M := [(105, 106)]) rfl (Cin.get hs_x4 e_6)))) (keyo (L := [(106, 107), (112, 113)]) (M := FwX11_shareOut_l41) rfl rfl (inW_mo (L := [(106, 107), (112, 113)]) (M := [(106, 107), (112, 113)]) rfl (Cin.get hs_x5 e_10)))) (Ag.mo rfl hr)))
theorem aX11_shareOut_l6 {σ : Shp} : ∀ (n : Nat) (J : Nat → Nat → Int64) (x0 : Int64) (x2 : Option Nat) (x3 : Int32) (x4 : Option Nat) (x5 : Option Nat) (x6 : Int64) (x8 : Int32) (hs_x4 : Cin [(105, 106)] x4) (hs_x5 : Cin [(106, 107), (112, 113)] x5), Ok (gX11_shareOut_l6 σ n J x0 x2 x3 x4 x5 x6 x8) (fun r => Ag FwX11_shareOut_l6 J r) := by
  intro n
  induction n with
  | zero => intro J x0 x2 x3 x4 x5 x6 x8 hs_x4 hs_x5; exact Ok_e rfl
  | succ n ih =>
    intro J x0 x2 x3 x4 x5 x6 x8 hs_x4 hs_x5
    rw [gX11_shareOut_l6]
    refine Ok_i (fun g_1 => ?_) (fun _ => ?_)
    · refine Ok_i (fun g_2 => ?_) (fun _ => ?_)
      · exact Ok_m (aX11_shareOut_l41  _ _ _ _ _ _ _ _ _ _ (Cin.mo (L := [(105, 106)]) (M := [(105, 106)]) rfl hs_x4) (Cin.mo (L := [(106, 107), (112, 113)]) (M := [(106, 107), (112, 113)]) rfl hs_x5)) (fun _ hr => (Ag.tr (Ag.rf (f := J)) (Ag.mo rfl hr)))
      · exact Ok_s (Ag.rf (f := J))
    · refine Ok_bc (fun a31 e_3 => ?_)
      refine Ok_g (fun g_4 => ?_)
      refine Ok_g (fun g_5 => ?_)
      exact Ok_m (ih _ _ _ _ _ _ _ _ (Cin.mo (L := [(105, 106)]) (M := [(105, 106)]) rfl hs_x4) (Cin.mo (L := [(106, 107), (112, 113)]) (M := [(106, 107), (112, 113)]) rfl hs_x5)) (fun _ hr => (Ag.tr (Ag.rf (f := J)) (Ag.mo rfl hr)))
theorem aX11_shareOut {σ : Shp} {J : Nat → Nat → Int64} {x0 : Int64} {x2 : Option Nat} {x3 : Int32} {x4 : Option Nat} {x5 : Option Nat} (hs_x4 : Cin [(105, 106)] x4) (hs_x5 : Cin [(106, 107), (112, 113)] x5) : Ok (gX11_shareOut σ J x0 x2 x3 x4 x5) (fun r => Ag FwX11_shareOut J r) := by
  unfold gX11_shareOut
  exact Ok_m (aX11_shareOut_l6  _ _ _ _ _ _ _ _ _ (Cin.mo (L := [(105, 106)]) (M := [(105, 106)]) rfl hs_x4) (Cin.mo (L := [(106, 107), (112, 113)]) (M := [(106, 107), (112, 113)]) rfl hs_x5)) (fun _ hr => (Ag.tr (Ag.rf (f := J)) (Ag.mo rfl hr)))
theorem aX5_dayOf_l179 {σ : Shp} {I : Nat → Nat → Int32} {R : Nat → Nat → Option Nat} : ∀ (n : Nat) (J : Nat → Nat → Int64) (x1 : Int32) (x2 : Int32), Ok (gX5_dayOf_l179 σ I R n J x1 x2) (fun r => Ag FwX5_dayOf_l179 J r) := by
  intro n
  induction n with
  | zero => intro J x1 x2; exact Ok_e rfl
  | succ n ih =>
    intro J x1 x2
    rw [gX5_dayOf_l179]
    refine Ok_i (fun g_1 => ?_) (fun _ => ?_)
    · exact Ok_s (Ag.rf (f := J))
    · refine Ok_g (fun g_2 => ?_)
      refine Ok_g (fun g_3 => ?_)
      refine Ok_g (fun g_4 => ?_)
      exact Ok_m (ih _ _ _) (fun _ hr => (Ag.tr (Ag.st (Ag.rf (f := J)) (keyo (L := [(93, 95)]) (M := FwX5_dayOf_l179) rfl rfl (inW_r (L := [(93, 95)]) (lo := 93) (n := 2) rfl (rowi g_2)))) (Ag.mo rfl hr)))
theorem aX5_dayOf_l50 {σ : Shp} {I : Nat → Nat → Int32} {R : Nat → Nat → Option Nat} : ∀ (n : Nat) (J : Nat → Nat → Int64) (x1 : Int32) (x2 : Int32), Ok (gX5_dayOf_l50 σ I R n J x1 x2) (fun r => Ag FwX5_dayOf_l50 J r) := by
  intro n
  induction n with
  | zero => intro J x1 x2; exact Ok_e rfl
  | succ n ih =>
    intro J x1 x2
    rw [gX5_dayOf_l50]
    refine Ok_i (fun g_1 => ?_) (fun _ => ?_)
    · exact Ok_m (aX5_dayOf_l179  _ _ _ _) (fun _ hr => (Ag.tr (Ag.rf (f := J)) (Ag.mo rfl hr)))
    · refine Ok_g (fun g_2 => ?_)
      refine Ok_g (fun g_3 => ?_)
      refine Ok_g (fun g_4 => ?_)
      refine Ok_g (fun g_6 => ?_)
      refine Ok_g (fun g_7 => ?_)
      refine Ok_g (fun g_8 => ?_)
      refine Ok_g (fun g_10 => ?_)
      refine Ok_g (fun g_12 => ?_)
      refine Ok_g (fun g_13 => ?_)
      refine Ok_b (aX11_shareOut ⟨_, rfl, (show inW [(105, 106)] 105 = true from rfl)⟩ ⟨_, rfl, (show inW [(106, 107), (112, 113)] 106 = true from rfl)⟩) ?_
      intro J24 hr
      have h_14 := hr
      have m_15 : Ag FwX5_dayOf_l50 J J24 := Ag.tr (Ag.st (Ag.st (Ag.st (Ag.rf (f := J)) (keyo (L := [(104, 105)]) (M := FwX5_dayOf_l50) rfl rfl (show inW [(104, 105)] 104 = true from rfl))) (keyo (L := [(104, 105)]) (M := FwX5_dayOf_l50) rfl rfl (show inW [(104, 105)] 104 = true from rfl))) (keyo (L := [(104, 105)]) (M := FwX5_dayOf_l50) rfl rfl (show inW [(104, 105)] 104 = true from rfl))) (Ag.mo rfl h_14)
      refine Ok_i (fun g_16 => ?_) (fun _ => ?_)
      · refine Ok_g (fun g_17 => ?_)
        refine Ok_g (fun g_18 => ?_)
        exact Ok_m (ih _ _ _) (fun _ hr => (Ag.tr (Ag.st m_15 (keyo (L := [(107, 108)]) (M := FwX5_dayOf_l50) rfl rfl (show inW [(107, 108)] 107 = true from rfl))) (Ag.mo rfl hr)))
      · refine Ok_g (fun g_20 => ?_)
        refine Ok_g (fun g_21 => ?_)
        refine Ok_g (fun g_23 => ?_)
        refine Ok_g (fun g_24 => ?_)
        exact Ok_m (ih _ _ _) (fun _ hr => (Ag.tr (Ag.st (Ag.st m_15 (keyo (L := [(107, 108)]) (M := FwX5_dayOf_l50) rfl rfl (show inW [(107, 108)] 107 = true from rfl))) (keyo (L := [(107, 108)]) (M := FwX5_dayOf_l50) rfl rfl (show inW [(107, 108)] 107 = true from rfl))) (Ag.mo rfl hr)))
theorem aX5_dayOf_l30 {σ : Shp} {I : Nat → Nat → Int32} {R : Nat → Nat → Option Nat} : ∀ (n : Nat) (J : Nat → Nat → Int64) (x1 : Int32) (x2 : Int32), Ok (gX5_dayOf_l30 σ I R n J x1 x2) (fun r => Ag FwX5_dayOf_l30 J r) := by
  intro n
  induction n with
  | zero => intro J x1 x2; exact Ok_e rfl
  | succ n ih =>
    intro J x1 x2
    rw [gX5_dayOf_l30]
    refine Ok_i (fun g_1 => ?_) (fun _ => ?_)
    · exact Ok_m (aX5_dayOf_l50  _ _ _ _) (fun _ hr => (Ag.tr (Ag.rf (f := J)) (Ag.mo rfl hr)))
    · refine Ok_g (fun g_2 => ?_)
      exact Ok_m (ih _ _ _) (fun _ hr => (Ag.tr (Ag.st (Ag.rf (f := J)) (keyo (L := [(107, 108)]) (M := FwX5_dayOf_l30) rfl rfl (show inW [(107, 108)] 107 = true from rfl))) (Ag.mo rfl hr)))
theorem aX5_dayOf {σ : Shp} {I : Nat → Nat → Int32} {J : Nat → Nat → Int64} {R : Nat → Nat → Option Nat} {x1 : Int32} : Ok (gX5_dayOf σ I J R x1) (fun r => Ag FwX5_dayOf J r) := by
  unfold gX5_dayOf
  refine Ok_g (fun g_1 => ?_)
  refine Ok_g (fun g_2 => ?_)
  refine Ok_g (fun g_3 => ?_)
  refine Ok_g (fun g_4 => ?_)
  refine Ok_g (fun g_5 => ?_)
  exact Ok_m (aX5_dayOf_l30  _ _ _ _) (fun _ hr => (Ag.tr (Ag.st (Ag.rf (f := J)) (keyo (L := [(107, 108)]) (M := FwX5_dayOf) rfl rfl (show inW [(107, 108)] 107 = true from rfl))) (Ag.mo rfl hr)))
theorem aX5_passDay_l2 {σ : Shp} {R : Nat → Nat → Option Nat} : ∀ (n : Nat) (I : Nat → Nat → Int32) (J : Nat → Nat → Int64) (x1 : Int32), Ok (gX5_passDay_l2 σ R n I J x1) (fun r => Ag FwX5_passDay_l2 I r.1 ∧ Ag FwX5_passDay_l2 J r.2) := by
  intro n
  induction n with
  | zero => intro I J x1; exact Ok_e rfl
  | succ n ih =>
    intro I J x1
    rw [gX5_passDay_l2]
    refine Ok_i (fun g_1 => ?_) (fun _ => ?_)
    · refine Ok_i (fun g_3 => ?_) (fun _ => ?_)
      · exact Ok_s ⟨(Ag.st (Ag.rf (f := I)) (keyo (L := [(91, 92)]) (M := FwX5_passDay_l2) rfl rfl (show inW [(91, 92)] 91 = true from rfl))), (Ag.rf (f := J))⟩
      · exact Ok_s ⟨(Ag.st (Ag.st (Ag.rf (f := I)) (keyo (L := [(91, 92)]) (M := FwX5_passDay_l2) rfl rfl (show inW [(91, 92)] 91 = true from rfl))) (keyo (L := [(91, 92)]) (M := FwX5_passDay_l2) rfl rfl (show inW [(91, 92)] 91 = true from rfl))), (Ag.rf (f := J))⟩
    · refine Ok_b (aX5_dayOf) ?_
      intro J3 hr
      have h_5 := hr
      have m_6 : Ag FwX5_passDay_l2 J J3 := Ag.tr (Ag.rf (f := J)) (Ag.mo rfl h_5)
      exact Ok_m (ih _ _ _) (fun _ ⟨h0, h1⟩ => ⟨(Ag.tr (Ag.rf (f := I)) (Ag.mo rfl h0)), (Ag.tr m_6 (Ag.mo rfl h1))⟩)
theorem aX5_passDay {σ : Shp} {I : Nat → Nat → Int32} {J : Nat → Nat → Int64} {R : Nat → Nat → Option Nat} : Ok (gX5_passDay σ I J R) (fun r => Ag FwX5_passDay I r.1 ∧ Ag FwX5_passDay J r.2) := by
  unfold gX5_passDay
  exact Ok_m (aX5_passDay_l2  _ _ _ _) (fun _ ⟨h0, h1⟩ => ⟨(Ag.tr (Ag.rf (f := I)) (Ag.mo rfl h0)), (Ag.tr (Ag.rf (f := J)) (Ag.mo rfl h1))⟩)
theorem aX6_added {I : Nat → Nat → Int32} {x1 : Int32} {x2 : Int32} {x3 : Int32} {x4 : Int32} {x5 : Int32} : Ok (gX6_added I x1 x2 x3 x4 x5) (fun r => Ag FwX6_added I r.1) := by
  unfold gX6_added
  refine Ok_g (fun g_1 => ?_)
  refine Ok_i (fun g_2 => ?_) (fun _ => ?_)
  · refine Ok_g (fun g_3 => ?_)
    refine Ok_g (fun g_5 => ?_)
    refine Ok_g (fun g_7 => ?_)
    refine Ok_g (fun g_9 => ?_)
    exact Ok_s (Ag.st (Ag.st (Ag.st (Ag.st (Ag.st (Ag.rf (f := I)) (keyo (L := [(11, 12)]) (M := FwX6_added) rfl rfl (show inW [(11, 12)] 11 = true from rfl))) (keyo (L := [(12, 13)]) (M := FwX6_added) rfl rfl (show inW [(12, 13)] 12 = true from rfl))) (keyo (L := [(13, 14)]) (M := FwX6_added) rfl rfl (show inW [(13, 14)] 13 = true from rfl))) (keyo (L := [(14, 15)]) (M := FwX6_added) rfl rfl (show inW [(14, 15)] 14 = true from rfl))) (keyo (L := [(10, 11)]) (M := FwX6_added) rfl rfl (show inW [(10, 11)] 10 = true from rfl)))
  · exact Ok_s (Ag.rf (f := I))
theorem aX6_emptied {I : Nat → Nat → Int32} {x1 : Int32} : Ok (gX6_emptied I x1) (fun r => Ag FwX6_emptied I r.1) := by
  unfold gX6_emptied
  refine Ok_g (fun g_1 => ?_)
  exact Ok_s (Ag.st (Ag.rf (f := I)) (keyo (L := [(10, 11)]) (M := FwX6_emptied) rfl rfl (show inW [(10, 11)] 10 = true from rfl)))
theorem aX6_firstWrong_b53 {q7 : (Nat → Nat → Int32) → (Int32) → (Int32) → (Int32) → (Int32) → (Option ((Nat → Nat → Int32) × (Int32)))} {σ : Shp} {R : Nat → Nat → Option Nat} {I : Nat → Nat → Int32} {x1 : Int32} {x2 : Int32} {x4 : Int32} {x5 : Int32} (hq7 : ∀ (I : Nat → Nat → Int32) (x1 : Int32) (x2 : Int32) (x3 : Int32) (x4 : Int32), Ok (q7 I x1 x2 x3 x4) (fun r => Ag FwX6_firstWrong_l7 I r.1)) : Ok (gX6_firstWrong_b53 q7 σ R I x1 x2 x4 x5) (fun r => Ag FwX6_firstWrong_b53 I r.1) := by
  unfold gX6_firstWrong_b53
  refine Ok_i (fun g_1 => ?_) (fun _ => ?_)
  · refine Ok_i (fun g_2 => ?_) (fun _ => ?_)
    · exact Ok_s (Ag.rf (f := I))
    · refine Ok_g (fun g_3 => ?_)
      refine Ok_g (fun g_4 => ?_)
      refine Ok_g (fun g_6 => ?_)
      refine Ok_i (fun g_7 => ?_) (fun _ => ?_)
      · exact Ok_m (hq7 _ _ _ _ _) (fun _ hr => (Ag.tr (Ag.st (Ag.rf (f := I)) (keyo (L := [(15, 16)]) (M := FwX6_firstWrong_b53) rfl rfl (show inW [(15, 16)] 15 = true from rfl))) (Ag.mo rfl hr)))
      · refine Ok_i (fun g_8 => ?_) (fun _ => ?_)
        · exact Ok_m (hq7 _ _ _ _ _) (fun _ hr => (Ag.tr (Ag.st (Ag.rf (f := I)) (keyo (L := [(15, 16)]) (M := FwX6_firstWrong_b53) rfl rfl (show inW [(15, 16)] 15 = true from rfl))) (Ag.mo rfl hr)))
        · exact Ok_m (hq7 _ _ _ _ _) (fun _ hr => (Ag.tr (Ag.st (Ag.rf (f := I)) (keyo (L := [(15, 16)]) (M := FwX6_firstWrong_b53) rfl rfl (show inW [(15, 16)] 15 = true from rfl))) (Ag.mo rfl hr)))
  · refine Ok_i (fun g_9 => ?_) (fun _ => ?_)
    · exact Ok_m (hq7 _ _ _ _ _) (fun _ hr => (Ag.tr (Ag.rf (f := I)) (Ag.mo rfl hr)))
    · refine Ok_g (fun g_10 => ?_)
      exact Ok_m (hq7 _ _ _ _ _) (fun _ hr => (Ag.tr (Ag.st (Ag.rf (f := I)) (keyo (L := [(16, 17)]) (M := FwX6_firstWrong_b53) rfl rfl (show inW [(16, 17)] 16 = true from rfl))) (Ag.mo rfl hr)))
theorem aX6_firstWrong_l7 {σ : Shp} {R : Nat → Nat → Option Nat} : ∀ (n : Nat) (I : Nat → Nat → Int32) (x1 : Int32) (x2 : Int32) (x3 : Int32) (x4 : Int32), Ok (gX6_firstWrong_l7 σ R n I x1 x2 x3 x4) (fun r => Ag FwX6_firstWrong_l7 I r.1) := by
  intro n
  induction n with
  | zero => intro I x1 x2 x3 x4; exact Ok_e rfl
  | succ n ih =>
    intro I x1 x2 x3 x4
    rw [gX6_firstWrong_l7]
    refine Ok_g (fun g_1 => ?_)
    refine Ok_i (fun g_2 => ?_) (fun _ => ?_)
    · refine Ok_i (fun g_3 => ?_) (fun _ => ?_)
      · exact Ok_s (Ag.rf (f := I))
      · exact Ok_s (Ag.rf (f := I))
    · refine Ok_g (fun g_4 => ?_)
      refine Ok_i (fun g_5 => ?_) (fun _ => ?_)
      · refine Ok_i (fun g_6 => ?_) (fun _ => ?_)
        · exact Ok_s (Ag.rf (f := I))
        · exact Ok_m (aX6_firstWrong_b53 ih) (fun _ hr => (Ag.tr (Ag.rf (f := I)) (Ag.mo rfl hr)))
      · refine Ok_i (fun g_7 => ?_) (fun _ => ?_)
        · refine Ok_i (fun g_8 => ?_) (fun _ => ?_)
          · exact Ok_s (Ag.rf (f := I))
          · exact Ok_m (aX6_firstWrong_b53 ih) (fun _ hr => (Ag.tr (Ag.rf (f := I)) (Ag.mo rfl hr)))
        · exact Ok_m (aX6_firstWrong_b53 ih) (fun _ hr => (Ag.tr (Ag.rf (f := I)) (Ag.mo rfl hr)))
theorem aX6_firstWrong {σ : Shp} {I : Nat → Nat → Int32} {R : Nat → Nat → Option Nat} {x1 : Int32} : Ok (gX6_firstWrong σ I R x1) (fun r => Ag FwX6_firstWrong I r.1) := by
  unfold gX6_firstWrong
  exact Ok_m (aX6_firstWrong_l7  _ _ _ _ _ _) (fun _ hr => (Ag.tr (Ag.rf (f := I)) (Ag.mo rfl hr)))
theorem aX7_counted {I : Nat → Nat → Int32} : Ok (gX7_counted I) (fun r => Ag FwX7_counted I r.1) := by
  unfold gX7_counted
  refine Ok_i (fun g_1 => ?_) (fun _ => ?_)
  · exact Ok_s (Ag.st (Ag.rf (f := I)) (keyo (L := [(5, 6)]) (M := FwX7_counted) rfl rfl (show inW [(5, 6)] 5 = true from rfl)))
  · refine Ok_g (fun g_3 => ?_)
    exact Ok_s (Ag.st (Ag.rf (f := I)) (keyo (L := [(25, 26)]) (M := FwX7_counted) rfl rfl (show inW [(25, 26)] 25 = true from rfl)))
theorem aX7_settleLast_l11 {σ : Shp} {R : Nat → Nat → Option Nat} : ∀ (n : Nat) (I : Nat → Nat → Int32) (x1 : Option Nat) (x2 : Int32), Ok (gX7_settleLast_l11 σ R n I x1 x2) (fun r => Ag FwX7_settleLast_l11 I r) := by
  intro n
  induction n with
  | zero => intro I x1 x2; exact Ok_e rfl
  | succ n ih =>
    intro I x1 x2
    rw [gX7_settleLast_l11]
    refine Ok_i (fun g_1 => ?_) (fun _ => ?_)
    · exact Ok_s (Ag.rf (f := I))
    · refine Ok_bc (fun a10 e_2 => ?_)
      refine Ok_g (fun g_3 => ?_)
      refine Ok_bc (fun a12 e_4 => ?_)
      refine Ok_g (fun g_5 => ?_)
      refine Ok_g (fun g_6 => ?_)
      refine Ok_g (fun g_7 => ?_)
      exact Ok_m (ih _ _ _) (fun _ hr => (Ag.tr (Ag.st (Ag.rf (f := I)) (keyo (L := [(25, 26)]) (M := FwX7_settleLast_l11) rfl rfl (show inW [(25, 26)] 25 = true from rfl))) (Ag.mo rfl hr)))
theorem aX7_settleLast {σ : Shp} {I : Nat → Nat → Int32} {R : Nat → Nat → Option Nat} {x1 : Option Nat} : Ok (gX7_settleLast σ I R x1) (fun r => Ag FwX7_settleLast I r) := by
  unfold gX7_settleLast
  refine Ok_g (fun g_1 => ?_)
  refine Ok_i (fun g_2 => ?_) (fun _ => ?_)
  · exact Ok_m (aX7_settleLast_l11  _ _ _ _) (fun _ hr => (Ag.tr (Ag.rf (f := I)) (Ag.mo rfl hr)))
  · refine Ok_i (fun g_3 => ?_) (fun _ => ?_)
    · refine Ok_bc (fun a2 e_4 => ?_)
      refine Ok_g (fun g_5 => ?_)
      refine Ok_bc (fun a4 e_6 => ?_)
      refine Ok_g (fun g_7 => ?_)
      refine Ok_g (fun g_8 => ?_)
      refine Ok_i (fun g_9 => ?_) (fun _ => ?_)
      · refine Ok_g (fun g_10 => ?_)
        refine Ok_g (fun g_11 => ?_)
        exact Ok_s (Ag.st (Ag.rf (f := I)) (keyo (L := [(25, 26)]) (M := FwX7_settleLast) rfl rfl (show inW [(25, 26)] 25 = true from rfl)))
      · exact Ok_s (Ag.rf (f := I))
    · exact Ok_s (Ag.rf (f := I))
theorem aX8_noteChange {σ : Shp} {I : Nat → Nat → Int32} {J : Nat → Nat → Int64} {R : Nat → Nat → Option Nat} {x1 : Option Nat} {x2 : Int32} {x3 : Int64} : Ok (gX8_noteChange σ I J R x1 x2 x3) (fun r => Ag FwX8_noteChange I r.1 ∧ Ag FwX8_noteChange J r.2.1 ∧ Ag FwX8_noteChange R r.2.2) := by
  unfold gX8_noteChange
  refine Ok_i (fun g_1 => ?_) (fun _ => ?_)
  · exact Ok_s ⟨(Ag.rf (f := I)), (Ag.rf (f := J)), (Ag.rf (f := R))⟩
  · refine Ok_g (fun g_2 => ?_)
    refine Ok_g (fun g_3 => ?_)
    refine Ok_g (fun g_5 => ?_)
    refine Ok_g (fun g_7 => ?_)
    exact Ok_s ⟨(Ag.st (Ag.st (Ag.rf (f := I)) (keyo (L := [(22, 23)]) (M := FwX8_noteChange) rfl rfl (show inW [(22, 23)] 22 = true from rfl))) (keyo (L := [(17, 18)]) (M := FwX8_noteChange) rfl rfl (show inW [(17, 18)] 17 = true from rfl))), (Ag.st (Ag.rf (f := J)) (keyo (L := [(23, 24)]) (M := FwX8_noteChange) rfl rfl (show inW [(23, 24)] 23 = true from rfl))), (Ag.st (Ag.rf (f := R)) (keyo (L := [(21, 22)]) (M := FwX8_noteChange) rfl rfl (show inW [(21, 22)] 21 = true from rfl)))⟩
theorem aX8_changeStock {σ : Shp} {I : Nat → Nat → Int32} {J : Nat → Nat → Int64} {R : Nat → Nat → Option Nat} {x1 : Int32} {x2 : Int64} : Ok (gX8_changeStock σ I J R x1 x2) (fun r => Ag FwX8_changeStock I r.1 ∧ Ag FwX8_changeStock J r.2.1 ∧ Ag FwX8_changeStock R r.2.2) := by
  unfold gX8_changeStock
  refine Ok_i (fun g_1 => ?_) (fun _ => ?_)
  · exact Ok_s ⟨(Ag.rf (f := I)), (Ag.rf (f := J)), (Ag.rf (f := R))⟩
  · refine Ok_i (fun g_2 => ?_) (fun _ => ?_)
    · refine Ok_g (fun g_3 => ?_)
      refine Ok_b (aX8_noteChange) ?_
      intro rr hr
      obtain ⟨I2, J3, R4⟩ := rr
      obtain ⟨h_4, h_5, h_6⟩ := hr
      have m_7 : Ag FwX8_changeStock I I2 := Ag.tr (Ag.rf (f := I)) (Ag.mo rfl h_4)
      have m_8 : Ag FwX8_changeStock J J3 := Ag.tr (Ag.rf (f := J)) (Ag.mo rfl h_5)
      have m_9 : Ag FwX8_changeStock R R4 := Ag.tr (Ag.rf (f := R)) (Ag.mo rfl h_6)
      exact Ok_s ⟨m_7, (Ag.st m_8 (keyo (L := [(18, 19)]) (M := FwX8_changeStock) rfl rfl (show inW [(18, 19)] 18 = true from rfl))), m_9⟩
    · exact Ok_s ⟨(Ag.rf (f := I)), (Ag.rf (f := J)), (Ag.rf (f := R))⟩
theorem aX7_arise {I : Nat → Nat → Int32} {x1 : Int32} {x2 : Int32} : Ok (gX7_arise I x1 x2) (fun r => Ag FwX7_arise I r) := by
  unfold gX7_arise
  refine Ok_g (fun g_2 => ?_)
  refine Ok_g (fun g_4 => ?_)
  refine Ok_g (fun g_6 => ?_)
  refine Ok_g (fun g_8 => ?_)
  refine Ok_g (fun g_10 => ?_)
  exact Ok_s (Ag.st (Ag.st (Ag.st (Ag.st (Ag.st (Ag.st (Ag.rf (f := I)) (keyo (L := [(5, 6)]) (M := FwX7_arise) rfl rfl (show inW [(5, 6)] 5 = true from rfl))) (keyo (L := [(25, 26)]) (M := FwX7_arise) rfl rfl (show inW [(25, 26)] 25 = true from rfl))) (keyo (L := [(25, 26)]) (M := FwX7_arise) rfl rfl (show inW [(25, 26)] 25 = true from rfl))) (keyo (L := [(25, 26)]) (M := FwX7_arise) rfl rfl (show inW [(25, 26)] 25 = true from rfl))) (keyo (L := [(25, 26)]) (M := FwX7_arise) rfl rfl (show inW [(25, 26)] 25 = true from rfl))) (keyo (L := [(25, 26)]) (M := FwX7_arise) rfl rfl (show inW [(25, 26)] 25 = true from rfl)))
theorem aX7_askPlant {σ : Shp} {I : Nat → Nat → Int32} {J : Nat → Nat → Int64} {R : Nat → Nat → Option Nat} {x1 : Int32} {x2 : Int32} {x3 : Int32} : Ok (gX7_askPlant σ I J R x1 x2 x3) (fun r => Ag FwX7_askPlant I r.1 ∧ Ag FwX7_askPlant J r.2.1 ∧ Ag FwX7_askPlant R r.2.2) := by
  unfold gX7_askPlant
  refine Ok_i (fun g_1 => ?_) (fun _ => ?_)
  · refine Ok_b (aX7_arise) ?_
    intro I1 hr
    have h_2 := hr
    have m_3 : Ag FwX7_askPlant I I1 := Ag.tr (Ag.rf (f := I)) (Ag.mo rfl h_2)
    exact Ok_s ⟨m_3, (Ag.rf (f := J)), (Ag.rf (f := R))⟩
  · refine Ok_i (fun g_4 => ?_) (fun _ => ?_)
    · refine Ok_b (aX7_arise) ?_
      intro I3 hr
      have h_5 := hr
      have m_6 : Ag FwX7_askPlant I I3 := Ag.tr (Ag.rf (f := I)) (Ag.mo rfl h_5)
      exact Ok_s ⟨m_6, (Ag.rf (f := J)), (Ag.rf (f := R))⟩
    · refine Ok_i (fun g_7 => ?_) (fun _ => ?_)
      · refine Ok_b (aX7_arise) ?_
        intro I17 hr
        have h_8 := hr
        have m_9 : Ag FwX7_askPlant I I17 := Ag.tr (Ag.rf (f := I)) (Ag.mo rfl h_8)
        exact Ok_s ⟨m_9, (Ag.rf (f := J)), (Ag.rf (f := R))⟩
      · refine Ok_b (aX0_beginAsk) ?_
        intro I5 hr
        have h_10 := hr
        have m_11 : Ag FwX7_askPlant I I5 := Ag.tr (Ag.rf (f := I)) (Ag.mo rfl h_10)
        refine Ok_g (fun g_12 => ?_)
        refine Ok_b (aX0_tell) ?_
        intro rr hr
        obtain ⟨I8, r9⟩ := rr
        have h_13 := hr
        have m_14 : Ag FwX7_askPlant I I8 := Ag.tr m_11 (Ag.mo rfl h_13)
        refine Ok_i (fun g_15 => ?_) (fun _ => ?_)
        · refine Ok_b (aX8_changeStock) ?_
          intro rr hr
          obtain ⟨I11, J12, R13⟩ := rr
          obtain ⟨h_16, h_17, h_18⟩ := hr
          have m_19 : Ag FwX7_askPlant I I11 := Ag.tr m_14 (Ag.mo rfl h_16)
          have m_20 : Ag FwX7_askPlant J J12 := Ag.tr (Ag.rf (f := J)) (Ag.mo rfl h_17)
          have m_21 : Ag FwX7_askPlant R R13 := Ag.tr (Ag.rf (f := R)) (Ag.mo rfl h_18)
          exact Ok_s ⟨m_19, m_20, m_21⟩
        · refine Ok_b (aX7_arise) ?_
          intro I15 hr
          have h_22 := hr
          have m_23 : Ag FwX7_askPlant I I15 := Ag.tr m_14 (Ag.mo rfl h_22)
          exact Ok_s ⟨m_23, (Ag.rf (f := J)), (Ag.rf (f := R))⟩
theorem aX7_divideStock {σ : Shp} {I : Nat → Nat → Int32} {J : Nat → Nat → Int64} {R : Nat → Nat → Option Nat} {x1 : Int32} {x2 : Int32} : Ok (gX7_divideStock σ I J R x1 x2) (fun r => Ag FwX7_divideStock I r.1 ∧ Ag FwX7_divideStock J r.2.1 ∧ Ag FwX7_divideStock R r.2.2) := by
  unfold gX7_divideStock
  refine Ok_i (fun g_1 => ?_) (fun _ => ?_)
  · refine Ok_b (aX7_arise) ?_
    intro I7 hr
    have h_2 := hr
    have m_3 : Ag FwX7_divideStock I I7 := Ag.tr (Ag.rf (f := I)) (Ag.mo rfl h_2)
    exact Ok_s ⟨m_3, (Ag.rf (f := J)), (Ag.rf (f := R))⟩
  · refine Ok_g (fun g_4 => ?_)
    refine Ok_g (fun g_5 => ?_)
    refine Ok_b (aX8_changeStock) ?_
    intro rr hr
    obtain ⟨I3, J4, R5⟩ := rr
    obtain ⟨h_6, h_7, h_8⟩ := hr
    have m_9 : Ag FwX7_divideStock I I3 := Ag.tr (Ag.rf (f := I)) (Ag.mo rfl h_6)
    have m_10 : Ag FwX7_divideStock J J4 := Ag.tr (Ag.rf (f := J)) (Ag.mo rfl h_7)
    have m_11 : Ag FwX7_divideStock R R5 := Ag.tr (Ag.rf (f := R)) (Ag.mo rfl h_8)
    exact Ok_s ⟨m_9, m_10, m_11⟩
theorem aX7_readCell_b26 {σ : Shp} {I : Nat → Nat → Int32} {J : Nat → Nat → Int64} {R : Nat → Nat → Option Nat} {x2 : Int32} {x3 : Int32} {x4 : Option Nat} {s0 : Int32} : Ok (gX7_readCell_b26 σ I J R x2 x3 x4 s0) (fun r => Ag FwX7_readCell_b26 I r.1 ∧ Ag FwX7_readCell_b26 J r.2.1 ∧ Ag FwX7_readCell_b26 R r.2.2) := by
  unfold gX7_readCell_b26
  refine Ok_i (fun g_1 => ?_) (fun _ => ?_)
  · refine Ok_o (fun _ => ?_) (fun a5 e_2 => ?_)
    · refine Ok_b (aX7_arise) ?_
      intro I6 hr
      have h_3 := hr
      have m_4 : Ag FwX7_readCell_b26 I I6 := Ag.tr (Ag.rf (f := I)) (Ag.mo rfl h_3)
      exact Ok_s ⟨m_4, (Ag.rf (f := J)), (Ag.rf (f := R))⟩
    · refine Ok_g (fun g_5 => ?_)
      refine Ok_bc (fun a9 e_6 => ?_)
      refine Ok_g (fun g_7 => ?_)
      refine Ok_g (fun g_8 => ?_)
      refine Ok_b (aX8_changeStock) ?_
      intro rr hr
      obtain ⟨I12, J13, R14⟩ := rr
      obtain ⟨h_9, h_10, h_11⟩ := hr
      have m_12 : Ag FwX7_readCell_b26 I I12 := Ag.tr (Ag.rf (f := I)) (Ag.mo rfl h_9)
      have m_13 : Ag FwX7_readCell_b26 J J13 := Ag.tr (Ag.rf (f := J)) (Ag.mo rfl h_10)
      have m_14 : Ag FwX7_readCell_b26 R R14 := Ag.tr (Ag.rf (f := R)) (Ag.mo rfl h_11)
      exact Ok_s ⟨m_12, m_13, m_14⟩
  · refine Ok_b (aX7_arise) ?_
    intro I3 hr
    have h_15 := hr
    have m_16 : Ag FwX7_readCell_b26 I I3 := Ag.tr (Ag.rf (f := I)) (Ag.mo rfl h_15)
    exact Ok_s ⟨m_16, (Ag.rf (f := J)), (Ag.rf (f := R))⟩
theorem aX7_readCell {σ : Shp} {I : Nat → Nat → Int32} {J : Nat → Nat → Int64} {R : Nat → Nat → Option Nat} {x1 : Int32} {x2 : Int32} {x3 : Int32} : Ok (gX7_readCell σ I J R x1 x2 x3) (fun r => Ag FwX7_readCell I r.1 ∧ Ag FwX7_readCell J r.2.1 ∧ Ag FwX7_readCell R r.2.2) := by
  unfold gX7_readCell
  refine Ok_g (fun g_1 => ?_)
  refine Ok_i (fun g_2 => ?_) (fun _ => ?_)
  · exact Ok_m (aX7_readCell_b26) (fun _ ⟨h0, h1, h2⟩ => ⟨(Ag.tr (Ag.rf (f := I)) (Ag.mo rfl h0)), (Ag.tr (Ag.rf (f := J)) (Ag.mo rfl h1)), (Ag.tr (Ag.rf (f := R)) (Ag.mo rfl h2))⟩)
  · refine Ok_t ?_
    intro r16
    exact Ok_m (aX7_readCell_b26) (fun _ ⟨h0, h1, h2⟩ => ⟨(Ag.tr (Ag.rf (f := I)) (Ag.mo rfl h0)), (Ag.tr (Ag.rf (f := J)) (Ag.mo rfl h1)), (Ag.tr (Ag.rf (f := R)) (Ag.mo rfl h2))⟩)
theorem aX8_forgetChanges {I : Nat → Nat → Int32} : Ok (gX8_forgetChanges I) (fun r => Ag FwX8_forgetChanges I r) := by
  unfold gX8_forgetChanges
  exact Ok_s (Ag.st (Ag.rf (f := I)) (keyo (L := [(17, 18)]) (M := FwX8_forgetChanges) rfl rfl (show inW [(17, 18)] 17 = true from rfl)))
theorem aX9_lineAdded_b55 {σ : Shp} {R : Nat → Nat → Option Nat} {I : Nat → Nat → Int32} {x1 : Int32} {x2 : Int32} {x3 : Int32} {x4 : Int32} : Ok (gX9_lineAdded_b55 σ R I x1 x2 x3 x4) (fun r => Ag FwX9_lineAdded_b55 I r.1) := by
  unfold gX9_lineAdded_b55
  refine Ok_i (fun g_1 => ?_) (fun _ => ?_)
  · refine Ok_g (fun g_2 => ?_)
    refine Ok_g (fun g_3 => ?_)
    refine Ok_g (fun g_5 => ?_)
    refine Ok_g (fun g_6 => ?_)
    refine Ok_g (fun g_8 => ?_)
    exact Ok_s (Ag.st (Ag.st (Ag.st (Ag.rf (f := I)) (keyo (L := [(29, 32)]) (M := FwX9_lineAdded_b55) rfl rfl (inW_r (L := [(29, 32)]) (lo := 29) (n := 3) rfl (rowi g_2)))) (keyo (L := [(33, 36)]) (M := FwX9_lineAdded_b55) rfl rfl (inW_r (L := [(33, 36)]) (lo := 33) (n := 3) rfl (rowi g_2)))) (keyo (L := [(36, 37)]) (M := FwX9_lineAdded_b55) rfl rfl (show inW [(36, 37)] 36 = true from rfl)))
  · exact Ok_s (Ag.rf (f := I))
theorem aX9_lineAdded {σ : Shp} {I : Nat → Nat → Int32} {R : Nat → Nat → Option Nat} {x1 : Int32} {x2 : Int32} {x3 : Int32} : Ok (gX9_lineAdded σ I R x1 x2 x3) (fun r => Ag FwX9_lineAdded I r.1) := by
  unfold gX9_lineAdded
  refine Ok_g (fun g_1 => ?_)
  refine Ok_i (fun g_2 => ?_) (fun _ => ?_)
  · exact Ok_s (Ag.rf (f := I))
  · refine Ok_i (fun g_3 => ?_) (fun _ => ?_)
    · exact Ok_s (Ag.rf (f := I))
    · refine Ok_i (fun g_4 => ?_) (fun _ => ?_)
      · exact Ok_s (Ag.rf (f := I))
      · refine Ok_i (fun g_5 => ?_) (fun _ => ?_)
        · exact Ok_s (Ag.rf (f := I))
        · refine Ok_i (fun g_6 => ?_) (fun _ => ?_)
          · exact Ok_m (aX9_lineAdded_b55) (fun _ hr => (Ag.tr (Ag.rf (f := I)) (Ag.mo rfl hr)))
          · refine Ok_g (fun g_7 => ?_)
            refine Ok_g (fun g_8 => ?_)
            refine Ok_i (fun g_9 => ?_) (fun _ => ?_)
            · exact Ok_m (aX9_lineAdded_b55) (fun _ hr => (Ag.tr (Ag.rf (f := I)) (Ag.mo rfl hr)))
            · exact Ok_s (Ag.rf (f := I))
theorem aX9_rested {I : Nat → Nat → Int32} {x1 : Int32} {x2 : Int32} : Ok (gX9_rested I x1 x2) (fun r => Ag FwX9_rested I r.1) := by
  unfold gX9_rested
  refine Ok_g (fun g_1 => ?_)
  refine Ok_i (fun g_2 => ?_) (fun _ => ?_)
  · refine Ok_g (fun g_3 => ?_)
    exact Ok_s (Ag.st (Ag.rf (f := I)) (keyo (L := [(37, 38)]) (M := FwX9_rested) rfl rfl (show inW [(37, 38)] 37 = true from rfl)))
  · exact Ok_s (Ag.rf (f := I))
theorem aX11_fail {I : Nat → Nat → Int32} {x1 : Int32} : Ok (gX11_fail I x1) (fun r => Ag FwX11_fail I r.1) := by
  unfold gX11_fail
  exact Ok_s (Ag.st (Ag.st (Ag.rf (f := I)) (show inW FwX11_fail (key 4 13) = true from rfl)) (show inW FwX11_fail (key 4 14) = true from rfl))
theorem aX11_share_b22 {σ : Shp} {R : Nat → Nat → Option Nat} {x1 : Int32} {x2 : Int32} : Ok (gX11_share_b22 σ R x1 x2) (fun r => Ag FwX11_share_b22 R r.1) := by
  unfold gX11_share_b22
  refine Ok_i (fun g_1 => ?_) (fun _ => ?_)
  · refine Ok_g (fun g_2 => ?_)
    exact Ok_s (Ag.st (Ag.rf (f := R)) (keyo (L := [(6, 7)]) (M := FwX11_share_b22) rfl rfl (show inW [(6, 7)] 6 = true from rfl)))
  · refine Ok_g (fun g_4 => ?_)
    refine Ok_g (fun g_5 => ?_)
    refine Ok_g (fun g_6 => ?_)
    exact Ok_s (Ag.st (Ag.rf (f := R)) (keyo (L := [(6, 7)]) (M := FwX11_share_b22) rfl rfl (show inW [(6, 7)] 6 = true from rfl)))
theorem aX11_share {σ : Shp} {R : Nat → Nat → Option Nat} {x1 : Int32} {x2 : Int32} : Ok (gX11_share σ R x1 x2) (fun r => Ag FwX11_share R r.1) := by
  unfold gX11_share
  refine Ok_i (fun g_1 => ?_) (fun _ => ?_)
  · exact Ok_s (Ag.rf (f := R))
  · refine Ok_i (fun g_2 => ?_) (fun _ => ?_)
    · exact Ok_m (aX11_share_b22) (fun _ hr => (Ag.tr (Ag.rf (f := R)) (Ag.mo rfl hr)))
    · refine Ok_i (fun g_3 => ?_) (fun _ => ?_)
      · exact Ok_s (Ag.rf (f := R))
      · exact Ok_m (aX11_share_b22) (fun _ hr => (Ag.tr (Ag.rf (f := R)) (Ag.mo rfl hr)))
theorem aX11_get {σ : Shp} {I : Nat → Nat → Int32} {J : Nat → Nat → Int64} {R : Nat → Nat → Option Nat} {x1 : Int32} {x2 : Int32} {x3 : Int32} : Ok (gX11_get σ I J R x1 x2 x3) (fun r => Ag FwX11_get I r.1) := by
  unfold gX11_get
  refine Ok_i (fun g_1 => ?_) (fun _ => ?_)
  · exact Ok_s (Ag.rf (f := I))
  · refine Ok_i (fun g_2 => ?_) (fun _ => ?_)
    · exact Ok_s (Ag.rf (f := I))
    · refine Ok_g (fun g_3 => ?_)
      refine Ok_t ?_
      intro r3
      refine Ok_i (fun g_4 => ?_) (fun _ => ?_)
      · refine Ok_o (fun _ => ?_) (fun a8 e_5 => ?_)
        · refine Ok_b (aX11_fail) ?_
          intro rr hr
          obtain ⟨I9, r10⟩ := rr
          have h_6 := hr
          have m_7 : Ag FwX11_get I I9 := Ag.tr (Ag.rf (f := I)) (Ag.mo rfl h_6)
          exact Ok_s m_7
        · refine Ok_g (fun g_8 => ?_)
          refine Ok_bc (fun a13 e_9 => ?_)
          refine Ok_g (fun g_10 => ?_)
          refine Ok_g (fun g_11 => ?_)
          exact Ok_s (Ag.rf (f := I))
      · refine Ok_b (aX11_fail) ?_
        intro rr hr
        obtain ⟨I5, r6⟩ := rr
        have h_12 := hr
        have m_13 : Ag FwX11_get I I5 := Ag.tr (Ag.rf (f := I)) (Ag.mo rfl h_12)
        exact Ok_s m_13
theorem aX11_bed {σ : Shp} {I : Nat → Nat → Int32} {J : Nat → Nat → Int64} {R : Nat → Nat → Option Nat} {x1 : Int32} {x2 : Int32} {x3 : Int32} {x4 : Int32} : Ok (gX11_bed σ I J R x1 x2 x3 x4) (fun r => Ag FwX11_bed I r.1) := by
  unfold gX11_bed
  refine Ok_i (fun g_1 => ?_) (fun _ => ?_)
  · exact Ok_s (Ag.rf (f := I))
  · refine Ok_i (fun g_2 => ?_) (fun _ => ?_)
    · exact Ok_s (Ag.rf (f := I))
    · refine Ok_g (fun g_3 => ?_)
      refine Ok_t ?_
      intro r2
      refine Ok_t ?_
      intro r4
      refine Ok_i (fun g_4 => ?_) (fun _ => ?_)
      · refine Ok_o (fun _ => ?_) (fun a9 e_5 => ?_)
        · refine Ok_b (aX11_fail) ?_
          intro rr hr
          obtain ⟨I10, r11⟩ := rr
          have h_6 := hr
          have m_7 : Ag FwX11_bed I I10 := Ag.tr (Ag.rf (f := I)) (Ag.mo rfl h_6)
          exact Ok_s m_7
        · refine Ok_g (fun g_8 => ?_)
          refine Ok_bc (fun a14 e_9 => ?_)
          refine Ok_g (fun g_10 => ?_)
          refine Ok_g (fun g_11 => ?_)
          exact Ok_s (Ag.rf (f := I))
      · refine Ok_b (aX11_fail) ?_
        intro rr hr
        obtain ⟨I6, r7⟩ := rr
        have h_12 := hr
        have m_13 : Ag FwX11_bed I I6 := Ag.tr (Ag.rf (f := I)) (Ag.mo rfl h_12)
        exact Ok_s m_13
theorem aX11_lift {σ : Shp} {I : Nat → Nat → Int32} {R : Nat → Nat → Option Nat} {x1 : Int32} {x2 : Int32} {x3 : Int32} : Ok (gX11_lift σ I R x1 x2 x3) (fun r => Ag FwX11_lift I r.1 ∧ Ag FwX11_lift R r.2.1) := by
  unfold gX11_lift
  refine Ok_i (fun g_1 => ?_) (fun _ => ?_)
  · exact Ok_s ⟨(Ag.rf (f := I)), (Ag.rf (f := R))⟩
  · refine Ok_i (fun g_2 => ?_) (fun _ => ?_)
    · exact Ok_s ⟨(Ag.rf (f := I)), (Ag.rf (f := R))⟩
    · refine Ok_g (fun g_3 => ?_)
      refine Ok_t ?_
      intro r2
      refine Ok_i (fun g_4 => ?_) (fun _ => ?_)
      · refine Ok_t ?_
        intro r4
        refine Ok_g (fun g_5 => ?_)
        refine Ok_g (fun g_6 => ?_)
        exact Ok_s ⟨(Ag.rf (f := I)), (Ag.st (Ag.rf (f := R)) (keyo (L := [(6, 7)]) (M := FwX11_lift) rfl rfl (show inW [(6, 7)] 6 = true from rfl)))⟩
      · refine Ok_b (aX11_fail) ?_
        intro rr hr
        obtain ⟨I9, r10⟩ := rr
        have h_8 := hr
        have m_9 : Ag FwX11_lift I I9 := Ag.tr (Ag.rf (f := I)) (Ag.mo rfl h_8)
        exact Ok_s ⟨m_9, (Ag.rf (f := R))⟩
theorem aX11_liftAs {σ : Shp} {I : Nat → Nat → Int32} {R : Nat → Nat → Option Nat} {x1 : Int32} {x2 : Int32} {x3 : Int32} {x4 : Int32} : Ok (gX11_liftAs σ I R x1 x2 x3 x4) (fun r => Ag FwX11_liftAs I r.1 ∧ Ag FwX11_liftAs R r.2.1) := by
  unfold gX11_liftAs
  refine Ok_i (fun g_1 => ?_) (fun _ => ?_)
  · exact Ok_s ⟨(Ag.rf (f := I)), (Ag.rf (f := R))⟩
  · refine Ok_i (fun g_2 => ?_) (fun _ => ?_)
    · exact Ok_s ⟨(Ag.rf (f := I)), (Ag.rf (f := R))⟩
    · refine Ok_i (fun g_3 => ?_) (fun _ => ?_)
      · exact Ok_s ⟨(Ag.rf (f := I)), (Ag.rf (f := R))⟩
      · refine Ok_g (fun g_4 => ?_)
        refine Ok_t ?_
        intro r2
        refine Ok_i (fun g_5 => ?_) (fun _ => ?_)
        · refine Ok_t ?_
          intro r4
          refine Ok_t ?_
          intro r6
          refine Ok_i (fun g_6 => ?_) (fun _ => ?_)
          · refine Ok_b (aX11_fail) ?_
            intro rr hr
            obtain ⟨I11, r12⟩ := rr
            have h_7 := hr
            have m_8 : Ag FwX11_liftAs I I11 := Ag.tr (Ag.rf (f := I)) (Ag.mo rfl h_7)
            exact Ok_s ⟨m_8, (Ag.rf (f := R))⟩
          · refine Ok_g (fun g_9 => ?_)
            refine Ok_g (fun g_10 => ?_)
            exact Ok_s ⟨(Ag.rf (f := I)), (Ag.st (Ag.rf (f := R)) (keyo (L := [(6, 7)]) (M := FwX11_liftAs) rfl rfl (show inW [(6, 7)] 6 = true from rfl)))⟩
        · refine Ok_b (aX11_fail) ?_
          intro rr hr
          obtain ⟨I14, r15⟩ := rr
          have h_12 := hr
          have m_13 : Ag FwX11_liftAs I I14 := Ag.tr (Ag.rf (f := I)) (Ag.mo rfl h_12)
          exact Ok_s ⟨m_13, (Ag.rf (f := R))⟩
theorem aX11_size {σ : Shp} {I : Nat → Nat → Int32} {R : Nat → Nat → Option Nat} {x1 : Int32} {x2 : Int32} : Ok (gX11_size σ I R x1 x2) (fun r => Ag FwX11_size I r.1) := by
  unfold gX11_size
  refine Ok_i (fun g_1 => ?_) (fun _ => ?_)
  · exact Ok_s (Ag.rf (f := I))
  · refine Ok_i (fun g_2 => ?_) (fun _ => ?_)
    · exact Ok_s (Ag.rf (f := I))
    · refine Ok_i (fun g_3 => ?_) (fun _ => ?_)
      · refine Ok_g (fun g_4 => ?_)
        refine Ok_o (fun _ => ?_) (fun a3 e_5 => ?_)
        · refine Ok_b (aX11_fail) ?_
          intro rr hr
          obtain ⟨I4, r5⟩ := rr
          have h_6 := hr
          have m_7 : Ag FwX11_size I I4 := Ag.tr (Ag.rf (f := I)) (Ag.mo rfl h_6)
          exact Ok_s m_7
        · refine Ok_t ?_
          intro r7
          refine Ok_i (fun g_8 => ?_) (fun _ => ?_)
          · refine Ok_g (fun g_9 => ?_)
            refine Ok_i (fun g_10 => ?_) (fun _ => ?_)
            · refine Ok_b (aX11_fail) ?_
              intro rr hr
              obtain ⟨I20, r21⟩ := rr
              have h_11 := hr
              have m_12 : Ag FwX11_size I I20 := Ag.tr (Ag.rf (f := I)) (Ag.mo rfl h_11)
              exact Ok_s m_12
            · refine Ok_i (fun g_13 => ?_) (fun _ => ?_)
              · refine Ok_t ?_
                intro r18
                exact Ok_s (Ag.rf (f := I))
              · refine Ok_t ?_
                intro r16
                exact Ok_s (Ag.rf (f := I))
          · refine Ok_i (fun g_14 => ?_) (fun _ => ?_)
            · refine Ok_g (fun g_15 => ?_)
              refine Ok_t ?_
              intro r13
              exact Ok_s (Ag.rf (f := I))
            · refine Ok_g (fun g_16 => ?_)
              refine Ok_t ?_
              intro r10
              exact Ok_s (Ag.rf (f := I))
      · exact Ok_s (Ag.rf (f := I))
theorem aX11_ask {σ : Shp} {I : Nat → Nat → Int32} {R : Nat → Nat → Option Nat} {x1 : Int32} {x2 : Int32} : Ok (gX11_ask σ I R x1 x2) (fun r => Ag FwX11_ask I r.1) := by
  unfold gX11_ask
  refine Ok_i (fun g_1 => ?_) (fun _ => ?_)
  · exact Ok_s (Ag.rf (f := I))
  · refine Ok_i (fun g_2 => ?_) (fun _ => ?_)
    · exact Ok_s (Ag.rf (f := I))
    · refine Ok_i (fun g_3 => ?_) (fun _ => ?_)
      · refine Ok_b (aX0_beginAsk) ?_
        intro I1 hr
        have h_4 := hr
        have m_5 : Ag FwX11_ask I I1 := Ag.tr (Ag.rf (f := I)) (Ag.mo rfl h_4)
        refine Ok_g (fun g_6 => ?_)
        refine Ok_b (aX0_tell) ?_
        intro rr hr
        obtain ⟨I5, r6⟩ := rr
        have h_7 := hr
        have m_8 : Ag FwX11_ask I I5 := Ag.tr m_5 (Ag.mo rfl h_7)
        refine Ok_i (fun g_9 => ?_) (fun _ => ?_)
        · exact Ok_s (Ag.st m_8 (show inW FwX11_ask (key 4 18) = true from rfl))
        · refine Ok_b (aX11_fail) ?_
          intro rr hr
          obtain ⟨I9, r10⟩ := rr
          have h_11 := hr
          have m_12 : Ag FwX11_ask I I9 := Ag.tr m_8 (Ag.mo rfl h_11)
          exact Ok_s m_12
      · exact Ok_s (Ag.rf (f := I))
theorem aX11_field {σ : Shp} {I : Nat → Nat → Int32} {J : Nat → Nat → Int64} {R : Nat → Nat → Option Nat} {x1 : Int32} {x2 : Int32} : Ok (gX11_field σ I J R x1 x2) (fun r => Ag FwX11_field I r.1) := by
  unfold gX11_field
  refine Ok_i (fun g_1 => ?_) (fun _ => ?_)
  · exact Ok_s (Ag.rf (f := I))
  · refine Ok_i (fun g_2 => ?_) (fun _ => ?_)
    · exact Ok_s (Ag.rf (f := I))
    · refine Ok_g (fun g_3 => ?_)
      refine Ok_t ?_
      intro r3
      refine Ok_i (fun g_4 => ?_) (fun _ => ?_)
      · refine Ok_o (fun _ => ?_) (fun a8 e_5 => ?_)
        · refine Ok_b (aX11_fail) ?_
          intro rr hr
          obtain ⟨I9, r10⟩ := rr
          have h_6 := hr
          have m_7 : Ag FwX11_field I I9 := Ag.tr (Ag.rf (f := I)) (Ag.mo rfl h_6)
          exact Ok_s m_7
        · refine Ok_g (fun g_8 => ?_)
          refine Ok_bc (fun a13 e_9 => ?_)
          refine Ok_g (fun g_10 => ?_)
          refine Ok_g (fun g_11 => ?_)
          exact Ok_s (Ag.rf (f := I))
      · refine Ok_b (aX11_fail) ?_
        intro rr hr
        obtain ⟨I5, r6⟩ := rr
        have h_12 := hr
        have m_13 : Ag FwX11_field I I5 := Ag.tr (Ag.rf (f := I)) (Ag.mo rfl h_12)
        exact Ok_s m_13
theorem aX11_follow {σ : Shp} {I : Nat → Nat → Int32} {R : Nat → Nat → Option Nat} {x1 : Int32} {x2 : Int32} {x3 : Int32} : Ok (gX11_follow σ I R x1 x2 x3) (fun r => Ag FwX11_follow I r.1 ∧ Ag FwX11_follow R r.2.1) := by
  unfold gX11_follow
  refine Ok_i (fun g_1 => ?_) (fun _ => ?_)
  · exact Ok_s ⟨(Ag.rf (f := I)), (Ag.rf (f := R))⟩
  · refine Ok_i (fun g_2 => ?_) (fun _ => ?_)
    · exact Ok_s ⟨(Ag.rf (f := I)), (Ag.rf (f := R))⟩
    · refine Ok_i (fun g_3 => ?_) (fun _ => ?_)
      · exact Ok_s ⟨(Ag.rf (f := I)), (Ag.rf (f := R))⟩
      · refine Ok_i (fun g_4 => ?_) (fun _ => ?_)
        · refine Ok_g (fun g_5 => ?_)
          refine Ok_t ?_
          intro r3
          refine Ok_i (fun g_6 => ?_) (fun _ => ?_)
          · refine Ok_o (fun _ => ?_) (fun a8 e_7 => ?_)
            · refine Ok_b (aX11_fail) ?_
              intro rr hr
              obtain ⟨I9, r10⟩ := rr
              have h_8 := hr
              have m_9 : Ag FwX11_follow I I9 := Ag.tr (Ag.rf (f := I)) (Ag.mo rfl h_8)
              exact Ok_s ⟨m_9, (Ag.rf (f := R))⟩
            · refine Ok_g (fun g_10 => ?_)
              refine Ok_bc (fun a13 e_11 => ?_)
              refine Ok_g (fun g_12 => ?_)
              refine Ok_g (fun g_13 => ?_)
              refine Ok_g (fun g_14 => ?_)
              refine Ok_g (fun g_15 => ?_)
              exact Ok_s ⟨(Ag.rf (f := I)), (Ag.st (Ag.rf (f := R)) (keyo (L := [(6, 7)]) (M := FwX11_follow) rfl rfl (show inW [(6, 7)] 6 = true from rfl)))⟩
          · refine Ok_b (aX11_fail) ?_
            intro rr hr
            obtain ⟨I5, r6⟩ := rr
            have h_17 := hr
            have m_18 : Ag FwX11_follow I I5 := Ag.tr (Ag.rf (f := I)) (Ag.mo rfl h_17)
            exact Ok_s ⟨m_18, (Ag.rf (f := R))⟩
        · exact Ok_s ⟨(Ag.rf (f := I)), (Ag.rf (f := R))⟩
theorem aX11_led_b122 {σ : Shp} {R : Nat → Nat → Option Nat} {I : Nat → Nat → Int32} {x2 : Int32} {x5 : Option Nat} {x6 : Option Nat} {x7 : Int32} : Ok (gX11_led_b122 σ R I x2 x5 x6 x7) (fun r => Ag FwX11_led_b122 I r.1) := by
  unfold gX11_led_b122
  refine Ok_i (fun g_1 => ?_) (fun _ => ?_)
  · exact Ok_s (Ag.rf (f := I))
  · refine Ok_i (fun g_2 => ?_) (fun _ => ?_)
    · refine Ok_bc (fun a15 e_3 => ?_)
      refine Ok_g (fun g_4 => ?_)
      exact Ok_s (Ag.rf (f := I))
    · refine Ok_o (fun _ => ?_) (fun a13 e_5 => ?_)
      · exact Ok_s (Ag.rf (f := I))
      · refine Ok_g (fun g_6 => ?_)
        exact Ok_s (Ag.rf (f := I))
theorem aX11_step {I : Nat → Nat → Int32} {x1 : Int32} {x2 : Int32} {x3 : Int32} {x4 : Int32} {x5 : Int32} : Ok (gX11_step I x1 x2 x3 x4 x5) (fun r => Ag FwX11_step I r.1) := by
  unfold gX11_step
  refine Ok_i (fun g_1 => ?_) (fun _ => ?_)
  · exact Ok_s (Ag.rf (f := I))
  · refine Ok_i (fun g_2 => ?_) (fun _ => ?_)
    · exact Ok_s (Ag.rf (f := I))
    · refine Ok_i (fun g_3 => ?_) (fun _ => ?_)
      · refine Ok_b (aX6_added) ?_
        intro rr hr
        obtain ⟨I1, r2⟩ := rr
        have h_4 := hr
        have m_5 : Ag FwX11_step I I1 := Ag.tr (Ag.rf (f := I)) (Ag.mo rfl h_4)
        exact Ok_s m_5
      · exact Ok_s (Ag.rf (f := I))
theorem aX11_drop {I : Nat → Nat → Int32} {x1 : Int32} : Ok (gX11_drop I x1) (fun r => Ag FwX11_drop I r.1) := by
  unfold gX11_drop
  refine Ok_i (fun g_1 => ?_) (fun _ => ?_)
  · exact Ok_s (Ag.rf (f := I))
  · refine Ok_b (aX6_emptied) ?_
    intro rr hr
    obtain ⟨I1, r2⟩ := rr
    have h_2 := hr
    have m_3 : Ag FwX11_drop I I1 := Ag.tr (Ag.rf (f := I)) (Ag.mo rfl h_2)
    exact Ok_s m_3
theorem aX11_formed {σ : Shp} {I : Nat → Nat → Int32} {R : Nat → Nat → Option Nat} {x1 : Int32} : Ok (gX11_formed σ I R x1) (fun r => Ag FwX11_formed I r.1) := by
  unfold gX11_formed
  refine Ok_i (fun g_1 => ?_) (fun _ => ?_)
  · exact Ok_s (Ag.rf (f := I))
  · refine Ok_b (aX6_firstWrong) ?_
    intro rr hr
    obtain ⟨I1, r2⟩ := rr
    have h_2 := hr
    have m_3 : Ag FwX11_formed I I1 := Ag.tr (Ag.rf (f := I)) (Ag.mo rfl h_2)
    exact Ok_s m_3
theorem aX11_setStock {J : Nat → Nat → Int64} {x1 : Int32} {x2 : Int64} : Ok (gX11_setStock J x1 x2) (fun r => Ag FwX11_setStock J r.1) := by
  unfold gX11_setStock
  refine Ok_i (fun g_1 => ?_) (fun _ => ?_)
  · exact Ok_s (Ag.rf (f := J))
  · refine Ok_g (fun g_2 => ?_)
    exact Ok_s (Ag.st (Ag.rf (f := J)) (keyo (L := [(18, 19)]) (M := FwX11_setStock) rfl rfl (show inW [(18, 19)] 18 = true from rfl)))
theorem aX11_line {σ : Shp} {I : Nat → Nat → Int32} {R : Nat → Nat → Option Nat} {x1 : Int32} {x2 : Int32} {x3 : Int32} : Ok (gX11_line σ I R x1 x2 x3) (fun r => Ag FwX11_line I r.1) := by
  unfold gX11_line
  refine Ok_i (fun g_1 => ?_) (fun _ => ?_)
  · exact Ok_s (Ag.rf (f := I))
  · refine Ok_b (aX9_lineAdded) ?_
    intro rr hr
    obtain ⟨I1, r2⟩ := rr
    have h_2 := hr
    have m_3 : Ag FwX11_line I I1 := Ag.tr (Ag.rf (f := I)) (Ag.mo rfl h_2)
    exact Ok_s m_3
theorem aX11_rest {I : Nat → Nat → Int32} {x1 : Int32} {x2 : Int32} : Ok (gX11_rest I x1 x2) (fun r => Ag FwX11_rest I r.1) := by
  unfold gX11_rest
  refine Ok_i (fun g_1 => ?_) (fun _ => ?_)
  · exact Ok_s (Ag.rf (f := I))
  · refine Ok_i (fun g_2 => ?_) (fun _ => ?_)
    · refine Ok_b (aX9_rested) ?_
      intro rr hr
      obtain ⟨I1, r2⟩ := rr
      have h_3 := hr
      have m_4 : Ag FwX11_rest I I1 := Ag.tr (Ag.rf (f := I)) (Ag.mo rfl h_3)
      exact Ok_s m_4
    · refine Ok_i (fun g_5 => ?_) (fun _ => ?_)
      · exact Ok_s (Ag.rf (f := I))
      · refine Ok_b (aX9_rested) ?_
        intro rr hr
        obtain ⟨I4, r5⟩ := rr
        have h_6 := hr
        have m_7 : Ag FwX11_rest I I4 := Ag.tr (Ag.rf (f := I)) (Ag.mo rfl h_6)
        exact Ok_s m_7
theorem aX11_value {σ : Shp} {I : Nat → Nat → Int32} {R : Nat → Nat → Option Nat} {x1 : Int32} {x2 : Int32} : Ok (gX11_value σ I R x1 x2) (fun r => Ag FwX11_value I r.1) := by
  unfold gX11_value
  refine Ok_i (fun g_1 => ?_) (fun _ => ?_)
  · exact Ok_s (Ag.rf (f := I))
  · refine Ok_b (aX9_valueAt) ?_
    intro rr hr
    obtain ⟨I1, r2⟩ := rr
    have h_2 := hr
    have m_3 : Ag FwX11_value I I1 := Ag.tr (Ag.rf (f := I)) (Ag.mo rfl h_2)
    exact Ok_s m_3
theorem aX11_read {J : Nat → Nat → Int64} {D : Nat → Nat → UInt64} {x1 : Int32} {x2 : Int64} : Ok (gX11_read J D x1 x2) (fun r => Ag FwX11_read J r.1 ∧ Ag FwX11_read D r.2.1) := by
  unfold gX11_read
  refine Ok_i (fun g_1 => ?_) (fun _ => ?_)
  · exact Ok_s ⟨(Ag.rf (f := J)), (Ag.rf (f := D))⟩
  · refine Ok_b (aX4_takeReading) ?_
    intro rr hr
    obtain ⟨J1, D2⟩ := rr
    obtain ⟨h_2, h_3⟩ := hr
    have m_4 : Ag FwX11_read J J1 := Ag.tr (Ag.rf (f := J)) (Ag.mo rfl h_2)
    have m_5 : Ag FwX11_read D D2 := Ag.tr (Ag.rf (f := D)) (Ag.mo rfl h_3)
    exact Ok_s ⟨m_4, m_5⟩
theorem aX11_part {D : Nat → Nat → UInt64} {x1 : Int64} : Ok (gX11_part D x1) (fun r => Ag FwX11_part D r.1) := by
  unfold gX11_part
  refine Ok_i (fun g_1 => ?_) (fun _ => ?_)
  · exact Ok_s (Ag.rf (f := D))
  · refine Ok_bc (fun r1 e_2 => ?_)
    refine Ok_i (fun g_3 => ?_) (fun _ => ?_)
    · refine Ok_bc (fun r3 e_4 => ?_)
      exact Ok_s (Ag.st (Ag.rf (f := D)) (keyo (L := [(26, 27)]) (M := FwX11_part) rfl rfl (show inW [(26, 27)] 26 = true from rfl)))
    · exact Ok_s (Ag.rf (f := D))
theorem aX11_weather {I : Nat → Nat → Int32} {x1 : Int32} {x2 : Int32} : Ok (gX11_weather I x1 x2) (fun r => Ag FwX11_weather I r.1) := by
  unfold gX11_weather
  refine Ok_b (aX4_newWeather) ?_
  intro rr hr
  obtain ⟨I1, r2⟩ := rr
  have h_1 := hr
  have m_2 : Ag FwX11_weather I I1 := Ag.tr (Ag.rf (f := I)) (Ag.mo rfl h_1)
  exact Ok_s m_2
theorem aX11_mark {σ : Shp} {I : Nat → Nat → Int32} {R : Nat → Nat → Option Nat} {x1 : Int32} {x2 : Int32} {x3 : Int32} : Ok (gX11_mark σ I R x1 x2 x3) (fun r => Ag FwX11_mark I r.1) := by
  unfold gX11_mark
  refine Ok_i (fun g_1 => ?_) (fun _ => ?_)
  · exact Ok_s (Ag.rf (f := I))
  · refine Ok_b (aX4_markAdded) ?_
    intro rr hr
    obtain ⟨I1, r2⟩ := rr
    have h_2 := hr
    have m_3 : Ag FwX11_mark I I1 := Ag.tr (Ag.rf (f := I)) (Ag.mo rfl h_2)
    exact Ok_s m_3
theorem aX11_unmark {I : Nat → Nat → Int32} {x1 : Int32} : Ok (gX11_unmark I x1) (fun r => Ag FwX11_unmark I r.1) := by
  unfold gX11_unmark
  refine Ok_i (fun g_1 => ?_) (fun _ => ?_)
  · exact Ok_s (Ag.rf (f := I))
  · refine Ok_b (aX4_marksGone) ?_
    intro rr hr
    obtain ⟨I1, r2⟩ := rr
    have h_2 := hr
    have m_3 : Ag FwX11_unmark I I1 := Ag.tr (Ag.rf (f := I)) (Ag.mo rfl h_2)
    exact Ok_s m_3
theorem aX11_minute_l34 {σ : Shp} {D : Nat → Nat → UInt64} {R : Nat → Nat → Option Nat} : ∀ (n : Nat) (I : Nat → Nat → Int32) (J : Nat → Nat → Int64) (x1 : Int32) (x2 : Int32), Ok (gX11_minute_l34 σ D R n I J x1 x2) (fun r => Ag FwX11_minute_l34 I r.1 ∧ Ag FwX11_minute_l34 J r.2.1) := by
  intro n
  induction n with
  | zero => intro I J x1 x2; exact Ok_e rfl
  | succ n ih =>
    intro I J x1 x2
    rw [gX11_minute_l34]
    refine Ok_i (fun g_1 => ?_) (fun _ => ?_)
    · exact Ok_s ⟨(Ag.rf (f := I)), (Ag.rf (f := J))⟩
    · refine Ok_b (aX4_passMinute) ?_
      intro rr hr
      obtain ⟨I1, J2⟩ := rr
      obtain ⟨h_2, h_3⟩ := hr
      have m_4 : Ag FwX11_minute_l34 I I1 := Ag.tr (Ag.rf (f := I)) (Ag.mo rfl h_2)
      have m_5 : Ag FwX11_minute_l34 J J2 := Ag.tr (Ag.rf (f := J)) (Ag.mo rfl h_3)
      exact Ok_m (ih _ _ _ _) (fun _ ⟨h0, h1⟩ => ⟨(Ag.tr m_4 (Ag.mo rfl h0)), (Ag.tr m_5 (Ag.mo rfl h1))⟩)
theorem aX11_minute {σ : Shp} {I : Nat → Nat → Int32} {J : Nat → Nat → Int64} {D : Nat → Nat → UInt64} {R : Nat → Nat → Option Nat} {x1 : Int32} : Ok (gX11_minute σ I J D R x1) (fun r => Ag FwX11_minute I r.1 ∧ Ag FwX11_minute J r.2.1) := by
  unfold gX11_minute
  refine Ok_i (fun g_1 => ?_) (fun _ => ?_)
  · exact Ok_s ⟨(Ag.rf (f := I)), (Ag.rf (f := J))⟩
  · refine Ok_i (fun g_2 => ?_) (fun _ => ?_)
    · refine Ok_i (fun g_3 => ?_) (fun _ => ?_)
      · exact Ok_m (aX11_minute_l34  _ _ _ _ _) (fun _ ⟨h0, h1⟩ => ⟨(Ag.tr (Ag.rf (f := I)) (Ag.mo rfl h0)), (Ag.tr (Ag.rf (f := J)) (Ag.mo rfl h1))⟩)
      · exact Ok_s ⟨(Ag.rf (f := I)), (Ag.rf (f := J))⟩
    · exact Ok_s ⟨(Ag.rf (f := I)), (Ag.rf (f := J))⟩
theorem aX11_quotient_b10 {σ : Shp} {I : Nat → Nat → Int32} {x1 : Int32} {x2 : Int64} {x4 : Int64} {x6 : Int32} : Ok (gX11_quotient_b10 σ I x1 x2 x4 x6) (fun r => Ag FwX11_quotient_b10 I r.1) := by
  unfold gX11_quotient_b10
  refine Ok_i (fun g_1 => ?_) (fun _ => ?_)
  · exact Ok_s (Ag.rf (f := I))
  · refine Ok_i (fun g_2 => ?_) (fun _ => ?_)
    · refine Ok_i (fun g_3 => ?_) (fun _ => ?_)
      · refine Ok_i (fun g_4 => ?_) (fun _ => ?_)
        · refine Ok_b (aX11_fail) ?_
          intro rr hr
          obtain ⟨I10, r11⟩ := rr
          have h_5 := hr
          have m_6 : Ag FwX11_quotient_b10 I I10 := Ag.tr (Ag.rf (f := I)) (Ag.mo rfl h_5)
          exact Ok_s m_6
        · refine Ok_i (fun g_7 => ?_) (fun _ => ?_)
          · refine Ok_g (fun g_8 => ?_)
            exact Ok_s (Ag.rf (f := I))
          · refine Ok_g (fun g_9 => ?_)
            exact Ok_s (Ag.rf (f := I))
      · refine Ok_i (fun g_10 => ?_) (fun _ => ?_)
        · refine Ok_b (aX11_fail) ?_
          intro rr hr
          obtain ⟨I3, r4⟩ := rr
          have h_11 := hr
          have m_12 : Ag FwX11_quotient_b10 I I3 := Ag.tr (Ag.rf (f := I)) (Ag.mo rfl h_11)
          exact Ok_s m_12
        · refine Ok_i (fun g_13 => ?_) (fun _ => ?_)
          · refine Ok_g (fun g_14 => ?_)
            exact Ok_s (Ag.rf (f := I))
          · refine Ok_g (fun g_15 => ?_)
            exact Ok_s (Ag.rf (f := I))
    · exact Ok_s (Ag.rf (f := I))
theorem aX11_quotient {σ : Shp} {I : Nat → Nat → Int32} {x1 : Int32} {x2 : Int64} {x4 : Int64} {x6 : Int32} : Ok (gX11_quotient σ I x1 x2 x4 x6) (fun r => Ag FwX11_quotient I r.1) := by
  unfold gX11_quotient
  refine Ok_i (fun g_1 => ?_) (fun _ => ?_)
  · exact Ok_m (aX11_quotient_b10) (fun _ hr => (Ag.tr (Ag.rf (f := I)) (Ag.mo rfl hr)))
  · refine Ok_i (fun g_2 => ?_) (fun _ => ?_)
    · exact Ok_m (aX11_quotient_b10) (fun _ hr => (Ag.tr (Ag.rf (f := I)) (Ag.mo rfl hr)))
    · exact Ok_s (Ag.rf (f := I))
theorem aX11_compare_b95 {σ : Shp} {J : Nat → Nat → Int64} {R : Nat → Nat → Option Nat} {I : Nat → Nat → Int32} {x1 : Int32} {x3 : Int32} {x5 : Int32} {x6 : Option Nat} {x7 : Option Nat} {x8 : Int32} : Ok (gX11_compare_b95 σ J R I x1 x3 x5 x6 x7 x8) (fun r => Ag FwX11_compare_b95 I r.1) := by
  unfold gX11_compare_b95
  refine Ok_i (fun g_1 => ?_) (fun _ => ?_)
  · refine Ok_o (fun _ => ?_) (fun a17 e_2 => ?_)
    · refine Ok_b (aX11_fail) ?_
      intro rr hr
      obtain ⟨I18, r19⟩ := rr
      have h_3 := hr
      have m_4 : Ag FwX11_compare_b95 I I18 := Ag.tr (Ag.rf (f := I)) (Ag.mo rfl h_3)
      exact Ok_s m_4
    · refine Ok_o (fun _ => ?_) (fun a21 e_5 => ?_)
      · refine Ok_b (aX11_fail) ?_
        intro rr hr
        obtain ⟨I22, r23⟩ := rr
        have h_6 := hr
        have m_7 : Ag FwX11_compare_b95 I I22 := Ag.tr (Ag.rf (f := I)) (Ag.mo rfl h_6)
        exact Ok_s m_7
      · refine Ok_g (fun g_8 => ?_)
        refine Ok_bc (fun a26 e_9 => ?_)
        refine Ok_g (fun g_10 => ?_)
        refine Ok_g (fun g_11 => ?_)
        refine Ok_g (fun g_12 => ?_)
        refine Ok_bc (fun a30 e_13 => ?_)
        refine Ok_g (fun g_14 => ?_)
        refine Ok_g (fun g_15 => ?_)
        exact Ok_s (Ag.rf (f := I))
  · refine Ok_b (aX11_fail) ?_
    intro rr hr
    obtain ⟨I14, r15⟩ := rr
    have h_16 := hr
    have m_17 : Ag FwX11_compare_b95 I I14 := Ag.tr (Ag.rf (f := I)) (Ag.mo rfl h_16)
    exact Ok_s m_17
theorem aX11_compare_b12 {σ : Shp} {J : Nat → Nat → Int64} {R : Nat → Nat → Option Nat} {I : Nat → Nat → Int32} {x1 : Int32} {x2 : Int32} {x3 : Int32} {x4 : Int32} {x5 : Int32} : Ok (gX11_compare_b12 σ J R I x1 x2 x3 x4 x5) (fun r => Ag FwX11_compare_b12 I r.1) := by
  unfold gX11_compare_b12
  refine Ok_i (fun g_1 => ?_) (fun _ => ?_)
  · exact Ok_s (Ag.rf (f := I))
  · refine Ok_i (fun g_2 => ?_) (fun _ => ?_)
    · exact Ok_s (Ag.rf (f := I))
    · refine Ok_g (fun g_3 => ?_)
      refine Ok_g (fun g_4 => ?_)
      refine Ok_t ?_
      intro r5
      refine Ok_i (fun g_5 => ?_) (fun _ => ?_)
      · refine Ok_b (aX11_fail) ?_
        intro rr hr
        obtain ⟨I7, r8⟩ := rr
        have h_6 := hr
        have m_7 : Ag FwX11_compare_b12 I I7 := Ag.tr (Ag.rf (f := I)) (Ag.mo rfl h_6)
        exact Ok_s m_7
      · refine Ok_t ?_
        intro r10
        refine Ok_i (fun g_8 => ?_) (fun _ => ?_)
        · refine Ok_b (aX11_fail) ?_
          intro rr hr
          obtain ⟨I35, r36⟩ := rr
          have h_9 := hr
          have m_10 : Ag FwX11_compare_b12 I I35 := Ag.tr (Ag.rf (f := I)) (Ag.mo rfl h_9)
          exact Ok_s m_10
        · refine Ok_t ?_
          intro r12
          refine Ok_i (fun g_11 => ?_) (fun _ => ?_)
          · refine Ok_t ?_
            intro r33
            exact Ok_m (aX11_compare_b95) (fun _ hr => (Ag.tr (Ag.rf (f := I)) (Ag.mo rfl hr)))
          · exact Ok_m (aX11_compare_b95) (fun _ hr => (Ag.tr (Ag.rf (f := I)) (Ag.mo rfl hr)))
