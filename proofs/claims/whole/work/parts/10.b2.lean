def WX12_leave_l9 : List (Nat × Nat) := [(114, 115), (143, 144), (144, 145), (145, 146), (146, 147), (147, 148), (148, 149), (149, 150), (150, 151), (151, 152), (152, 153), (153, 154)]
theorem aX12_leave_l9 {σ : Shp} {R : Nat → Nat → Option Nat} : ∀ (n : Nat) (I : Nat → Nat → Int32) (x1 : Int32) (x3 : Int32), Ok (gX12_leave_l9 σ R n I x1 x3) (fun r => Ag WX12_leave_l9 I r) := by
  intro n
  induction n with
  | zero => intro I x1 x3; exact Ok_e rfl
  | succ n ih =>
    intro I x1 x3
    rw [gX12_leave_l9]
    refine Ok_g (fun g_1 => ?_)
    refine Ok_i (fun g_2 => ?_) (fun _ => ?_)
    · exact Ok_m (aX12_leave_b47) (fun _ hr => (Ag.tr Ag.rf (Ag.mo rfl hr)))
    · refine Ok_g (fun g_3 => ?_)
      refine Ok_i (fun g_4 => ?_) (fun _ => ?_)
      · refine Ok_t ?_
        intro r10
        exact Ok_m (ih _ _ _) (fun _ hr => (Ag.tr Ag.rf (Ag.mo rfl hr)))
      · exact Ok_m (aX12_leave_b47) (fun _ hr => (Ag.tr Ag.rf (Ag.mo rfl hr)))
def WX12_leave : List (Nat × Nat) := [(114, 115), (143, 144), (144, 145), (145, 146), (146, 147), (147, 148), (148, 149), (149, 150), (150, 151), (151, 152), (152, 153), (153, 154)]
theorem aX12_leave {σ : Shp} {I : Nat → Nat → Int32} {R : Nat → Nat → Option Nat} {x1 : Int32} {x2 : Int32} : Ok (gX12_leave σ I R x1 x2) (fun r => Ag WX12_leave I r) := by
  unfold gX12_leave
  refine Ok_t ?_
  intro r1
  exact Ok_m (aX12_leave_l9  _ _ _ _) (fun _ hr => (Ag.tr Ag.rf (Ag.mo rfl hr)))
def WX12_unwind_b133 : List (Nat × Nat) := [(114, 115), (119, 120), (139, 140), (147, 148)]
theorem aX12_unwind_b133 {σ : Shp} {R : Nat → Nat → Option Nat} {I : Nat → Nat → Int32} {J : Nat → Nat → Int64} {x1 : Int32} : Ok (gX12_unwind_b133 σ R I J x1) (fun r => Ag WX12_unwind_b133 I r.1 ∧ Ag WX12_unwind_b133 J r.2) := by
  unfold gX12_unwind_b133
  refine Ok_i (fun g_1 => ?_) (fun _ => ?_)
  · refine Ok_g (fun g_2 => ?_)
    refine Ok_b (aX12_undoTo) ?_
    intro rr hr
    obtain ⟨I46, J47⟩ := rr
    obtain ⟨h_3, h_4⟩ := hr
    have m_5 : Ag WX12_unwind_b133 I I46 := Ag.tr Ag.rf (Ag.mo rfl h_3)
    have m_6 : Ag WX12_unwind_b133 J J47 := Ag.tr Ag.rf (Ag.mo rfl h_4)
    refine Ok_b (aX12_again) ?_
    intro I49 hr
    have h_7 := hr
    have m_8 : Ag WX12_unwind_b133 I I49 := Ag.tr m_5 (Ag.mo rfl h_7)
    exact Ok_s ⟨m_8, m_6⟩
  · exact Ok_s ⟨Ag.rf, Ag.rf⟩
def WX12_unwind : List (Nat × Nat) := [(114, 115), (119, 120), (139, 140), (140, 141), (141, 142), (143, 144), (144, 145), (145, 146), (146, 147), (147, 148), (148, 149), (149, 150), (150, 151), (151, 152), (152, 153), (153, 154), (154, 155), (155, 156)]
theorem aX12_unwind {σ : Shp} {I : Nat → Nat → Int32} {J : Nat → Nat → Int64} {R : Nat → Nat → Option Nat} : Ok (gX12_unwind σ I J R) (fun r => Ag WX12_unwind I r.1 ∧ Ag WX12_unwind J r.2) := by
  unfold gX12_unwind
  have m_1 := Ag.st (k := 42) (v := ((I 114 42) - (1 : Int32))) Ag.rf (show inW WX12_unwind 114 = true from rfl)
  refine Ok_g (fun g_2 => ?_)
  refine Ok_g (fun g_3 => ?_)
  refine Ok_b (aX12_giveBack) ?_
  intro rr hr
  obtain ⟨I7, J8⟩ := rr
  obtain ⟨h_4, h_5⟩ := hr
  have m_6 : Ag WX12_unwind I I7 := Ag.tr m_1 (Ag.mo rfl h_4)
  have m_7 : Ag WX12_unwind J J8 := Ag.tr Ag.rf (Ag.mo rfl h_5)
  refine Ok_g (fun g_8 => ?_)
  refine Ok_i (fun g_9 => ?_) (fun _ => ?_)
  · have m_10 := Ag.st (k := 66) (v := ((I7 114 66) - (1 : Int32))) m_6 (show inW WX12_unwind 114 = true from rfl)
    exact Ok_s ⟨m_10, m_7⟩
  · refine Ok_i (fun g_11 => ?_) (fun _ => ?_)
    · exact Ok_s ⟨m_6, m_7⟩
    · refine Ok_i (fun g_12 => ?_) (fun _ => ?_)
      · exact Ok_s ⟨m_6, m_7⟩
      · refine Ok_i (fun g_13 => ?_) (fun _ => ?_)
        · exact Ok_s ⟨m_6, m_7⟩
        · refine Ok_i (fun g_14 => ?_) (fun _ => ?_)
          · exact Ok_m (aX12_unwind_b133) (fun _ ⟨h0, h1⟩ => ⟨(Ag.tr m_6 (Ag.mo rfl h0)), (Ag.tr m_7 (Ag.mo rfl h1))⟩)
          · refine Ok_i (fun g_15 => ?_) (fun _ => ?_)
            · exact Ok_m (aX12_unwind_b133) (fun _ ⟨h0, h1⟩ => ⟨(Ag.tr m_6 (Ag.mo rfl h0)), (Ag.tr m_7 (Ag.mo rfl h1))⟩)
            · refine Ok_i (fun g_16 => ?_) (fun _ => ?_)
              · refine Ok_i (fun g_17 => ?_) (fun _ => ?_)
                · refine Ok_b (aX12_isMet) ?_
                  intro rr hr
                  obtain ⟨I40, r41⟩ := rr
                  have h_18 := hr
                  have m_19 : Ag WX12_unwind I I40 := Ag.tr m_6 (Ag.mo rfl h_18)
                  refine Ok_i (fun g_20 => ?_) (fun _ => ?_)
                  · refine Ok_i (fun g_21 => ?_) (fun _ => ?_)
                    · exact Ok_s ⟨m_19, m_7⟩
                    · refine Ok_b (aX12_leave) ?_
                      intro I43 hr
                      have h_22 := hr
                      have m_23 : Ag WX12_unwind I I43 := Ag.tr m_19 (Ag.mo rfl h_22)
                      exact Ok_s ⟨m_23, m_7⟩
                  · exact Ok_s ⟨m_19, m_7⟩
                · refine Ok_i (fun g_24 => ?_) (fun _ => ?_)
                  · exact Ok_s ⟨m_6, m_7⟩
                  · refine Ok_b (aX12_leave) ?_
                    intro I38 hr
                    have h_25 := hr
                    have m_26 : Ag WX12_unwind I I38 := Ag.tr m_6 (Ag.mo rfl h_25)
                    exact Ok_s ⟨m_26, m_7⟩
              · refine Ok_i (fun g_27 => ?_) (fun _ => ?_)
                · refine Ok_i (fun g_28 => ?_) (fun _ => ?_)
                  · refine Ok_g (fun g_29 => ?_)
                    have m_30 := Ag.st (k := 63) (v := (I7 149 (Int32.toNatClampNeg v2))) m_6 (show inW WX12_unwind 114 = true from rfl)
                    refine Ok_i (fun g_31 => ?_) (fun _ => ?_)
                    · exact Ok_s ⟨m_30, m_7⟩
                    · refine Ok_b (aX12_leave) ?_
                      intro I36 hr
                      have h_32 := hr
                      have m_33 : Ag WX12_unwind I I36 := Ag.tr m_30 (Ag.mo rfl h_32)
                      exact Ok_s ⟨m_33, m_7⟩
                  · have m_34 := Ag.st (k := 63) (v := (I7 114 63)) m_6 (show inW WX12_unwind 114 = true from rfl)
                    refine Ok_i (fun g_35 => ?_) (fun _ => ?_)
                    · exact Ok_s ⟨m_34, m_7⟩
                    · refine Ok_b (aX12_leave) ?_
                      intro I32 hr
                      have h_36 := hr
                      have m_37 : Ag WX12_unwind I I32 := Ag.tr m_34 (Ag.mo rfl h_36)
                      exact Ok_s ⟨m_37, m_7⟩
                · refine Ok_i (fun g_38 => ?_) (fun _ => ?_)
                  · refine Ok_i (fun g_39 => ?_) (fun _ => ?_)
                    · refine Ok_g (fun g_40 => ?_)
                      refine Ok_i (fun g_41 => ?_) (fun _ => ?_)
                      · refine Ok_g (fun g_42 => ?_)
                        have m_43 := Ag.st (k := 63) (v := (I7 149 (Int32.toNatClampNeg v2))) m_6 (show inW WX12_unwind 114 = true from rfl)
                        exact Ok_s ⟨m_43, m_7⟩
                      · have m_44 := Ag.st (k := 63) (v := (I7 114 63)) m_6 (show inW WX12_unwind 114 = true from rfl)
                        exact Ok_s ⟨m_44, m_7⟩
                    · have m_45 := Ag.st (k := 63) (v := (I7 114 63)) m_6 (show inW WX12_unwind 114 = true from rfl)
                      exact Ok_s ⟨m_45, m_7⟩
                  · refine Ok_i (fun g_46 => ?_) (fun _ => ?_)
                    · exact Ok_s ⟨m_6, m_7⟩
                    · refine Ok_i (fun g_47 => ?_) (fun _ => ?_)
                      · exact Ok_s ⟨m_6, m_7⟩
                      · refine Ok_i (fun g_48 => ?_) (fun _ => ?_)
                        · refine Ok_i (fun g_49 => ?_) (fun _ => ?_)
                          · refine Ok_b (aX12_undoTo) ?_
                            intro rr hr
                            obtain ⟨I23, J24⟩ := rr
                            obtain ⟨h_50, h_51⟩ := hr
                            have m_52 : Ag WX12_unwind I I23 := Ag.tr m_6 (Ag.mo rfl h_50)
                            have m_53 : Ag WX12_unwind J J24 := Ag.tr m_7 (Ag.mo rfl h_51)
                            exact Ok_s ⟨m_52, m_53⟩
                          · exact Ok_s ⟨m_6, m_7⟩
                        · exact Ok_s ⟨m_6, m_7⟩
def WX12_run_b331 : List (Nat × Nat) := [(114, 115)]
theorem aX12_run_b331 {σ : Shp} {R : Nat → Nat → Option Nat} {I : Nat → Nat → Int32} {J : Nat → Nat → Int64} {x2 : Int32} {s0 : Option Nat} {s1 : Int32} (hs_s0 : Cin [(114, 115)] s0) : Ok (gX12_run_b331 σ R I J x2 s0 s1) (fun r => Ag WX12_run_b331 I r.1 ∧ Ag WX12_run_b331 J r.2.1) := by
  unfold gX12_run_b331
  refine Ok_bc (fun a24 e_1 => ?_)
  refine Ok_g (fun g_2 => ?_)
  have m_3 := Ag.st (k := 74) (v := s1) Ag.rf (inW_mo (L := [(114, 115)]) (M := WX12_run_b331) rfl (Cin.get hs_s0 e_1))
  refine Ok_i (fun g_4 => ?_) (fun _ => ?_)
  · refine Ok_i (fun g_5 => ?_) (fun _ => ?_)
    · exact Ok_s ⟨m_3, Ag.rf⟩
    · refine Ok_i (fun g_6 => ?_) (fun _ => ?_)
      · exact Ok_s ⟨m_3, Ag.rf⟩
      · exact Ok_s ⟨m_3, Ag.rf⟩
  · have m_7 := Ag.st (k := 2) (v := (I26 114 60)) m_3 (show inW WX12_run_b331 114 = true from rfl)
    exact Ok_s ⟨m_7, Ag.rf⟩
def WX12_run_b295 : List (Nat × Nat) := [(114, 115)]
theorem aX12_run_b295 {σ : Shp} {R : Nat → Nat → Option Nat} {I : Nat → Nat → Int32} {J : Nat → Nat → Int64} {x2 : Int32} {s0 : Option Nat} {s1 : Int32} (hs_s0 : Cin [(114, 115)] s0) : Ok (gX12_run_b295 σ R I J x2 s0 s1) (fun r => Ag WX12_run_b295 I r.1 ∧ Ag WX12_run_b295 J r.2.1) := by
  unfold gX12_run_b295
  refine Ok_bc (fun a20 e_1 => ?_)
  refine Ok_g (fun g_2 => ?_)
  have m_3 := Ag.st (k := 72) (v := s1) Ag.rf (inW_mo (L := [(114, 115)]) (M := WX12_run_b295) rfl (Cin.get hs_s0 e_1))
  refine Ok_i (fun g_4 => ?_) (fun _ => ?_)
  · have m_5 := Ag.st (k := 73) (v := (0 : Int32)) m_3 (show inW WX12_run_b295 114 = true from rfl)
    refine Ok_i (fun g_6 => ?_) (fun _ => ?_)
    · exact Ok_m (aX12_run_b331 ⟨_, rfl, (show inW [(114, 115)] 114 = true from rfl)⟩) (fun _ ⟨h0, h1⟩ => ⟨(Ag.tr m_5 (Ag.mo rfl h0)), (Ag.tr Ag.rf (Ag.mo rfl h1))⟩)
    · exact Ok_m (aX12_run_b331 ⟨_, rfl, (show inW [(114, 115)] 114 = true from rfl)⟩) (fun _ ⟨h0, h1⟩ => ⟨(Ag.tr m_5 (Ag.mo rfl h0)), (Ag.tr Ag.rf (Ag.mo rfl h1))⟩)
  · have m_7 := Ag.st (k := 73) (v := (I22 114 61)) m_3 (show inW WX12_run_b295 114 = true from rfl)
    refine Ok_i (fun g_8 => ?_) (fun _ => ?_)
    · exact Ok_m (aX12_run_b331 ⟨_, rfl, (show inW [(114, 115)] 114 = true from rfl)⟩) (fun _ ⟨h0, h1⟩ => ⟨(Ag.tr m_7 (Ag.mo rfl h0)), (Ag.tr Ag.rf (Ag.mo rfl h1))⟩)
    · exact Ok_m (aX12_run_b331 ⟨_, rfl, (show inW [(114, 115)] 114 = true from rfl)⟩) (fun _ ⟨h0, h1⟩ => ⟨(Ag.tr m_7 (Ag.mo rfl h0)), (Ag.tr Ag.rf (Ag.mo rfl h1))⟩)
def WX12_run_b265 : List (Nat × Nat) := [(114, 115)]
theorem aX12_run_b265 {σ : Shp} {R : Nat → Nat → Option Nat} {I : Nat → Nat → Int32} {J : Nat → Nat → Int64} {s0 : Int32} : Ok (gX12_run_b265 σ R I J s0) (fun r => Ag WX12_run_b265 I r.1 ∧ Ag WX12_run_b265 J r.2.1) := by
  unfold gX12_run_b265
  refine Ok_i (fun g_1 => ?_) (fun _ => ?_)
  · have m_2 := Ag.st (k := 71) (v := (-1 : Int32)) Ag.rf (show inW WX12_run_b265 114 = true from rfl)
    refine Ok_i (fun g_3 => ?_) (fun _ => ?_)
    · exact Ok_m (aX12_run_b295 ⟨_, rfl, (show inW [(114, 115)] 114 = true from rfl)⟩) (fun _ ⟨h0, h1⟩ => ⟨(Ag.tr m_2 (Ag.mo rfl h0)), (Ag.tr Ag.rf (Ag.mo rfl h1))⟩)
    · exact Ok_m (aX12_run_b295 ⟨_, rfl, (show inW [(114, 115)] 114 = true from rfl)⟩) (fun _ ⟨h0, h1⟩ => ⟨(Ag.tr m_2 (Ag.mo rfl h0)), (Ag.tr Ag.rf (Ag.mo rfl h1))⟩)
  · have m_4 := Ag.st (k := 71) (v := (I 114 62)) Ag.rf (show inW WX12_run_b265 114 = true from rfl)
    refine Ok_i (fun g_5 => ?_) (fun _ => ?_)
    · exact Ok_m (aX12_run_b295 ⟨_, rfl, (show inW [(114, 115)] 114 = true from rfl)⟩) (fun _ ⟨h0, h1⟩ => ⟨(Ag.tr m_4 (Ag.mo rfl h0)), (Ag.tr Ag.rf (Ag.mo rfl h1))⟩)
    · exact Ok_m (aX12_run_b295 ⟨_, rfl, (show inW [(114, 115)] 114 = true from rfl)⟩) (fun _ ⟨h0, h1⟩ => ⟨(Ag.tr m_4 (Ag.mo rfl h0)), (Ag.tr Ag.rf (Ag.mo rfl h1))⟩)
def WX12_run_b166 : List (Nat × Nat) := [(114, 115), (119, 120), (129, 130), (130, 131), (131, 132), (132, 133), (139, 140), (140, 141), (141, 142), (142, 143), (143, 144), (144, 145), (145, 146), (146, 147), (147, 148), (148, 149), (149, 150), (150, 151), (151, 152), (152, 153), (153, 154), (154, 155), (155, 156)]
theorem aX12_run_b166 {q95 : (Nat → Nat → Int32) → (Nat → Nat → Int64) → (Option ((Nat → Nat → Int32) × (Nat → Nat → Int64) × (Int32)))} {σ : Shp} {R : Nat → Nat → Option Nat} {I : Nat → Nat → Int32} {J : Nat → Nat → Int64} {s0 : Option Nat} {s1 : Int32} {s2 : Int32} (hq95 : ∀ (I : Nat → Nat → Int32) (J : Nat → Nat → Int64), Ok (q95 I J) (fun r => Ag WX12_run_l95 I r.1 ∧ Ag WX12_run_l95 J r.2.1)) (hs_s0 : Cin [(114, 115)] s0) (hS : Skel σ R) : Ok (gX12_run_b166 q95 σ R I J s0 s1 s2) (fun r => Ag WX12_run_b166 I r.1 ∧ Ag WX12_run_b166 J r.2.1) := by
  unfold gX12_run_b166
  refine Ok_bc (fun a40 e_1 => ?_)
  refine Ok_g (fun g_2 => ?_)
  have m_3 := Ag.st (k := 66) (v := (s1 - s2)) Ag.rf (inW_mo (L := [(114, 115)]) (M := WX12_run_b166) rfl (Cin.get hs_s0 e_1))
  refine Ok_g (fun g_4 => ?_)
  have m_5 := Ag.st (k := 57) (v := (I42 144 (Int32.toNatClampNeg (I42 114 42)))) m_3 (show inW WX12_run_b166 114 = true from rfl)
  refine Ok_g (fun g_6 => ?_)
  have m_7 := Ag.st (k := 58) (v := ((I44 145 (Int32.toNatClampNeg (I44 114 42))) + (1 : Int32))) m_5 (show inW WX12_run_b166 114 = true from rfl)
  exact Ok_m (hq95 _ _) (fun _ ⟨h0, h1⟩ => ⟨(Ag.tr m_7 (Ag.mo rfl h0)), (Ag.tr Ag.rf (Ag.mo rfl h1))⟩)
def WX12_run_l95 : List (Nat × Nat) := [(114, 115), (119, 120), (129, 130), (130, 131), (131, 132), (132, 133), (139, 140), (140, 141), (141, 142), (142, 143), (143, 144), (144, 145), (145, 146), (146, 147), (147, 148), (148, 149), (149, 150), (150, 151), (151, 152), (152, 153), (153, 154), (154, 155), (155, 156)]
theorem aX12_run_l95 {σ : Shp} {R : Nat → Nat → Option Nat} (hS : Skel σ R) : ∀ (n : Nat) (I : Nat → Nat → Int32) (J : Nat → Nat → Int64), Ok (gX12_run_l95 σ R n I J) (fun r => Ag WX12_run_l95 I r.1 ∧ Ag WX12_run_l95 J r.2.1) := by
  intro n
  induction n with
  | zero => intro I J; exact Ok_e rfl
  | succ n ih =>
    intro I J
    rw [gX12_run_l95]
    refine Ok_i (fun g_1 => ?_) (fun _ => ?_)
    · refine Ok_i (fun g_2 => ?_) (fun _ => ?_)
      · exact Ok_m (aX12_run_b265) (fun _ ⟨h0, h1⟩ => ⟨(Ag.tr Ag.rf (Ag.mo rfl h0)), (Ag.tr Ag.rf (Ag.mo rfl h1))⟩)
      · exact Ok_m (aX12_run_b265) (fun _ ⟨h0, h1⟩ => ⟨(Ag.tr Ag.rf (Ag.mo rfl h0)), (Ag.tr Ag.rf (Ag.mo rfl h1))⟩)
    · refine Ok_i (fun g_3 => ?_) (fun _ => ?_)
      · refine Ok_g (fun g_4 => ?_)
        refine Ok_i (fun g_5 => ?_) (fun _ => ?_)
        · have m_6 := Ag.st (k := 42) (v := ((I 114 42) - (1 : Int32))) Ag.rf (show inW WX12_run_l95 114 = true from rfl)
          refine Ok_g (fun g_7 => ?_)
          refine Ok_i (fun g_8 => ?_) (fun _ => ?_)
          · exact Ok_m (aX12_run_b166 ih ⟨_, rfl, (show inW [(114, 115)] 114 = true from rfl)⟩ hS) (fun _ ⟨h0, h1⟩ => ⟨(Ag.tr m_6 (Ag.mo rfl h0)), (Ag.tr Ag.rf (Ag.mo rfl h1))⟩)
          · exact Ok_m (aX12_run_b166 ih ⟨_, rfl, (show inW [(114, 115)] 114 = true from rfl)⟩ hS) (fun _ ⟨h0, h1⟩ => ⟨(Ag.tr m_6 (Ag.mo rfl h0)), (Ag.tr Ag.rf (Ag.mo rfl h1))⟩)
        · refine Ok_g (fun g_9 => ?_)
          refine Ok_i (fun g_10 => ?_) (fun _ => ?_)
          · refine Ok_b (aX12_close) ?_
            intro rr hr
            obtain ⟨I35, J36⟩ := rr
            obtain ⟨h_11, h_12⟩ := hr
            have m_13 : Ag WX12_run_l95 I I35 := Ag.tr Ag.rf (Ag.mo rfl h_11)
            have m_14 : Ag WX12_run_l95 J J36 := Ag.tr Ag.rf (Ag.mo rfl h_12)
            exact Ok_m (ih _ _) (fun _ ⟨h0, h1⟩ => ⟨(Ag.tr m_13 (Ag.mo rfl h0)), (Ag.tr m_14 (Ag.mo rfl h1))⟩)
          · refine Ok_b (aX12_begin hS) ?_
            intro rr hr
            obtain ⟨I32, J33⟩ := rr
            obtain ⟨h_15, h_16⟩ := hr
            have m_17 : Ag WX12_run_l95 I I32 := Ag.tr Ag.rf (Ag.mo rfl h_15)
            have m_18 : Ag WX12_run_l95 J J33 := Ag.tr Ag.rf (Ag.mo rfl h_16)
            exact Ok_m (ih _ _) (fun _ ⟨h0, h1⟩ => ⟨(Ag.tr m_17 (Ag.mo rfl h0)), (Ag.tr m_18 (Ag.mo rfl h1))⟩)
      · refine Ok_b (aX12_unwind) ?_
        intro rr hr
        obtain ⟨I47, J48⟩ := rr
        obtain ⟨h_19, h_20⟩ := hr
        have m_21 : Ag WX12_run_l95 I I47 := Ag.tr Ag.rf (Ag.mo rfl h_19)
        have m_22 : Ag WX12_run_l95 J J48 := Ag.tr Ag.rf (Ag.mo rfl h_20)
        exact Ok_m (ih _ _) (fun _ ⟨h0, h1⟩ => ⟨(Ag.tr m_21 (Ag.mo rfl h0)), (Ag.tr m_22 (Ag.mo rfl h1))⟩)
def WX12_run : List (Nat × Nat) := [(114, 115), (119, 120), (129, 130), (130, 131), (131, 132), (132, 133), (139, 140), (140, 141), (141, 142), (142, 143), (143, 144), (144, 145), (145, 146), (146, 147), (147, 148), (148, 149), (149, 150), (150, 151), (151, 152), (152, 153), (153, 154), (154, 155), (155, 156)]
theorem aX12_run {σ : Shp} {I : Nat → Nat → Int32} {J : Nat → Nat → Int64} {R : Nat → Nat → Option Nat} {x1 : Int32} (hS : Skel σ R) : Ok (gX12_run σ I J R x1) (fun r => Ag WX12_run I r.1 ∧ Ag WX12_run J r.2.1) := by
  unfold gX12_run
  refine Ok_i (fun g_1 => ?_) (fun _ => ?_)
  · exact Ok_s ⟨Ag.rf, Ag.rf⟩
  · refine Ok_b (aX12_wrong) ?_
    intro rr hr
    obtain ⟨I1, r2⟩ := rr
    have h_2 := hr
    have m_3 : Ag WX12_run I I1 := Ag.tr Ag.rf (Ag.mo rfl h_2)
    refine Ok_i (fun g_4 => ?_) (fun _ => ?_)
    · refine Ok_t ?_
      intro r4
      refine Ok_i (fun g_5 => ?_) (fun _ => ?_)
      · have m_6 := Ag.st (k := 59) (v := (0 : Int32)) m_3 (show inW WX12_run 114 = true from rfl)
        have m_7 := Ag.st (k := 57) (v := x1) m_6 (show inW WX12_run 114 = true from rfl)
        have m_8 := Ag.st (k := 58) (v := (0 : Int32)) m_7 (show inW WX12_run 114 = true from rfl)
        have m_9 := Ag.st (k := 65) (v := (0 : Int32)) m_8 (show inW WX12_run 114 = true from rfl)
        have m_10 := Ag.st (k := 66) (v := (0 : Int32)) m_9 (show inW WX12_run 114 = true from rfl)
        have m_11 := Ag.st (k := 67) (v := (0 : Int32)) m_10 (show inW WX12_run 114 = true from rfl)
        have m_12 := Ag.st (k := 68) (v := (0 : Int32)) m_11 (show inW WX12_run 114 = true from rfl)
        have m_13 := Ag.st (k := 69) (v := (0 : Int32)) m_12 (show inW WX12_run 114 = true from rfl)
        have m_14 := Ag.st (k := 70) (v := (0 : Int32)) m_13 (show inW WX12_run 114 = true from rfl)
        have m_15 := Ag.st (k := 54) (v := (0 : Int32)) m_14 (show inW WX12_run 114 = true from rfl)
        have m_16 := Ag.st (k := 42) (v := (0 : Int32)) m_15 (show inW WX12_run 114 = true from rfl)
        refine Ok_b (aX12_push) ?_
        intro I17 hr
        have h_17 := hr
        have m_18 : Ag WX12_run I I17 := Ag.tr m_16 (Ag.mo rfl h_17)
        exact Ok_m (aX12_run_l95 hS _ _ _) (fun _ ⟨h0, h1⟩ => ⟨(Ag.tr m_18 (Ag.mo rfl h0)), (Ag.tr Ag.rf (Ag.mo rfl h1))⟩)
      · exact Ok_s ⟨m_3, Ag.rf⟩
    · exact Ok_s ⟨m_3, Ag.rf⟩
def WX12_setStock : List (Nat × Nat) := [(139, 140)]
theorem aX12_setStock {J : Nat → Nat → Int64} {x1 : Int32} {x2 : Int64} : Ok (gX12_setStock J x1 x2) (fun r => Ag WX12_setStock J r.1) := by
  unfold gX12_setStock
  refine Ok_i (fun g_1 => ?_) (fun _ => ?_)
  · exact Ok_s Ag.rf
  · refine Ok_g (fun g_2 => ?_)
    have m_3 := Ag.st (k := (Int32.toNatClampNeg x1)) (v := x2) Ag.rf (show inW WX12_setStock 139 = true from rfl)
    exact Ok_s m_3
def WX12_line_b67 : List (Nat × Nat) := [(156, 157), (157, 158), (158, 159)]
theorem aX12_line_b67 {σ : Shp} {R : Nat → Nat → Option Nat} {I : Nat → Nat → Int32} {x1 : Int32} {x2 : Int32} {x3 : Int32} : Ok (gX12_line_b67 σ R I x1 x2 x3) (fun r => Ag WX12_line_b67 I r.1) := by
  unfold gX12_line_b67
  refine Ok_g (fun g_1 => ?_)
  refine Ok_i (fun g_2 => ?_) (fun _ => ?_)
  · exact Ok_s Ag.rf
  · refine Ok_g (fun g_3 => ?_)
    have m_4 := Ag.st (k := (Int32.toNatClampNeg (((8 : Int32) * x1) + (I 156 (Int32.toNatClampNeg x1))))) (v := x2) Ag.rf (show inW WX12_line_b67 157 = true from rfl)
    refine Ok_g (fun g_5 => ?_)
    have m_6 := Ag.st (k := (Int32.toNatClampNeg (((8 : Int32) * x1) + (I4 156 (Int32.toNatClampNeg x1))))) (v := x3) m_4 (show inW WX12_line_b67 158 = true from rfl)
    have m_7 := Ag.st (k := (Int32.toNatClampNeg x1)) (v := ((I6 156 (Int32.toNatClampNeg x1)) + (1 : Int32))) m_6 (show inW WX12_line_b67 156 = true from rfl)
    exact Ok_s m_7
def WX12_line : List (Nat × Nat) := [(156, 157), (157, 158), (158, 159)]
theorem aX12_line {σ : Shp} {I : Nat → Nat → Int32} {R : Nat → Nat → Option Nat} {x1 : Int32} {x2 : Int32} {x3 : Int32} : Ok (gX12_line σ I R x1 x2 x3) (fun r => Ag WX12_line I r.1) := by
  unfold gX12_line
  refine Ok_i (fun g_1 => ?_) (fun _ => ?_)
  · exact Ok_s Ag.rf
  · refine Ok_i (fun g_2 => ?_) (fun _ => ?_)
    · exact Ok_s Ag.rf
    · refine Ok_i (fun g_3 => ?_) (fun _ => ?_)
      · exact Ok_s Ag.rf
      · refine Ok_g (fun g_4 => ?_)
        refine Ok_i (fun g_5 => ?_) (fun _ => ?_)
        · exact Ok_m (aX12_line_b67) (fun _ hr => (Ag.tr Ag.rf (Ag.mo rfl hr)))
        · refine Ok_g (fun g_6 => ?_)
          refine Ok_i (fun g_7 => ?_) (fun _ => ?_)
          · exact Ok_m (aX12_line_b67) (fun _ hr => (Ag.tr Ag.rf (Ag.mo rfl hr)))
          · exact Ok_s Ag.rf
def WX12_rest : List (Nat × Nat) := [(159, 160)]
theorem aX12_rest {I : Nat → Nat → Int32} {x1 : Int32} {x2 : Int32} : Ok (gX12_rest I x1 x2) (fun r => Ag WX12_rest I r.1) := by
  unfold gX12_rest
  refine Ok_i (fun g_1 => ?_) (fun _ => ?_)
  · exact Ok_s Ag.rf
  · refine Ok_i (fun g_2 => ?_) (fun _ => ?_)
    · refine Ok_g (fun g_3 => ?_)
      refine Ok_i (fun g_4 => ?_) (fun _ => ?_)
      · refine Ok_g (fun g_5 => ?_)
        have m_6 := Ag.st (k := (Int32.toNatClampNeg x1)) (v := x2) Ag.rf (show inW WX12_rest 159 = true from rfl)
        exact Ok_s m_6
      · exact Ok_s Ag.rf
    · refine Ok_i (fun g_7 => ?_) (fun _ => ?_)
      · exact Ok_s Ag.rf
      · refine Ok_g (fun g_8 => ?_)
        refine Ok_i (fun g_9 => ?_) (fun _ => ?_)
        · refine Ok_g (fun g_10 => ?_)
          have m_11 := Ag.st (k := (Int32.toNatClampNeg x1)) (v := x2) Ag.rf (show inW WX12_rest 159 = true from rfl)
          exact Ok_s m_11
        · exact Ok_s Ag.rf
def WX12_lay_b108 : List (Nat × Nat) := [(114, 115), (161, 162), (162, 163), (163, 164)]
theorem aX12_lay_b108 {q45 : (Nat → Nat → Int32) → (Int32) → (Option ((Nat → Nat → Int32)))} {σ : Shp} {R : Nat → Nat → Option Nat} {I : Nat → Nat → Int32} {x2 : Int32} {x4 : Int32} {s0 : Option Nat} {s1 : Int32} {s2 : Int32} (hq45 : ∀ (I : Nat → Nat → Int32) (x2 : Int32), Ok (q45 I x2) (fun r => Ag WX12_lay_l45 I r)) (hs_s0 : Cin [(162, 163)] s0) : Ok (gX12_lay_b108 q45 σ R I x2 x4 s0 s1 s2) (fun r => Ag WX12_lay_b108 I r) := by
  unfold gX12_lay_b108
  refine Ok_bc (fun a7 e_1 => ?_)
  refine Ok_g (fun g_2 => ?_)
  refine Ok_g (fun g_3 => ?_)
  have m_4 := Ag.st (k := (Int32.toNatClampNeg s1)) (v := s2) Ag.rf (inW_mo (L := [(162, 163)]) (M := WX12_lay_b108) rfl (Cin.get hs_s0 e_1))
  refine Ok_g (fun g_5 => ?_)
  have m_6 := Ag.st (k := (Int32.toNatClampNeg x4)) (v := (vp_nar .boolean (1 : Int32))) m_4 (show inW WX12_lay_b108 161 = true from rfl)
  refine Ok_g (fun g_7 => ?_)
  have m_8 := Ag.st (k := (Int32.toNatClampNeg (I12 114 83))) (v := x4) m_6 (show inW WX12_lay_b108 163 = true from rfl)
  have m_9 := Ag.st (k := 83) (v := ((I14 114 83) + (1 : Int32))) m_8 (show inW WX12_lay_b108 114 = true from rfl)
  exact Ok_m (hq45 _ _) (fun _ hr => (Ag.tr m_9 (Ag.mo rfl hr)))
def WX12_lay_l45 : List (Nat × Nat) := [(114, 115), (161, 162), (162, 163), (163, 164)]
theorem aX12_lay_l45 {σ : Shp} {R : Nat → Nat → Option Nat} : ∀ (n : Nat) (I : Nat → Nat → Int32) (x2 : Int32), Ok (gX12_lay_l45 σ R n I x2) (fun r => Ag WX12_lay_l45 I r) := by
  intro n
  induction n with
  | zero => intro I x2; exact Ok_e rfl
  | succ n ih =>
    intro I x2
    rw [gX12_lay_l45]
    refine Ok_i (fun g_1 => ?_) (fun _ => ?_)
    · exact Ok_s Ag.rf
    · refine Ok_g (fun g_2 => ?_)
      refine Ok_g (fun g_3 => ?_)
      refine Ok_i (fun g_4 => ?_) (fun _ => ?_)
      · exact Ok_m (aX12_lay_b108 ih ⟨_, rfl, (show inW [(162, 163)] 162 = true from rfl)⟩) (fun _ hr => (Ag.tr Ag.rf (Ag.mo rfl hr)))
      · refine Ok_g (fun g_5 => ?_)
        refine Ok_i (fun g_6 => ?_) (fun _ => ?_)
        · exact Ok_m (aX12_lay_b108 ih ⟨_, rfl, (show inW [(162, 163)] 162 = true from rfl)⟩) (fun _ hr => (Ag.tr Ag.rf (Ag.mo rfl hr)))
        · refine Ok_g (fun g_7 => ?_)
          exact Ok_m (aX12_lay_b108 ih ⟨_, rfl, (show inW [(162, 163)] 162 = true from rfl)⟩) (fun _ hr => (Ag.tr Ag.rf (Ag.mo rfl hr)))
def WX12_lay_l4 : List (Nat × Nat) := [(114, 115), (160, 161), (161, 162), (162, 163), (163, 164), (164, 165)]
theorem aX12_lay_l4 {σ : Shp} {R : Nat → Nat → Option Nat} : ∀ (n : Nat) (I : Nat → Nat → Int32) (x2 : Int32) (x3 : Int32), Ok (gX12_lay_l4 σ R n I x2 x3) (fun r => Ag WX12_lay_l4 I r) := by
  intro n
  induction n with
  | zero => intro I x2 x3; exact Ok_e rfl
  | succ n ih =>
    intro I x2 x3
    rw [gX12_lay_l4]
    refine Ok_i (fun g_1 => ?_) (fun _ => ?_)
    · exact Ok_m (aX12_lay_l45  _ _ _) (fun _ hr => (Ag.tr Ag.rf (Ag.mo rfl hr)))
    · refine Ok_g (fun g_2 => ?_)
      refine Ok_i (fun g_3 => ?_) (fun _ => ?_)
      · have m_4 := Ag.st (k := (Int32.toNatClampNeg x3)) (v := (vp_nar .boolean (1 : Int32))) Ag.rf (show inW WX12_lay_l4 160 = true from rfl)
        refine Ok_g (fun g_5 => ?_)
        have m_6 := Ag.st (k := (Int32.toNatClampNeg x2)) (v := x3) m_4 (show inW WX12_lay_l4 164 = true from rfl)
        refine Ok_g (fun g_7 => ?_)
        exact Ok_m (ih _ _ _) (fun _ hr => (Ag.tr m_6 (Ag.mo rfl hr)))
      · exact Ok_m (aX12_lay_l45  _ _ _) (fun _ hr => (Ag.tr Ag.rf (Ag.mo rfl hr)))
def WX12_lay : List (Nat × Nat) := [(114, 115), (160, 161), (161, 162), (162, 163), (163, 164), (164, 165)]
theorem aX12_lay {σ : Shp} {I : Nat → Nat → Int32} {R : Nat → Nat → Option Nat} {x1 : Int32} : Ok (gX12_lay σ I R x1) (fun r => Ag WX12_lay I r) := by
  unfold gX12_lay
  exact Ok_m (aX12_lay_l4  _ _ _ _) (fun _ hr => (Ag.tr Ag.rf (Ag.mo rfl hr)))
def WX12_valueOf_b87 : List (Nat × Nat) := []
theorem aX12_valueOf_b87 {σ : Shp} {R : Nat → Nat → Option Nat} {I : Nat → Nat → Int32} {x1 : Int32} {x2 : Int32} {x3 : Int32} {x4 : Int32} : Ok (gX12_valueOf_b87 σ R I x1 x2 x3 x4) (fun r => Ag WX12_valueOf_b87 I r.1) := by
  unfold gX12_valueOf_b87
  refine Ok_i (fun g_1 => ?_) (fun _ => ?_)
  · refine Ok_g (fun g_2 => ?_)
    refine Ok_g (fun g_3 => ?_)
    exact Ok_s Ag.rf
  · refine Ok_g (fun g_4 => ?_)
    refine Ok_g (fun g_5 => ?_)
    refine Ok_g (fun g_6 => ?_)
    refine Ok_g (fun g_7 => ?_)
    refine Ok_bc (fun r11 e_8 => ?_)
    refine Ok_g (fun g_9 => ?_)
    exact Ok_s Ag.rf
def WX12_valueOf_l55 : List (Nat × Nat) := []
theorem aX12_valueOf_l55 {σ : Shp} {R : Nat → Nat → Option Nat} : ∀ (n : Nat) (I : Nat → Nat → Int32) (x1 : Int32) (x2 : Int32) (x3 : Int32) (x4 : Int32), Ok (gX12_valueOf_l55 σ R n I x1 x2 x3 x4) (fun r => Ag WX12_valueOf_l55 I r.1) := by
  intro n
  induction n with
  | zero => intro I x1 x2 x3 x4; exact Ok_e rfl
  | succ n ih =>
    intro I x1 x2 x3 x4
    rw [gX12_valueOf_l55]
    refine Ok_i (fun g_1 => ?_) (fun _ => ?_)
    · exact Ok_m (aX12_valueOf_b87) (fun _ hr => (Ag.tr Ag.rf (Ag.mo rfl hr)))
    · refine Ok_g (fun g_2 => ?_)
      refine Ok_i (fun g_3 => ?_) (fun _ => ?_)
      · exact Ok_m (aX12_valueOf_b87) (fun _ hr => (Ag.tr Ag.rf (Ag.mo rfl hr)))
      · exact Ok_m (ih _ _ _ _ _) (fun _ hr => (Ag.tr Ag.rf (Ag.mo rfl hr)))
def WX12_valueOf : List (Nat × Nat) := [(114, 115), (160, 161), (161, 162), (162, 163), (163, 164), (164, 165)]
theorem aX12_valueOf {σ : Shp} {I : Nat → Nat → Int32} {R : Nat → Nat → Option Nat} {x1 : Int32} {x2 : Int32} : Ok (gX12_valueOf σ I R x1 x2) (fun r => Ag WX12_valueOf I r.1) := by
  unfold gX12_valueOf
  refine Ok_b (aX12_lay) ?_
  intro I1 hr
  have h_1 := hr
  have m_2 : Ag WX12_valueOf I I1 := Ag.tr Ag.rf (Ag.mo rfl h_1)
  refine Ok_g (fun g_3 => ?_)
  refine Ok_i (fun g_4 => ?_) (fun _ => ?_)
  · refine Ok_g (fun g_5 => ?_)
    exact Ok_s m_2
  · refine Ok_g (fun g_6 => ?_)
    refine Ok_i (fun g_7 => ?_) (fun _ => ?_)
    · exact Ok_m (aX12_valueOf_l55  _ _ _ _ _ _) (fun _ hr => (Ag.tr m_2 (Ag.mo rfl hr)))
    · refine Ok_g (fun g_8 => ?_)
      refine Ok_g (fun g_9 => ?_)
      exact Ok_s m_2
def WX12_value : List (Nat × Nat) := [(114, 115), (160, 161), (161, 162), (162, 163), (163, 164), (164, 165)]
theorem aX12_value {σ : Shp} {I : Nat → Nat → Int32} {R : Nat → Nat → Option Nat} {x1 : Int32} {x2 : Int32} : Ok (gX12_value σ I R x1 x2) (fun r => Ag WX12_value I r.1) := by
  unfold gX12_value
  refine Ok_i (fun g_1 => ?_) (fun _ => ?_)
  · exact Ok_s Ag.rf
  · refine Ok_b (aX12_valueOf) ?_
    intro rr hr
    obtain ⟨I1, r2⟩ := rr
    have h_2 := hr
    have m_3 : Ag WX12_value I I1 := Ag.tr Ag.rf (Ag.mo rfl h_2)
    exact Ok_s m_3
def WX12_read : List (Nat × Nat) := [(165, 166)]
theorem aX12_read {J : Nat → Nat → Int64} {x1 : Int32} {x2 : Int64} : Ok (gX12_read J x1 x2) (fun r => Ag WX12_read J r.1) := by
  unfold gX12_read
  refine Ok_i (fun g_1 => ?_) (fun _ => ?_)
  · exact Ok_s Ag.rf
  · refine Ok_g (fun g_2 => ?_)
    have m_3 := Ag.st (k := (Int32.toNatClampNeg x1)) (v := (fX12_fitted (7 : Int32) x2)) Ag.rf (show inW WX12_read 165 = true from rfl)
    exact Ok_s m_3
def WX12_part : List (Nat × Nat) := [(114, 115)]
theorem aX12_part {D : Nat → Nat → UInt64} {x1 : Int64} : Ok (gX12_part D x1) (fun r => Ag WX12_part D r.1) := by
  unfold gX12_part
  refine Ok_i (fun g_1 => ?_) (fun _ => ?_)
  · exact Ok_s Ag.rf
  · refine Ok_bc (fun r2 e_2 => ?_)
    refine Ok_i (fun g_3 => ?_) (fun _ => ?_)
    · refine Ok_bc (fun r4 e_4 => ?_)
      have m_5 := Ag.st (k := 94) (v := r4) Ag.rf (show inW WX12_part 114 = true from rfl)
      exact Ok_s m_5
    · exact Ok_s Ag.rf
def WX12_find_b122 : List (Nat × Nat) := [(173, 174)]
theorem aX12_find_b122 {q52 : (Nat → Nat → Int64) → (Int32) → (Int32) → (Int32) → (Option ((Nat → Nat → Int64)))} {q68 : (Nat → Nat → Int64) → (Int32) → (Int32) → (Int32) → (Int32) → (Int32) → (Option ((Nat → Nat → Int64)))} {σ : Shp} {I : Nat → Nat → Int32} {R : Nat → Nat → Option Nat} {J : Nat → Nat → Int64} {x1 : Int32} {x2 : Int32} {x3 : Int32} {x4 : Int32} {x5 : Int32} {s0 : Int32} (hq52 : ∀ (J : Nat → Nat → Int64) (x1 : Int32) (x2 : Int32) (x3 : Int32), Ok (q52 J x1 x2 x3) (fun r => Ag WX12_find_l52 J r)) (hq68 : ∀ (J : Nat → Nat → Int64) (x1 : Int32) (x2 : Int32) (x3 : Int32) (x4 : Int32) (x5 : Int32), Ok (q68 J x1 x2 x3 x4 x5) (fun r => Ag WX12_find_l68 J r)) : Ok (gX12_find_b122 q52 q68 σ I R J x1 x2 x3 x4 x5 s0) (fun r => Ag WX12_find_b122 J r) := by
  unfold gX12_find_b122
  refine Ok_t ?_
  intro r15
  refine Ok_i (fun g_1 => ?_) (fun _ => ?_)
  · exact Ok_m (hq68 _ _ _ _ _ _) (fun _ hr => (Ag.tr Ag.rf (Ag.mo rfl hr)))
  · refine Ok_g (fun g_2 => ?_)
    refine Ok_i (fun g_3 => ?_) (fun _ => ?_)
    · refine Ok_i (fun g_4 => ?_) (fun _ => ?_)
      · exact Ok_m (hq68 _ _ _ _ _ _) (fun _ hr => (Ag.tr Ag.rf (Ag.mo rfl hr)))
      · exact Ok_m (hq68 _ _ _ _ _ _) (fun _ hr => (Ag.tr Ag.rf (Ag.mo rfl hr)))
    · exact Ok_m (hq68 _ _ _ _ _ _) (fun _ hr => (Ag.tr Ag.rf (Ag.mo rfl hr)))
def WX12_find_l68 : List (Nat × Nat) := [(173, 174)]
theorem aX12_find_l68 {q52 : (Nat → Nat → Int64) → (Int32) → (Int32) → (Int32) → (Option ((Nat → Nat → Int64)))} {σ : Shp} {I : Nat → Nat → Int32} {R : Nat → Nat → Option Nat} (hq52 : ∀ (J : Nat → Nat → Int64) (x1 : Int32) (x2 : Int32) (x3 : Int32), Ok (q52 J x1 x2 x3) (fun r => Ag WX12_find_l52 J r)) : ∀ (n : Nat) (J : Nat → Nat → Int64) (x1 : Int32) (x2 : Int32) (x3 : Int32) (x4 : Int32) (x5 : Int32), Ok (gX12_find_l68 q52 σ I R n J x1 x2 x3 x4 x5) (fun r => Ag WX12_find_l68 J r) := by
  intro n
  induction n with
  | zero => intro J x1 x2 x3 x4 x5; exact Ok_e rfl
  | succ n ih =>
    intro J x1 x2 x3 x4 x5
    rw [gX12_find_l68]
    refine Ok_i (fun g_1 => ?_) (fun _ => ?_)
    · refine Ok_t ?_
      intro r3
      refine Ok_i (fun g_2 => ?_) (fun _ => ?_)
      · exact Ok_m (hq52 _ _ _ _) (fun _ hr => (Ag.tr Ag.rf (Ag.mo rfl hr)))
      · refine Ok_g (fun g_3 => ?_)
        refine Ok_i (fun g_4 => ?_) (fun _ => ?_)
        · refine Ok_i (fun g_5 => ?_) (fun _ => ?_)
          · refine Ok_g (fun g_6 => ?_)
            refine Ok_g (fun g_7 => ?_)
            have m_8 := Ag.st (k := (Int32.toNatClampNeg x1)) (v := (J 165 (Int32.toNatClampNeg x3))) Ag.rf (show inW WX12_find_l68 173 = true from rfl)
            exact Ok_m (hq52 _ _ _ _) (fun _ hr => (Ag.tr m_8 (Ag.mo rfl hr)))
          · exact Ok_m (hq52 _ _ _ _) (fun _ hr => (Ag.tr Ag.rf (Ag.mo rfl hr)))
        · exact Ok_m (hq52 _ _ _ _) (fun _ hr => (Ag.tr Ag.rf (Ag.mo rfl hr)))
    · refine Ok_g (fun g_9 => ?_)
      refine Ok_g (fun g_10 => ?_)
      refine Ok_i (fun g_11 => ?_) (fun _ => ?_)
      · refine Ok_i (fun g_12 => ?_) (fun _ => ?_)
        · refine Ok_i (fun g_13 => ?_) (fun _ => ?_)
          · exact Ok_m (aX12_find_b122 hq52 ih) (fun _ hr => (Ag.tr Ag.rf (Ag.mo rfl hr)))
          · exact Ok_m (aX12_find_b122 hq52 ih) (fun _ hr => (Ag.tr Ag.rf (Ag.mo rfl hr)))
        · exact Ok_m (aX12_find_b122 hq52 ih) (fun _ hr => (Ag.tr Ag.rf (Ag.mo rfl hr)))
      · exact Ok_m (aX12_find_b122 hq52 ih) (fun _ hr => (Ag.tr Ag.rf (Ag.mo rfl hr)))
def WX12_find_l52 : List (Nat × Nat) := [(173, 174)]
theorem aX12_find_l52 {σ : Shp} {I : Nat → Nat → Int32} {R : Nat → Nat → Option Nat} : ∀ (n : Nat) (J : Nat → Nat → Int64) (x1 : Int32) (x2 : Int32) (x3 : Int32), Ok (gX12_find_l52 σ I R n J x1 x2 x3) (fun r => Ag WX12_find_l52 J r) := by
  intro n
  induction n with
  | zero => intro J x1 x2 x3; exact Ok_e rfl
  | succ n ih =>
    intro J x1 x2 x3
    rw [gX12_find_l52]
    refine Ok_i (fun g_1 => ?_) (fun _ => ?_)
    · exact Ok_s Ag.rf
    · refine Ok_i (fun g_2 => ?_) (fun _ => ?_)
      · exact Ok_s Ag.rf
      · exact Ok_m (aX12_find_l68 ih _ _ _ _ _ _ _) (fun _ hr => (Ag.tr Ag.rf (Ag.mo rfl hr)))
def WX12_find_l4 : List (Nat × Nat) := [(173, 174)]
theorem aX12_find_l4 {σ : Shp} {I : Nat → Nat → Int32} {R : Nat → Nat → Option Nat} : ∀ (n : Nat) (J : Nat → Nat → Int64) (x1 : Int32) (x2 : Int32) (x3 : Int32), Ok (gX12_find_l4 σ I R n J x1 x2 x3) (fun r => Ag WX12_find_l4 J r) := by
  intro n
  induction n with
  | zero => intro J x1 x2 x3; exact Ok_e rfl
  | succ n ih =>
    intro J x1 x2 x3
    rw [gX12_find_l4]
    refine Ok_i (fun g_1 => ?_) (fun _ => ?_)
    · refine Ok_g (fun g_2 => ?_)
      have m_3 := Ag.st (k := (Int32.toNatClampNeg x1)) (v := (9221120237041090560 : Int64)) Ag.rf (show inW WX12_find_l4 173 = true from rfl)
      exact Ok_m (aX12_find_l52  _ _ _ _ _) (fun _ hr => (Ag.tr m_3 (Ag.mo rfl hr)))
    · refine Ok_t ?_
      intro r26
      refine Ok_i (fun g_4 => ?_) (fun _ => ?_)
      · exact Ok_m (ih _ _ _ _) (fun _ hr => (Ag.tr Ag.rf (Ag.mo rfl hr)))
      · refine Ok_g (fun g_5 => ?_)
        refine Ok_i (fun g_6 => ?_) (fun _ => ?_)
        · exact Ok_m (ih _ _ _ _) (fun _ hr => (Ag.tr Ag.rf (Ag.mo rfl hr)))
        · exact Ok_m (ih _ _ _ _) (fun _ hr => (Ag.tr Ag.rf (Ag.mo rfl hr)))
def WX12_find : List (Nat × Nat) := [(173, 174)]
theorem aX12_find {σ : Shp} {I : Nat → Nat → Int32} {J : Nat → Nat → Int64} {R : Nat → Nat → Option Nat} {x1 : Int32} : Ok (gX12_find σ I J R x1) (fun r => Ag WX12_find J r) := by
  unfold gX12_find
  exact Ok_m (aX12_find_l4  _ _ _ _ _) (fun _ hr => (Ag.tr Ag.rf (Ag.mo rfl hr)))
def WX12_countIn_b186 : List (Nat × Nat) := [(169, 170), (170, 171)]
theorem aX12_countIn_b186 {q104 : (Nat → Nat → Int32) → (Int32) → (Int32) → (Int32) → (Option ((Nat → Nat → Int32)))} {σ : Shp} {J : Nat → Nat → Int64} {D : Nat → Nat → UInt64} {R : Nat → Nat → Option Nat} {I : Nat → Nat → Int32} {x1 : Int32} {x2 : Int32} {x3 : Int32} {x4 : Int32} {x5 : Int32} {s0 : Option Nat} {s1 : Int32} {s2 : Int32} (hq104 : ∀ (I : Nat → Nat → Int32) (x1 : Int32) (x2 : Int32) (x3 : Int32), Ok (q104 I x1 x2 x3) (fun r => Ag WX12_countIn_l104 I r)) (hs_s0 : Cin [(169, 170)] s0) : Ok (gX12_countIn_b186 q104 σ J D R I x1 x2 x3 x4 x5 s0 s1 s2) (fun r => Ag WX12_countIn_b186 I r) := by
  unfold gX12_countIn_b186
  refine Ok_bc (fun a3 e_1 => ?_)
  refine Ok_g (fun g_2 => ?_)
  refine Ok_g (fun g_3 => ?_)
  have m_4 := Ag.st (k := (Int32.toNatClampNeg s1)) (v := s2) Ag.rf (inW_mo (L := [(169, 170)]) (M := WX12_countIn_b186) rfl (Cin.get hs_s0 e_1))
  refine Ok_i (fun g_5 => ?_) (fun _ => ?_)
  · refine Ok_g (fun g_6 => ?_)
    have m_7 := Ag.st (k := (Int32.toNatClampNeg x3)) (v := (0 : Int32)) m_4 (show inW WX12_countIn_b186 170 = true from rfl)
    exact Ok_m (hq104 _ _ _ _) (fun _ hr => (Ag.tr m_7 (Ag.mo rfl hr)))
  · refine Ok_i (fun g_8 => ?_) (fun _ => ?_)
    · refine Ok_g (fun g_9 => ?_)
      have m_10 := Ag.st (k := (Int32.toNatClampNeg x3)) (v := ((I6 170 (Int32.toNatClampNeg x3)) + (1 : Int32))) m_4 (show inW WX12_countIn_b186 170 = true from rfl)
      exact Ok_m (hq104 _ _ _ _) (fun _ hr => (Ag.tr m_10 (Ag.mo rfl hr)))
    · refine Ok_g (fun g_11 => ?_)
      have m_12 := Ag.st (k := (Int32.toNatClampNeg x3)) (v := (0 : Int32)) m_4 (show inW WX12_countIn_b186 170 = true from rfl)
      exact Ok_m (hq104 _ _ _ _) (fun _ hr => (Ag.tr m_12 (Ag.mo rfl hr)))
def WX12_countIn_b162 : List (Nat × Nat) := [(169, 170), (170, 171)]
theorem aX12_countIn_b162 {q104 : (Nat → Nat → Int32) → (Int32) → (Int32) → (Int32) → (Option ((Nat → Nat → Int32)))} {σ : Shp} {J : Nat → Nat → Int64} {D : Nat → Nat → UInt64} {R : Nat → Nat → Option Nat} {I : Nat → Nat → Int32} {x1 : Int32} {x2 : Int32} {x3 : Int32} {x4 : Int32} {s0 : Int32} (hq104 : ∀ (I : Nat → Nat → Int32) (x1 : Int32) (x2 : Int32) (x3 : Int32), Ok (q104 I x1 x2 x3) (fun r => Ag WX12_countIn_l104 I r)) : Ok (gX12_countIn_b162 q104 σ J D R I x1 x2 x3 x4 s0) (fun r => Ag WX12_countIn_b162 I r) := by
  unfold gX12_countIn_b162
  refine Ok_i (fun g_1 => ?_) (fun _ => ?_)
  · exact Ok_m (aX12_countIn_b186 hq104 ⟨_, rfl, (show inW [(169, 170)] 169 = true from rfl)⟩) (fun _ hr => (Ag.tr Ag.rf (Ag.mo rfl hr)))
  · refine Ok_g (fun g_2 => ?_)
    exact Ok_m (aX12_countIn_b186 hq104 ⟨_, rfl, (show inW [(169, 170)] 169 = true from rfl)⟩) (fun _ hr => (Ag.tr Ag.rf (Ag.mo rfl hr)))
def WX12_countIn_b141 : List (Nat × Nat) := [(169, 170), (170, 171)]
theorem aX12_countIn_b141 {q104 : (Nat → Nat → Int32) → (Int32) → (Int32) → (Int32) → (Option ((Nat → Nat → Int32)))} {σ : Shp} {J : Nat → Nat → Int64} {D : Nat → Nat → UInt64} {R : Nat → Nat → Option Nat} {I : Nat → Nat → Int32} {x1 : Int32} {x2 : Int32} {x3 : Int32} {s0 : Int32} (hq104 : ∀ (I : Nat → Nat → Int32) (x1 : Int32) (x2 : Int32) (x3 : Int32), Ok (q104 I x1 x2 x3) (fun r => Ag WX12_countIn_l104 I r)) : Ok (gX12_countIn_b141 q104 σ J D R I x1 x2 x3 s0) (fun r => Ag WX12_countIn_b141 I r) := by
  unfold gX12_countIn_b141
  refine Ok_i (fun g_1 => ?_) (fun _ => ?_)
  · exact Ok_m (aX12_countIn_b162 hq104) (fun _ hr => (Ag.tr Ag.rf (Ag.mo rfl hr)))
  · refine Ok_t ?_
    intro r17
    refine Ok_i (fun g_2 => ?_) (fun _ => ?_)
    · exact Ok_m (aX12_countIn_b162 hq104) (fun _ hr => (Ag.tr Ag.rf (Ag.mo rfl hr)))
    · exact Ok_m (aX12_countIn_b162 hq104) (fun _ hr => (Ag.tr Ag.rf (Ag.mo rfl hr)))
def WX12_countIn_l104 : List (Nat × Nat) := [(169, 170), (170, 171)]
theorem aX12_countIn_l104 {σ : Shp} {J : Nat → Nat → Int64} {D : Nat → Nat → UInt64} {R : Nat → Nat → Option Nat} : ∀ (n : Nat) (I : Nat → Nat → Int32) (x1 : Int32) (x2 : Int32) (x3 : Int32), Ok (gX12_countIn_l104 σ J D R n I x1 x2 x3) (fun r => Ag WX12_countIn_l104 I r) := by
  intro n
  induction n with
  | zero => intro I x1 x2 x3; exact Ok_e rfl
  | succ n ih =>
    intro I x1 x2 x3
    rw [gX12_countIn_l104]
    refine Ok_i (fun g_1 => ?_) (fun _ => ?_)
    · exact Ok_s Ag.rf
    · refine Ok_t ?_
      intro r1
      refine Ok_i (fun g_2 => ?_) (fun _ => ?_)
      · exact Ok_m (aX12_countIn_b141 ih) (fun _ hr => (Ag.tr Ag.rf (Ag.mo rfl hr)))
      · refine Ok_i (fun g_3 => ?_) (fun _ => ?_)
        · refine Ok_g (fun g_4 => ?_)
          refine Ok_i (fun g_5 => ?_) (fun _ => ?_)
          · exact Ok_m (aX12_countIn_b141 ih) (fun _ hr => (Ag.tr Ag.rf (Ag.mo rfl hr)))
          · exact Ok_m (aX12_countIn_b141 ih) (fun _ hr => (Ag.tr Ag.rf (Ag.mo rfl hr)))
        · exact Ok_m (aX12_countIn_b141 ih) (fun _ hr => (Ag.tr Ag.rf (Ag.mo rfl hr)))
def WX12_countIn_b60 : List (Nat × Nat) := [(169, 170), (170, 171), (171, 172), (172, 173)]
theorem aX12_countIn_b60 {q4 : (Nat → Nat → Int32) → (Int32) → (Int32) → (Int32) → (Option ((Nat → Nat → Int32)))} {σ : Shp} {J : Nat → Nat → Int64} {D : Nat → Nat → UInt64} {R : Nat → Nat → Option Nat} {I : Nat → Nat → Int32} {x1 : Int32} {x2 : Int32} {x3 : Int32} {s0 : Option Nat} {s1 : Int32} {s2 : Int32} (hq4 : ∀ (I : Nat → Nat → Int32) (x1 : Int32) (x2 : Int32) (x3 : Int32), Ok (q4 I x1 x2 x3) (fun r => Ag WX12_countIn_l4 I r)) (hs_s0 : Cin [(172, 173)] s0) : Ok (gX12_countIn_b60 q4 σ J D R I x1 x2 x3 s0 s1 s2) (fun r => Ag WX12_countIn_b60 I r) := by
  unfold gX12_countIn_b60
  refine Ok_bc (fun a23 e_1 => ?_)
  refine Ok_g (fun g_2 => ?_)
  refine Ok_g (fun g_3 => ?_)
  have m_4 := Ag.st (k := (Int32.toNatClampNeg s1)) (v := (vp_nar .boolean s2)) Ag.rf (inW_mo (L := [(172, 173)]) (M := WX12_countIn_b60) rfl (Cin.get hs_s0 e_1))
  refine Ok_i (fun g_5 => ?_) (fun _ => ?_)
  · refine Ok_g (fun g_6 => ?_)
    have m_7 := Ag.st (k := (Int32.toNatClampNeg x3)) (v := (1 : Int32)) m_4 (show inW WX12_countIn_b60 171 = true from rfl)
    exact Ok_m (hq4 _ _ _ _) (fun _ hr => (Ag.tr m_7 (Ag.mo rfl hr)))
  · refine Ok_g (fun g_8 => ?_)
    refine Ok_i (fun g_9 => ?_) (fun _ => ?_)
    · refine Ok_g (fun g_10 => ?_)
      have m_11 := Ag.st (k := (Int32.toNatClampNeg x3)) (v := ((I26 171 (Int32.toNatClampNeg x3)) + (1 : Int32))) m_4 (show inW WX12_countIn_b60 171 = true from rfl)
      exact Ok_m (hq4 _ _ _ _) (fun _ hr => (Ag.tr m_11 (Ag.mo rfl hr)))
    · refine Ok_g (fun g_12 => ?_)
      have m_13 := Ag.st (k := (Int32.toNatClampNeg x3)) (v := (1 : Int32)) m_4 (show inW WX12_countIn_b60 171 = true from rfl)
      exact Ok_m (hq4 _ _ _ _) (fun _ hr => (Ag.tr m_13 (Ag.mo rfl hr)))
def WX12_countIn_b24 : List (Nat × Nat) := [(169, 170), (170, 171), (171, 172), (172, 173)]
theorem aX12_countIn_b24 {q4 : (Nat → Nat → Int32) → (Int32) → (Int32) → (Int32) → (Option ((Nat → Nat → Int32)))} {σ : Shp} {J : Nat → Nat → Int64} {D : Nat → Nat → UInt64} {R : Nat → Nat → Option Nat} {I : Nat → Nat → Int32} {x1 : Int32} {x3 : Int32} {s0 : Int32} {s1 : Int32} (hq4 : ∀ (I : Nat → Nat → Int32) (x1 : Int32) (x2 : Int32) (x3 : Int32), Ok (q4 I x1 x2 x3) (fun r => Ag WX12_countIn_l4 I r)) : Ok (gX12_countIn_b24 q4 σ J D R I x1 x3 s0 s1) (fun r => Ag WX12_countIn_b24 I r) := by
  unfold gX12_countIn_b24
  refine Ok_i (fun g_1 => ?_) (fun _ => ?_)
  · exact Ok_m (aX12_countIn_b60 hq4 ⟨_, rfl, (show inW [(172, 173)] 172 = true from rfl)⟩) (fun _ hr => (Ag.tr Ag.rf (Ag.mo rfl hr)))
  · refine Ok_g (fun g_2 => ?_)
    refine Ok_g (fun g_3 => ?_)
    refine Ok_i (fun g_4 => ?_) (fun _ => ?_)
    · exact Ok_m (aX12_countIn_b60 hq4 ⟨_, rfl, (show inW [(172, 173)] 172 = true from rfl)⟩) (fun _ hr => (Ag.tr Ag.rf (Ag.mo rfl hr)))
    · exact Ok_m (aX12_countIn_b60 hq4 ⟨_, rfl, (show inW [(172, 173)] 172 = true from rfl)⟩) (fun _ hr => (Ag.tr Ag.rf (Ag.mo rfl hr)))
def WX12_countIn_l4 : List (Nat × Nat) := [(169, 170), (170, 171), (171, 172), (172, 173)]
theorem aX12_countIn_l4 {σ : Shp} {J : Nat → Nat → Int64} {D : Nat → Nat → UInt64} {R : Nat → Nat → Option Nat} : ∀ (n : Nat) (I : Nat → Nat → Int32) (x1 : Int32) (x2 : Int32) (x3 : Int32), Ok (gX12_countIn_l4 σ J D R n I x1 x2 x3) (fun r => Ag WX12_countIn_l4 I r) := by
  intro n
  induction n with
  | zero => intro I x1 x2 x3; exact Ok_e rfl
  | succ n ih =>
    intro I x1 x2 x3
    rw [gX12_countIn_l4]
    refine Ok_i (fun g_1 => ?_) (fun _ => ?_)
    · exact Ok_m (aX12_countIn_l104  _ _ _ _ _) (fun _ hr => (Ag.tr Ag.rf (Ag.mo rfl hr)))
    · refine Ok_t ?_
      intro r20
      refine Ok_i (fun g_2 => ?_) (fun _ => ?_)
      · exact Ok_m (aX12_countIn_b24 ih) (fun _ hr => (Ag.tr Ag.rf (Ag.mo rfl hr)))
      · exact Ok_m (aX12_countIn_b24 ih) (fun _ hr => (Ag.tr Ag.rf (Ag.mo rfl hr)))
def WX12_countIn : List (Nat × Nat) := [(169, 170), (170, 171), (171, 172), (172, 173)]
theorem aX12_countIn {σ : Shp} {I : Nat → Nat → Int32} {J : Nat → Nat → Int64} {D : Nat → Nat → UInt64} {R : Nat → Nat → Option Nat} {x1 : Int32} : Ok (gX12_countIn σ I J D R x1) (fun r => Ag WX12_countIn I r) := by
  unfold gX12_countIn
  exact Ok_m (aX12_countIn_l4  _ _ _ _ _) (fun _ hr => (Ag.tr Ag.rf (Ag.mo rfl hr)))
def WX12_vote_l219 : List (Nat × Nat) := [(166, 167)]
theorem aX12_vote_l219 {σ : Shp} {D : Nat → Nat → UInt64} {R : Nat → Nat → Option Nat} : ∀ (n : Nat) (I : Nat → Nat → Int32) (J : Nat → Nat → Int64) (x2 : Int32), Ok (gX12_vote_l219 σ D R n I J x2) (fun r => Ag WX12_vote_l219 I r.1 ∧ Ag WX12_vote_l219 J r.2) := by
  intro n
  induction n with
  | zero => intro I J x2; exact Ok_e rfl
  | succ n ih =>
    intro I J x2
    rw [gX12_vote_l219]
    refine Ok_i (fun g_1 => ?_) (fun _ => ?_)
    · exact Ok_s ⟨Ag.rf, Ag.rf⟩
    · refine Ok_g (fun g_2 => ?_)
      refine Ok_g (fun g_3 => ?_)
      have m_4 := Ag.st (k := (Int32.toNatClampNeg x2)) (v := (J 165 (Int32.toNatClampNeg x2))) Ag.rf (show inW WX12_vote_l219 166 = true from rfl)
      exact Ok_m (ih _ _ _) (fun _ ⟨h0, h1⟩ => ⟨(Ag.tr Ag.rf (Ag.mo rfl h0)), (Ag.tr m_4 (Ag.mo rfl h1))⟩)
def WX12_vote_b164 : List (Nat × Nat) := [(166, 167), (167, 168), (168, 169), (169, 170), (170, 171)]
theorem aX12_vote_b164 {q12 : (Nat → Nat → Int32) → (Nat → Nat → Int64) → (Int32) → (Int32) → (Option ((Nat → Nat → Int32) × (Nat → Nat → Int64)))} {σ : Shp} {D : Nat → Nat → UInt64} {R : Nat → Nat → Option Nat} {I : Nat → Nat → Int32} {J : Nat → Nat → Int64} {x1 : Int32} {x2 : Int32} {x4 : Int32} {x5 : Int32} (hq12 : ∀ (I : Nat → Nat → Int32) (J : Nat → Nat → Int64) (x1 : Int32) (x2 : Int32), Ok (q12 I J x1 x2) (fun r => Ag WX12_vote_l12 I r.1 ∧ Ag WX12_vote_l12 J r.2)) : Ok (gX12_vote_b164 q12 σ D R I J x1 x2 x4 x5) (fun r => Ag WX12_vote_b164 I r.1 ∧ Ag WX12_vote_b164 J r.2) := by
  unfold gX12_vote_b164
  refine Ok_g (fun g_1 => ?_)
  have m_2 := Ag.st (k := (Int32.toNatClampNeg x2)) (v := (vp_nar .boolean x5)) Ag.rf (show inW WX12_vote_b164 167 = true from rfl)
  refine Ok_i (fun g_3 => ?_) (fun _ => ?_)
  · refine Ok_i (fun g_4 => ?_) (fun _ => ?_)
    · refine Ok_g (fun g_5 => ?_)
      have m_6 := Ag.st (k := (Int32.toNatClampNeg x2)) (v := (0 : Int32)) m_2 (show inW WX12_vote_b164 168 = true from rfl)
      refine Ok_g (fun g_7 => ?_)
      have m_8 := Ag.st (k := (Int32.toNatClampNeg x2)) (v := (0 : Int32)) m_6 (show inW WX12_vote_b164 169 = true from rfl)
      refine Ok_g (fun g_9 => ?_)
      have m_10 := Ag.st (k := (Int32.toNatClampNeg x2)) (v := (0 : Int32)) m_8 (show inW WX12_vote_b164 170 = true from rfl)
      exact Ok_m (hq12 _ _ _ _) (fun _ ⟨h0, h1⟩ => ⟨(Ag.tr m_10 (Ag.mo rfl h0)), (Ag.tr Ag.rf (Ag.mo rfl h1))⟩)
    · refine Ok_g (fun g_11 => ?_)
      have m_12 := Ag.st (k := (Int32.toNatClampNeg x2)) (v := (1 : Int32)) m_2 (show inW WX12_vote_b164 168 = true from rfl)
      refine Ok_g (fun g_13 => ?_)
      have m_14 := Ag.st (k := (Int32.toNatClampNeg x2)) (v := (0 : Int32)) m_12 (show inW WX12_vote_b164 169 = true from rfl)
      refine Ok_g (fun g_15 => ?_)
      have m_16 := Ag.st (k := (Int32.toNatClampNeg x2)) (v := (0 : Int32)) m_14 (show inW WX12_vote_b164 170 = true from rfl)
      exact Ok_m (hq12 _ _ _ _) (fun _ ⟨h0, h1⟩ => ⟨(Ag.tr m_16 (Ag.mo rfl h0)), (Ag.tr Ag.rf (Ag.mo rfl h1))⟩)
  · refine Ok_g (fun g_17 => ?_)
    have m_18 := Ag.st (k := (Int32.toNatClampNeg x2)) (v := (2 : Int32)) m_2 (show inW WX12_vote_b164 168 = true from rfl)
    refine Ok_g (fun g_19 => ?_)
    have m_20 := Ag.st (k := (Int32.toNatClampNeg x2)) (v := (0 : Int32)) m_18 (show inW WX12_vote_b164 169 = true from rfl)
    refine Ok_g (fun g_21 => ?_)
    have m_22 := Ag.st (k := (Int32.toNatClampNeg x2)) (v := (0 : Int32)) m_20 (show inW WX12_vote_b164 170 = true from rfl)
    exact Ok_m (hq12 _ _ _ _) (fun _ ⟨h0, h1⟩ => ⟨(Ag.tr m_22 (Ag.mo rfl h0)), (Ag.tr Ag.rf (Ag.mo rfl h1))⟩)
def WX12_vote_b121 : List (Nat × Nat) := [(166, 167), (167, 168), (168, 169), (169, 170), (170, 171)]
theorem aX12_vote_b121 {q12 : (Nat → Nat → Int32) → (Nat → Nat → Int64) → (Int32) → (Int32) → (Option ((Nat → Nat → Int32) × (Nat → Nat → Int64)))} {σ : Shp} {D : Nat → Nat → UInt64} {R : Nat → Nat → Option Nat} {I : Nat → Nat → Int32} {J : Nat → Nat → Int64} {x1 : Int32} {x2 : Int32} {x4 : Int32} {s0 : Int32} (hq12 : ∀ (I : Nat → Nat → Int32) (J : Nat → Nat → Int64) (x1 : Int32) (x2 : Int32), Ok (q12 I J x1 x2) (fun r => Ag WX12_vote_l12 I r.1 ∧ Ag WX12_vote_l12 J r.2)) : Ok (gX12_vote_b121 q12 σ D R I J x1 x2 x4 s0) (fun r => Ag WX12_vote_b121 I r.1 ∧ Ag WX12_vote_b121 J r.2) := by
  unfold gX12_vote_b121
  refine Ok_i (fun g_1 => ?_) (fun _ => ?_)
  · refine Ok_g (fun g_2 => ?_)
    refine Ok_i (fun g_3 => ?_) (fun _ => ?_)
    · refine Ok_i (fun g_4 => ?_) (fun _ => ?_)
      · refine Ok_i (fun g_5 => ?_) (fun _ => ?_)
        · exact Ok_m (hq12 _ _ _ _) (fun _ ⟨h0, h1⟩ => ⟨(Ag.tr Ag.rf (Ag.mo rfl h0)), (Ag.tr Ag.rf (Ag.mo rfl h1))⟩)
        · exact Ok_m (aX12_vote_b164 hq12) (fun _ ⟨h0, h1⟩ => ⟨(Ag.tr Ag.rf (Ag.mo rfl h0)), (Ag.tr Ag.rf (Ag.mo rfl h1))⟩)
      · exact Ok_m (aX12_vote_b164 hq12) (fun _ ⟨h0, h1⟩ => ⟨(Ag.tr Ag.rf (Ag.mo rfl h0)), (Ag.tr Ag.rf (Ag.mo rfl h1))⟩)
    · refine Ok_g (fun g_6 => ?_)
      refine Ok_i (fun g_7 => ?_) (fun _ => ?_)
      · refine Ok_i (fun g_8 => ?_) (fun _ => ?_)
        · refine Ok_i (fun g_9 => ?_) (fun _ => ?_)
          · exact Ok_m (hq12 _ _ _ _) (fun _ ⟨h0, h1⟩ => ⟨(Ag.tr Ag.rf (Ag.mo rfl h0)), (Ag.tr Ag.rf (Ag.mo rfl h1))⟩)
          · exact Ok_m (aX12_vote_b164 hq12) (fun _ ⟨h0, h1⟩ => ⟨(Ag.tr Ag.rf (Ag.mo rfl h0)), (Ag.tr Ag.rf (Ag.mo rfl h1))⟩)
        · exact Ok_m (aX12_vote_b164 hq12) (fun _ ⟨h0, h1⟩ => ⟨(Ag.tr Ag.rf (Ag.mo rfl h0)), (Ag.tr Ag.rf (Ag.mo rfl h1))⟩)
      · refine Ok_i (fun g_10 => ?_) (fun _ => ?_)
        · refine Ok_i (fun g_11 => ?_) (fun _ => ?_)
          · exact Ok_m (hq12 _ _ _ _) (fun _ ⟨h0, h1⟩ => ⟨(Ag.tr Ag.rf (Ag.mo rfl h0)), (Ag.tr Ag.rf (Ag.mo rfl h1))⟩)
          · exact Ok_m (aX12_vote_b164 hq12) (fun _ ⟨h0, h1⟩ => ⟨(Ag.tr Ag.rf (Ag.mo rfl h0)), (Ag.tr Ag.rf (Ag.mo rfl h1))⟩)
        · exact Ok_m (aX12_vote_b164 hq12) (fun _ ⟨h0, h1⟩ => ⟨(Ag.tr Ag.rf (Ag.mo rfl h0)), (Ag.tr Ag.rf (Ag.mo rfl h1))⟩)
  · refine Ok_i (fun g_12 => ?_) (fun _ => ?_)
    · refine Ok_i (fun g_13 => ?_) (fun _ => ?_)
      · exact Ok_m (hq12 _ _ _ _) (fun _ ⟨h0, h1⟩ => ⟨(Ag.tr Ag.rf (Ag.mo rfl h0)), (Ag.tr Ag.rf (Ag.mo rfl h1))⟩)
      · exact Ok_m (aX12_vote_b164 hq12) (fun _ ⟨h0, h1⟩ => ⟨(Ag.tr Ag.rf (Ag.mo rfl h0)), (Ag.tr Ag.rf (Ag.mo rfl h1))⟩)
    · exact Ok_m (aX12_vote_b164 hq12) (fun _ ⟨h0, h1⟩ => ⟨(Ag.tr Ag.rf (Ag.mo rfl h0)), (Ag.tr Ag.rf (Ag.mo rfl h1))⟩)
def WX12_vote_b90 : List (Nat × Nat) := [(166, 167), (167, 168), (168, 169), (169, 170), (170, 171)]
theorem aX12_vote_b90 {q12 : (Nat → Nat → Int32) → (Nat → Nat → Int64) → (Int32) → (Int32) → (Option ((Nat → Nat → Int32) × (Nat → Nat → Int64)))} {σ : Shp} {D : Nat → Nat → UInt64} {R : Nat → Nat → Option Nat} {I : Nat → Nat → Int32} {J : Nat → Nat → Int64} {x1 : Int32} {x2 : Int32} {s0 : Int32} (hq12 : ∀ (I : Nat → Nat → Int32) (J : Nat → Nat → Int64) (x1 : Int32) (x2 : Int32), Ok (q12 I J x1 x2) (fun r => Ag WX12_vote_l12 I r.1 ∧ Ag WX12_vote_l12 J r.2)) : Ok (gX12_vote_b90 q12 σ D R I J x1 x2 s0) (fun r => Ag WX12_vote_b90 I r.1 ∧ Ag WX12_vote_b90 J r.2) := by
  unfold gX12_vote_b90
  refine Ok_i (fun g_1 => ?_) (fun _ => ?_)
  · refine Ok_g (fun g_2 => ?_)
    refine Ok_i (fun g_3 => ?_) (fun _ => ?_)
    · refine Ok_g (fun g_4 => ?_)
      refine Ok_i (fun g_5 => ?_) (fun _ => ?_)
      · exact Ok_m (aX12_vote_b121 hq12) (fun _ ⟨h0, h1⟩ => ⟨(Ag.tr Ag.rf (Ag.mo rfl h0)), (Ag.tr Ag.rf (Ag.mo rfl h1))⟩)
      · exact Ok_m (aX12_vote_b121 hq12) (fun _ ⟨h0, h1⟩ => ⟨(Ag.tr Ag.rf (Ag.mo rfl h0)), (Ag.tr Ag.rf (Ag.mo rfl h1))⟩)
    · exact Ok_m (aX12_vote_b121 hq12) (fun _ ⟨h0, h1⟩ => ⟨(Ag.tr Ag.rf (Ag.mo rfl h0)), (Ag.tr Ag.rf (Ag.mo rfl h1))⟩)
  · exact Ok_m (aX12_vote_b121 hq12) (fun _ ⟨h0, h1⟩ => ⟨(Ag.tr Ag.rf (Ag.mo rfl h0)), (Ag.tr Ag.rf (Ag.mo rfl h1))⟩)
def WX12_vote_l23 : List (Nat × Nat) := [(166, 167), (167, 168), (168, 169), (169, 170), (170, 171)]
theorem aX12_vote_l23 {q12 : (Nat → Nat → Int32) → (Nat → Nat → Int64) → (Int32) → (Int32) → (Option ((Nat → Nat → Int32) × (Nat → Nat → Int64)))} {σ : Shp} {D : Nat → Nat → UInt64} {R : Nat → Nat → Option Nat} (hq12 : ∀ (I : Nat → Nat → Int32) (J : Nat → Nat → Int64) (x1 : Int32) (x2 : Int32), Ok (q12 I J x1 x2) (fun r => Ag WX12_vote_l12 I r.1 ∧ Ag WX12_vote_l12 J r.2)) : ∀ (n : Nat) (I : Nat → Nat → Int32) (J : Nat → Nat → Int64) (x1 : Int32) (x2 : Int32) (x3 : Int32) (x4 : Int32), Ok (gX12_vote_l23 q12 σ D R n I J x1 x2 x3 x4) (fun r => Ag WX12_vote_l23 I r.1 ∧ Ag WX12_vote_l23 J r.2) := by
  intro n
  induction n with
  | zero => intro I J x1 x2 x3 x4; exact Ok_e rfl
  | succ n ih =>
    intro I J x1 x2 x3 x4
    rw [gX12_vote_l23]
    refine Ok_i (fun g_1 => ?_) (fun _ => ?_)
    · refine Ok_t ?_
      intro r9
      refine Ok_i (fun g_2 => ?_) (fun _ => ?_)
      · exact Ok_m (aX12_vote_b90 hq12) (fun _ ⟨h0, h1⟩ => ⟨(Ag.tr Ag.rf (Ag.mo rfl h0)), (Ag.tr Ag.rf (Ag.mo rfl h1))⟩)
      · refine Ok_g (fun g_3 => ?_)
        refine Ok_i (fun g_4 => ?_) (fun _ => ?_)
        · exact Ok_m (aX12_vote_b90 hq12) (fun _ ⟨h0, h1⟩ => ⟨(Ag.tr Ag.rf (Ag.mo rfl h0)), (Ag.tr Ag.rf (Ag.mo rfl h1))⟩)
        · refine Ok_i (fun g_5 => ?_) (fun _ => ?_)
          · exact Ok_m (aX12_vote_b90 hq12) (fun _ ⟨h0, h1⟩ => ⟨(Ag.tr Ag.rf (Ag.mo rfl h0)), (Ag.tr Ag.rf (Ag.mo rfl h1))⟩)
          · exact Ok_m (aX12_vote_b90 hq12) (fun _ ⟨h0, h1⟩ => ⟨(Ag.tr Ag.rf (Ag.mo rfl h0)), (Ag.tr Ag.rf (Ag.mo rfl h1))⟩)
    · refine Ok_i (fun g_6 => ?_) (fun _ => ?_)
      · refine Ok_i (fun g_7 => ?_) (fun _ => ?_)
        · exact Ok_m (ih _ _ _ _ _ _) (fun _ ⟨h0, h1⟩ => ⟨(Ag.tr Ag.rf (Ag.mo rfl h0)), (Ag.tr Ag.rf (Ag.mo rfl h1))⟩)
        · refine Ok_g (fun g_8 => ?_)
          refine Ok_i (fun g_9 => ?_) (fun _ => ?_)
          · exact Ok_m (ih _ _ _ _ _ _) (fun _ ⟨h0, h1⟩ => ⟨(Ag.tr Ag.rf (Ag.mo rfl h0)), (Ag.tr Ag.rf (Ag.mo rfl h1))⟩)
          · exact Ok_m (ih _ _ _ _ _ _) (fun _ ⟨h0, h1⟩ => ⟨(Ag.tr Ag.rf (Ag.mo rfl h0)), (Ag.tr Ag.rf (Ag.mo rfl h1))⟩)
      · exact Ok_m (ih _ _ _ _ _ _) (fun _ ⟨h0, h1⟩ => ⟨(Ag.tr Ag.rf (Ag.mo rfl h0)), (Ag.tr Ag.rf (Ag.mo rfl h1))⟩)
def WX12_vote_l12 : List (Nat × Nat) := [(166, 167), (167, 168), (168, 169), (169, 170), (170, 171)]
theorem aX12_vote_l12 {σ : Shp} {D : Nat → Nat → UInt64} {R : Nat → Nat → Option Nat} : ∀ (n : Nat) (I : Nat → Nat → Int32) (J : Nat → Nat → Int64) (x1 : Int32) (x2 : Int32), Ok (gX12_vote_l12 σ D R n I J x1 x2) (fun r => Ag WX12_vote_l12 I r.1 ∧ Ag WX12_vote_l12 J r.2) := by
  intro n
  induction n with
  | zero => intro I J x1 x2; exact Ok_e rfl
  | succ n ih =>
    intro I J x1 x2
    rw [gX12_vote_l12]
    refine Ok_i (fun g_1 => ?_) (fun _ => ?_)
    · exact Ok_m (aX12_vote_l219  _ _ _ _) (fun _ ⟨h0, h1⟩ => ⟨(Ag.tr Ag.rf (Ag.mo rfl h0)), (Ag.tr Ag.rf (Ag.mo rfl h1))⟩)
    · exact Ok_m (aX12_vote_l23 ih _ _ _ _ _ _ _) (fun _ ⟨h0, h1⟩ => ⟨(Ag.tr Ag.rf (Ag.mo rfl h0)), (Ag.tr Ag.rf (Ag.mo rfl h1))⟩)
def WX12_vote : List (Nat × Nat) := [(166, 167), (167, 168), (168, 169), (169, 170), (170, 171), (171, 172), (172, 173), (173, 174)]
theorem aX12_vote {σ : Shp} {I : Nat → Nat → Int32} {J : Nat → Nat → Int64} {D : Nat → Nat → UInt64} {R : Nat → Nat → Option Nat} {x1 : Int32} : Ok (gX12_vote σ I J D R x1) (fun r => Ag WX12_vote I r.1 ∧ Ag WX12_vote J r.2) := by
  unfold gX12_vote
  refine Ok_b (aX12_find) ?_
  intro J1 hr
  have h_1 := hr
  have m_2 : Ag WX12_vote J J1 := Ag.tr Ag.rf (Ag.mo rfl h_1)
  refine Ok_b (aX12_countIn) ?_
  intro I3 hr
  have h_3 := hr
  have m_4 : Ag WX12_vote I I3 := Ag.tr Ag.rf (Ag.mo rfl h_3)
  exact Ok_m (aX12_vote_l12  _ _ _ _ _) (fun _ ⟨h0, h1⟩ => ⟨(Ag.tr m_4 (Ag.mo rfl h0)), (Ag.tr m_2 (Ag.mo rfl h1))⟩)
def WX12_weather_b59 : List (Nat × Nat) := [(174, 175)]
theorem aX12_weather_b59 {σ : Shp} {R : Nat → Nat → Option Nat} {I : Nat → Nat → Int32} {x1 : Int32} {x2 : Int32} {x3 : Int32} {s0 : Int32} : Ok (gX12_weather_b59 σ R I x1 x2 x3 s0) (fun r => Ag WX12_weather_b59 I r.1) := by
  unfold gX12_weather_b59
  refine Ok_i (fun g_1 => ?_) (fun _ => ?_)
  · exact Ok_s Ag.rf
  · refine Ok_g (fun g_2 => ?_)
    have m_3 := Ag.st (k := (Int32.toNatClampNeg x1)) (v := x2) Ag.rf (show inW WX12_weather_b59 174 = true from rfl)
    exact Ok_s m_3
def WX12_weather_b25 : List (Nat × Nat) := [(174, 175)]
theorem aX12_weather_b25 {σ : Shp} {R : Nat → Nat → Option Nat} {I : Nat → Nat → Int32} {x1 : Int32} {x2 : Int32} {s0 : Int32} : Ok (gX12_weather_b25 σ R I x1 x2 s0) (fun r => Ag WX12_weather_b25 I r.1) := by
  unfold gX12_weather_b25
  refine Ok_i (fun g_1 => ?_) (fun _ => ?_)
  · exact Ok_m (aX12_weather_b59) (fun _ hr => (Ag.tr Ag.rf (Ag.mo rfl hr)))
  · refine Ok_i (fun g_2 => ?_) (fun _ => ?_)
    · exact Ok_m (aX12_weather_b59) (fun _ hr => (Ag.tr Ag.rf (Ag.mo rfl hr)))
    · refine Ok_i (fun g_3 => ?_) (fun _ => ?_)
      · exact Ok_m (aX12_weather_b59) (fun _ hr => (Ag.tr Ag.rf (Ag.mo rfl hr)))
      · exact Ok_m (aX12_weather_b59) (fun _ hr => (Ag.tr Ag.rf (Ag.mo rfl hr)))
def WX12_weather : List (Nat × Nat) := [(174, 175)]
theorem aX12_weather {σ : Shp} {I : Nat → Nat → Int32} {R : Nat → Nat → Option Nat} {x1 : Int32} {x2 : Int32} : Ok (gX12_weather σ I R x1 x2) (fun r => Ag WX12_weather I r.1) := by
  unfold gX12_weather
  refine Ok_i (fun g_1 => ?_) (fun _ => ?_)
  · exact Ok_s Ag.rf
  · refine Ok_i (fun g_2 => ?_) (fun _ => ?_)
    · exact Ok_m (aX12_weather_b25) (fun _ hr => (Ag.tr Ag.rf (Ag.mo rfl hr)))
    · exact Ok_m (aX12_weather_b25) (fun _ hr => (Ag.tr Ag.rf (Ag.mo rfl hr)))
def WX12_mark_b67 : List (Nat × Nat) := [(181, 182), (182, 183), (183, 184)]
theorem aX12_mark_b67 {σ : Shp} {R : Nat → Nat → Option Nat} {I : Nat → Nat → Int32} {x1 : Int32} {x2 : Int32} {x3 : Int32} : Ok (gX12_mark_b67 σ R I x1 x2 x3) (fun r => Ag WX12_mark_b67 I r.1) := by
  unfold gX12_mark_b67
  refine Ok_g (fun g_1 => ?_)
  refine Ok_i (fun g_2 => ?_) (fun _ => ?_)
  · exact Ok_s Ag.rf
  · refine Ok_g (fun g_3 => ?_)
    have m_4 := Ag.st (k := (Int32.toNatClampNeg (((6 : Int32) * x1) + (I 181 (Int32.toNatClampNeg x1))))) (v := x2) Ag.rf (show inW WX12_mark_b67 182 = true from rfl)
    refine Ok_g (fun g_5 => ?_)
    have m_6 := Ag.st (k := (Int32.toNatClampNeg (((6 : Int32) * x1) + (I4 181 (Int32.toNatClampNeg x1))))) (v := x3) m_4 (show inW WX12_mark_b67 183 = true from rfl)
    have m_7 := Ag.st (k := (Int32.toNatClampNeg x1)) (v := ((I6 181 (Int32.toNatClampNeg x1)) + (1 : Int32))) m_6 (show inW WX12_mark_b67 181 = true from rfl)
    exact Ok_s m_7
def WX12_mark : List (Nat × Nat) := [(181, 182), (182, 183), (183, 184)]
theorem aX12_mark {σ : Shp} {I : Nat → Nat → Int32} {R : Nat → Nat → Option Nat} {x1 : Int32} {x2 : Int32} {x3 : Int32} : Ok (gX12_mark σ I R x1 x2 x3) (fun r => Ag WX12_mark I r.1) := by
  unfold gX12_mark
  refine Ok_i (fun g_1 => ?_) (fun _ => ?_)
  · exact Ok_s Ag.rf
  · refine Ok_i (fun g_2 => ?_) (fun _ => ?_)
    · exact Ok_s Ag.rf
    · refine Ok_i (fun g_3 => ?_) (fun _ => ?_)
      · exact Ok_s Ag.rf
      · refine Ok_g (fun g_4 => ?_)
        refine Ok_i (fun g_5 => ?_) (fun _ => ?_)
        · exact Ok_m (aX12_mark_b67) (fun _ hr => (Ag.tr Ag.rf (Ag.mo rfl hr)))
        · refine Ok_g (fun g_6 => ?_)
          refine Ok_i (fun g_7 => ?_) (fun _ => ?_)
          · exact Ok_m (aX12_mark_b67) (fun _ hr => (Ag.tr Ag.rf (Ag.mo rfl hr)))
          · exact Ok_s Ag.rf
def WX12_unmark : List (Nat × Nat) := [(181, 182)]
theorem aX12_unmark {I : Nat → Nat → Int32} {x1 : Int32} : Ok (gX12_unmark I x1) (fun r => Ag WX12_unmark I r.1) := by
  unfold gX12_unmark
  refine Ok_i (fun g_1 => ?_) (fun _ => ?_)
  · exact Ok_s Ag.rf
  · refine Ok_g (fun g_2 => ?_)
    have m_3 := Ag.st (k := (Int32.toNatClampNeg x1)) (v := (0 : Int32)) Ag.rf (show inW WX12_unmark 181 = true from rfl)
    exact Ok_s m_3
def WX12_steer_b340 : List (Nat × Nat) := [(177, 178)]
theorem aX12_steer_b340 {σ : Shp} {J : Nat → Nat → Int64} {R : Nat → Nat → Option Nat} {I : Nat → Nat → Int32} {x1 : Int32} {x2 : Int32} : Ok (gX12_steer_b340 σ J R I x1 x2) (fun r => Ag WX12_steer_b340 I r) := by
  unfold gX12_steer_b340
  refine Ok_g (fun g_1 => ?_)
  refine Ok_i (fun g_2 => ?_) (fun _ => ?_)
  · refine Ok_g (fun g_3 => ?_)
    refine Ok_i (fun g_4 => ?_) (fun _ => ?_)
    · exact Ok_s Ag.rf
    · refine Ok_i (fun g_5 => ?_) (fun _ => ?_)
      · have m_6 := Ag.st (k := (Int32.toNatClampNeg x1)) (v := (20 : Int32)) Ag.rf (show inW WX12_steer_b340 177 = true from rfl)
        exact Ok_s m_6
      · have m_7 := Ag.st (k := (Int32.toNatClampNeg x1)) (v := (x2 - (10 : Int32))) Ag.rf (show inW WX12_steer_b340 177 = true from rfl)
        exact Ok_s m_7
  · exact Ok_s Ag.rf
def WX12_steer_b51 : List (Nat × Nat) := [(177, 178), (178, 179)]
theorem aX12_steer_b51 {σ : Shp} {J : Nat → Nat → Int64} {R : Nat → Nat → Option Nat} {I : Nat → Nat → Int32} {x1 : Int32} {x2 : Int32} : Ok (gX12_steer_b51 σ J R I x1 x2) (fun r => Ag WX12_steer_b51 I r) := by
  unfold gX12_steer_b51
  refine Ok_g (fun g_1 => ?_)
  have m_2 := Ag.st (k := (Int32.toNatClampNeg x1)) (v := (fX12_toward x2 (10 : Int32))) Ag.rf (show inW WX12_steer_b51 177 = true from rfl)
  refine Ok_g (fun g_3 => ?_)
  have m_4 := Ag.st (k := (Int32.toNatClampNeg x1)) (v := (fX12_toward (I6 178 (Int32.toNatClampNeg x1)) (30 : Int32))) m_2 (show inW WX12_steer_b51 178 = true from rfl)
  exact Ok_m (aX12_steer_b340) (fun _ hr => (Ag.tr m_4 (Ag.mo rfl hr)))
def WX12_steer_b233 : List (Nat × Nat) := [(177, 178), (178, 179)]
theorem aX12_steer_b233 {σ : Shp} {J : Nat → Nat → Int64} {R : Nat → Nat → Option Nat} {I : Nat → Nat → Int32} {x1 : Int32} {x2 : Int32} {x7 : Int32} {x8 : Int32} {s0 : Int32} : Ok (gX12_steer_b233 σ J R I x1 x2 x7 x8 s0) (fun r => Ag WX12_steer_b233 I r) := by
  unfold gX12_steer_b233
  refine Ok_i (fun g_1 => ?_) (fun _ => ?_)
  · refine Ok_g (fun g_2 => ?_)
    have m_3 := Ag.st (k := (Int32.toNatClampNeg x1)) (v := ((I 177 (Int32.toNatClampNeg x1)) - s0)) Ag.rf (show inW WX12_steer_b233 177 = true from rfl)
    refine Ok_g (fun g_4 => ?_)
    refine Ok_i (fun g_5 => ?_) (fun _ => ?_)
    · have m_6 := Ag.st (k := (Int32.toNatClampNeg x1)) (v := ((I28 178 (Int32.toNatClampNeg x1)) + v26)) m_3 (show inW WX12_steer_b233 178 = true from rfl)
      exact Ok_m (aX12_steer_b340) (fun _ hr => (Ag.tr m_6 (Ag.mo rfl hr)))
    · have m_7 := Ag.st (k := (Int32.toNatClampNeg x1)) (v := (100 : Int32)) m_3 (show inW WX12_steer_b233 178 = true from rfl)
      exact Ok_m (aX12_steer_b340) (fun _ hr => (Ag.tr m_7 (Ag.mo rfl hr)))
  · refine Ok_g (fun g_8 => ?_)
    have m_9 := Ag.st (k := (Int32.toNatClampNeg x1)) (v := ((I 178 (Int32.toNatClampNeg x1)) - s0)) Ag.rf (show inW WX12_steer_b233 178 = true from rfl)
    refine Ok_g (fun g_10 => ?_)
    refine Ok_i (fun g_11 => ?_) (fun _ => ?_)
    · have m_12 := Ag.st (k := (Int32.toNatClampNeg x1)) (v := ((I33 177 (Int32.toNatClampNeg x1)) + v26)) m_9 (show inW WX12_steer_b233 177 = true from rfl)
      exact Ok_m (aX12_steer_b340) (fun _ hr => (Ag.tr m_12 (Ag.mo rfl hr)))
    · have m_13 := Ag.st (k := (Int32.toNatClampNeg x1)) (v := (100 : Int32)) m_9 (show inW WX12_steer_b233 177 = true from rfl)
      exact Ok_m (aX12_steer_b340) (fun _ hr => (Ag.tr m_13 (Ag.mo rfl hr)))
def WX12_steer_b195 : List (Nat × Nat) := [(177, 178), (178, 179)]
theorem aX12_steer_b195 {σ : Shp} {J : Nat → Nat → Int64} {R : Nat → Nat → Option Nat} {I : Nat → Nat → Int32} {x1 : Int32} {x2 : Int32} {x7 : Int32} {s0 : Int32} : Ok (gX12_steer_b195 σ J R I x1 x2 x7 s0) (fun r => Ag WX12_steer_b195 I r) := by
  unfold gX12_steer_b195
  refine Ok_i (fun g_1 => ?_) (fun _ => ?_)
  · refine Ok_g (fun g_2 => ?_)
    refine Ok_i (fun g_3 => ?_) (fun _ => ?_)
    · exact Ok_m (aX12_steer_b233) (fun _ hr => (Ag.tr Ag.rf (Ag.mo rfl hr)))
    · exact Ok_m (aX12_steer_b233) (fun _ hr => (Ag.tr Ag.rf (Ag.mo rfl hr)))
  · refine Ok_g (fun g_4 => ?_)
    refine Ok_i (fun g_5 => ?_) (fun _ => ?_)
    · exact Ok_m (aX12_steer_b233) (fun _ hr => (Ag.tr Ag.rf (Ag.mo rfl hr)))
    · exact Ok_m (aX12_steer_b233) (fun _ hr => (Ag.tr Ag.rf (Ag.mo rfl hr)))
def WX12_steer : List (Nat × Nat) := [(177, 178), (178, 179), (179, 180)]
theorem aX12_steer {σ : Shp} {I : Nat → Nat → Int32} {J : Nat → Nat → Int64} {R : Nat → Nat → Option Nat} {x1 : Int32} : Ok (gX12_steer σ I J R x1) (fun r => Ag WX12_steer I r) := by
  unfold gX12_steer
  refine Ok_g (fun g_1 => ?_)
  refine Ok_g (fun g_2 => ?_)
  refine Ok_i (fun g_3 => ?_) (fun _ => ?_)
  · have m_4 := Ag.st (k := (Int32.toNatClampNeg x1)) (v := (fX12_toward v2 (0 : Int32))) Ag.rf (show inW WX12_steer 177 = true from rfl)
    exact Ok_s m_4
  · refine Ok_g (fun g_5 => ?_)
    refine Ok_i (fun g_6 => ?_) (fun _ => ?_)
    · exact Ok_m (aX12_steer_b51) (fun _ hr => (Ag.tr Ag.rf (Ag.mo rfl hr)))
    · refine Ok_g (fun g_7 => ?_)
      refine Ok_i (fun g_8 => ?_) (fun _ => ?_)
      · exact Ok_m (aX12_steer_b51) (fun _ hr => (Ag.tr Ag.rf (Ag.mo rfl hr)))
      · refine Ok_bc (fun r14 e_9 => ?_)
        refine Ok_g (fun g_10 => ?_)
        refine Ok_t ?_
        intro r18
        refine Ok_g (fun g_11 => ?_)
        have m_12 := Ag.st (k := (Int32.toNatClampNeg x1)) (v := (Int64.toInt32 (fX12_within ((Int32.toInt64 (I 179 (Int32.toNatClampNeg x1))) + (v20 / (16 : Int64))) (4000 : Int64)))) Ag.rf (show inW WX12_steer 179 = true from rfl)
        refine Ok_i (fun g_13 => ?_) (fun _ => ?_)
        · exact Ok_m (aX12_steer_b195) (fun _ hr => (Ag.tr m_12 (Ag.mo rfl hr)))
        · exact Ok_m (aX12_steer_b195) (fun _ hr => (Ag.tr m_12 (Ag.mo rfl hr)))
def WX12_breathe_b229 : List (Nat × Nat) := [(176, 177), (180, 181)]
theorem aX12_breathe_b229 {σ : Shp} {R : Nat → Nat → Option Nat} {I : Nat → Nat → Int32} {J : Nat → Nat → Int64} {x1 : Int32} {x2 : Int64} {x4 : Int64} {x6 : Int64} {x8 : Int64} {x10 : Int64} {s0 : Int64} : Ok (gX12_breathe_b229 σ R I J x1 x2 x4 x6 x8 x10 s0) (fun r => Ag WX12_breathe_b229 I r.1 ∧ Ag WX12_breathe_b229 J r.2) := by
  unfold gX12_breathe_b229
  refine Ok_g (fun g_1 => ?_)
  have m_2 := Ag.st (k := (Int32.toNatClampNeg x1)) (v := ((J 176 (Int32.toNatClampNeg x1)) - s0)) Ag.rf (show inW WX12_breathe_b229 176 = true from rfl)
  refine Ok_g (fun g_3 => ?_)
  have m_4 := Ag.st (k := (Int32.toNatClampNeg ((6 : Int32) * x1))) (v := ((J24 180 (Int32.toNatClampNeg ((6 : Int32) * x1))) + s0)) m_2 (show inW WX12_breathe_b229 180 = true from rfl)
  refine Ok_g (fun g_5 => ?_)
  have m_6 := Ag.st (k := (Int32.toNatClampNeg (((6 : Int32) * x1) + (1 : Int32)))) (v := ((J26 180 (Int32.toNatClampNeg (((6 : Int32) * x1) + (1 : Int32)))) + x2)) m_4 (show inW WX12_breathe_b229 180 = true from rfl)
  refine Ok_g (fun g_7 => ?_)
  have m_8 := Ag.st (k := (Int32.toNatClampNeg (((6 : Int32) * x1) + (2 : Int32)))) (v := ((J28 180 (Int32.toNatClampNeg (((6 : Int32) * x1) + (2 : Int32)))) + x4)) m_6 (show inW WX12_breathe_b229 180 = true from rfl)
  refine Ok_g (fun g_9 => ?_)
  have m_10 := Ag.st (k := (Int32.toNatClampNeg (((6 : Int32) * x1) + (3 : Int32)))) (v := ((J30 180 (Int32.toNatClampNeg (((6 : Int32) * x1) + (3 : Int32)))) + x6)) m_8 (show inW WX12_breathe_b229 180 = true from rfl)
  refine Ok_g (fun g_11 => ?_)
  have m_12 := Ag.st (k := (Int32.toNatClampNeg (((6 : Int32) * x1) + (4 : Int32)))) (v := ((J32 180 (Int32.toNatClampNeg (((6 : Int32) * x1) + (4 : Int32)))) + x8)) m_10 (show inW WX12_breathe_b229 180 = true from rfl)
  refine Ok_g (fun g_13 => ?_)
  have m_14 := Ag.st (k := (Int32.toNatClampNeg (((6 : Int32) * x1) + (5 : Int32)))) (v := ((J34 180 (Int32.toNatClampNeg (((6 : Int32) * x1) + (5 : Int32)))) + x10)) m_12 (show inW WX12_breathe_b229 180 = true from rfl)
  exact Ok_s ⟨Ag.rf, m_14⟩
def WX12_breathe_b202 : List (Nat × Nat) := [(176, 177), (180, 181)]
theorem aX12_breathe_b202 {σ : Shp} {R : Nat → Nat → Option Nat} {I : Nat → Nat → Int32} {J : Nat → Nat → Int64} {x1 : Int32} {x2 : Int64} {x4 : Int64} {x6 : Int64} {x8 : Int64} {x10 : Int64} {s0 : Int64} : Ok (gX12_breathe_b202 σ R I J x1 x2 x4 x6 x8 x10 s0) (fun r => Ag WX12_breathe_b202 I r.1 ∧ Ag WX12_breathe_b202 J r.2) := by
  unfold gX12_breathe_b202
  refine Ok_g (fun g_1 => ?_)
  refine Ok_i (fun g_2 => ?_) (fun _ => ?_)
  · exact Ok_m (aX12_breathe_b229) (fun _ ⟨h0, h1⟩ => ⟨(Ag.tr Ag.rf (Ag.mo rfl h0)), (Ag.tr Ag.rf (Ag.mo rfl h1))⟩)
  · exact Ok_m (aX12_breathe_b229) (fun _ ⟨h0, h1⟩ => ⟨(Ag.tr Ag.rf (Ag.mo rfl h0)), (Ag.tr Ag.rf (Ag.mo rfl h1))⟩)
def WX12_breathe_b142 : List (Nat × Nat) := [(114, 115), (160, 161), (161, 162), (162, 163), (163, 164), (164, 165), (176, 177), (180, 181)]
theorem aX12_breathe_b142 {σ : Shp} {R : Nat → Nat → Option Nat} {I : Nat → Nat → Int32} {J : Nat → Nat → Int64} {x1 : Int32} {x2 : Int64} {x4 : Int64} {x6 : Int64} {x8 : Int64} {s0 : Int64} : Ok (gX12_breathe_b142 σ R I J x1 x2 x4 x6 x8 s0) (fun r => Ag WX12_breathe_b142 I r.1 ∧ Ag WX12_breathe_b142 J r.2) := by
  unfold gX12_breathe_b142
  refine Ok_g (fun g_1 => ?_)
  have m_2 := Ag.st (k := (Int32.toNatClampNeg x1)) (v := ((J 176 (Int32.toNatClampNeg x1)) + s0)) Ag.rf (show inW WX12_breathe_b142 176 = true from rfl)
  refine Ok_g (fun g_3 => ?_)
  refine Ok_i (fun g_4 => ?_) (fun _ => ?_)
  · refine Ok_i (fun g_5 => ?_) (fun _ => ?_)
    · exact Ok_m (aX12_breathe_b202) (fun _ ⟨h0, h1⟩ => ⟨(Ag.tr Ag.rf (Ag.mo rfl h0)), (Ag.tr m_2 (Ag.mo rfl h1))⟩)
    · exact Ok_m (aX12_breathe_b202) (fun _ ⟨h0, h1⟩ => ⟨(Ag.tr Ag.rf (Ag.mo rfl h0)), (Ag.tr m_2 (Ag.mo rfl h1))⟩)
  · refine Ok_g (fun g_6 => ?_)
    refine Ok_b (aX12_valueOf) ?_
    intro rr hr
    obtain ⟨I18, r19⟩ := rr
    have h_7 := hr
    have m_8 : Ag WX12_breathe_b142 I I18 := Ag.tr Ag.rf (Ag.mo rfl h_7)
    refine Ok_i (fun g_9 => ?_) (fun _ => ?_)
    · exact Ok_m (aX12_breathe_b202) (fun _ ⟨h0, h1⟩ => ⟨(Ag.tr m_8 (Ag.mo rfl h0)), (Ag.tr m_2 (Ag.mo rfl h1))⟩)
    · exact Ok_m (aX12_breathe_b202) (fun _ ⟨h0, h1⟩ => ⟨(Ag.tr m_8 (Ag.mo rfl h0)), (Ag.tr m_2 (Ag.mo rfl h1))⟩)
def WX12_breathe : List (Nat × Nat) := [(114, 115), (160, 161), (161, 162), (162, 163), (163, 164), (164, 165), (175, 176), (176, 177), (180, 181)]
theorem aX12_breathe {σ : Shp} {I : Nat → Nat → Int32} {J : Nat → Nat → Int64} {R : Nat → Nat → Option Nat} {x1 : Int32} : Ok (gX12_breathe σ I J R x1) (fun r => Ag WX12_breathe I r.1 ∧ Ag WX12_breathe J r.2) := by
  unfold gX12_breathe
  refine Ok_g (fun g_1 => ?_)
  refine Ok_g (fun g_2 => ?_)
  refine Ok_g (fun g_3 => ?_)
  refine Ok_g (fun g_4 => ?_)
  refine Ok_g (fun g_5 => ?_)
  have m_6 := Ag.st (k := (Int32.toNatClampNeg x1)) (v := ((J 175 (Int32.toNatClampNeg x1)) + (v3 - v7))) Ag.rf (show inW WX12_breathe 175 = true from rfl)
  refine Ok_g (fun g_7 => ?_)
  refine Ok_g (fun g_8 => ?_)
  have m_9 := Ag.st (k := (Int32.toNatClampNeg x1)) (v := ((J8 176 (Int32.toNatClampNeg x1)) + (v9 - v12))) m_6 (show inW WX12_breathe 176 = true from rfl)
  refine Ok_i (fun g_10 => ?_) (fun _ => ?_)
  · exact Ok_m (aX12_breathe_b142) (fun _ ⟨h0, h1⟩ => ⟨(Ag.tr Ag.rf (Ag.mo rfl h0)), (Ag.tr m_9 (Ag.mo rfl h1))⟩)
  · exact Ok_m (aX12_breathe_b142) (fun _ ⟨h0, h1⟩ => ⟨(Ag.tr Ag.rf (Ag.mo rfl h0)), (Ag.tr m_9 (Ag.mo rfl h1))⟩)
def WX12_minute_l47 : List (Nat × Nat) := [(114, 115), (160, 161), (161, 162), (162, 163), (163, 164), (164, 165), (166, 167), (167, 168), (168, 169), (169, 170), (170, 171), (171, 172), (172, 173), (173, 174), (175, 176), (176, 177), (177, 178), (178, 179), (179, 180), (180, 181)]
theorem aX12_minute_l47 {q30 : (Nat → Nat → Int32) → (Nat → Nat → Int64) → (Int32) → (Int32) → (Option ((Nat → Nat → Int32) × (Nat → Nat → Int64) × (Int32)))} {σ : Shp} {D : Nat → Nat → UInt64} {R : Nat → Nat → Option Nat} (hq30 : ∀ (I : Nat → Nat → Int32) (J : Nat → Nat → Int64) (x1 : Int32) (x2 : Int32), Ok (q30 I J x1 x2) (fun r => Ag WX12_minute_l30 I r.1 ∧ Ag WX12_minute_l30 J r.2.1)) : ∀ (n : Nat) (I : Nat → Nat → Int32) (J : Nat → Nat → Int64) (x1 : Int32) (x2 : Int32) (x3 : Int32), Ok (gX12_minute_l47 q30 σ D R n I J x1 x2 x3) (fun r => Ag WX12_minute_l47 I r.1 ∧ Ag WX12_minute_l47 J r.2.1) := by
  intro n
  induction n with
  | zero => intro I J x1 x2 x3; exact Ok_e rfl
  | succ n ih =>
    intro I J x1 x2 x3
    rw [gX12_minute_l47]
    refine Ok_i (fun g_1 => ?_) (fun _ => ?_)
    · exact Ok_m (hq30 _ _ _ _) (fun _ ⟨h0, h1⟩ => ⟨(Ag.tr Ag.rf (Ag.mo rfl h0)), (Ag.tr Ag.rf (Ag.mo rfl h1))⟩)
    · refine Ok_b (aX12_vote) ?_
      intro rr hr
      obtain ⟨I3, J4⟩ := rr
      obtain ⟨h_2, h_3⟩ := hr
      have m_4 : Ag WX12_minute_l47 I I3 := Ag.tr Ag.rf (Ag.mo rfl h_2)
      have m_5 : Ag WX12_minute_l47 J J4 := Ag.tr Ag.rf (Ag.mo rfl h_3)
      refine Ok_b (aX12_steer) ?_
      intro I6 hr
      have h_6 := hr
      have m_7 : Ag WX12_minute_l47 I I6 := Ag.tr m_4 (Ag.mo rfl h_6)
      refine Ok_b (aX12_breathe) ?_
      intro rr hr
      obtain ⟨I8, J9⟩ := rr
      obtain ⟨h_8, h_9⟩ := hr
      have m_10 : Ag WX12_minute_l47 I I8 := Ag.tr m_7 (Ag.mo rfl h_8)
      have m_11 : Ag WX12_minute_l47 J J9 := Ag.tr m_5 (Ag.mo rfl h_9)
      exact Ok_m (ih _ _ _ _ _) (fun _ ⟨h0, h1⟩ => ⟨(Ag.tr m_10 (Ag.mo rfl h0)), (Ag.tr m_11 (Ag.mo rfl h1))⟩)
def WX12_minute_l30 : List (Nat × Nat) := [(114, 115), (160, 161), (161, 162), (162, 163), (163, 164), (164, 165), (166, 167), (167, 168), (168, 169), (169, 170), (170, 171), (171, 172), (172, 173), (173, 174), (175, 176), (176, 177), (177, 178), (178, 179), (179, 180), (180, 181)]
theorem aX12_minute_l30 {σ : Shp} {D : Nat → Nat → UInt64} {R : Nat → Nat → Option Nat} : ∀ (n : Nat) (I : Nat → Nat → Int32) (J : Nat → Nat → Int64) (x1 : Int32) (x2 : Int32), Ok (gX12_minute_l30 σ D R n I J x1 x2) (fun r => Ag WX12_minute_l30 I r.1 ∧ Ag WX12_minute_l30 J r.2.1) := by
  intro n
  induction n with
  | zero => intro I J x1 x2; exact Ok_e rfl
  | succ n ih =>
    intro I J x1 x2
    rw [gX12_minute_l30]
    refine Ok_i (fun g_1 => ?_) (fun _ => ?_)
    · exact Ok_s ⟨Ag.rf, Ag.rf⟩
    · have m_2 := Ag.st (k := 85) (v := ((I 114 85) + (1 : Int32))) Ag.rf (show inW WX12_minute_l30 114 = true from rfl)
      exact Ok_m (aX12_minute_l47 ih _ _ _ _ _ _) (fun _ ⟨h0, h1⟩ => ⟨(Ag.tr m_2 (Ag.mo rfl h0)), (Ag.tr Ag.rf (Ag.mo rfl h1))⟩)
def WX12_minute : List (Nat × Nat) := [(114, 115), (160, 161), (161, 162), (162, 163), (163, 164), (164, 165), (166, 167), (167, 168), (168, 169), (169, 170), (170, 171), (171, 172), (172, 173), (173, 174), (175, 176), (176, 177), (177, 178), (178, 179), (179, 180), (180, 181)]
theorem aX12_minute {σ : Shp} {I : Nat → Nat → Int32} {J : Nat → Nat → Int64} {D : Nat → Nat → UInt64} {R : Nat → Nat → Option Nat} {x1 : Int32} : Ok (gX12_minute σ I J D R x1) (fun r => Ag WX12_minute I r.1 ∧ Ag WX12_minute J r.2.1) := by
  unfold gX12_minute
  refine Ok_i (fun g_1 => ?_) (fun _ => ?_)
  · exact Ok_s ⟨Ag.rf, Ag.rf⟩
  · refine Ok_i (fun g_2 => ?_) (fun _ => ?_)
    · exact Ok_m (aX12_minute_l30  _ _ _ _ _) (fun _ ⟨h0, h1⟩ => ⟨(Ag.tr Ag.rf (Ag.mo rfl h0)), (Ag.tr Ag.rf (Ag.mo rfl h1))⟩)
    · exact Ok_s ⟨Ag.rf, Ag.rf⟩
def WX12_partWhole_l111 : List (Nat × Nat) := [(184, 185), (185, 186)]
theorem aX12_partWhole_l111 {q98 : (Nat → Nat → Int64) → (Int32) → (Int64) → (Option ((Nat → Nat → Int64)))} {σ : Shp} {R : Nat → Nat → Option Nat} (hq98 : ∀ (J : Nat → Nat → Int64) (x3 : Int32) (x6 : Int64), Ok (q98 J x3 x6) (fun r => Ag WX12_partWhole_l98 J r)) : ∀ (n : Nat) (J : Nat → Nat → Int64) (x3 : Int32) (x6 : Int64) (x8 : Int32) (x9 : Int32), Ok (gX12_partWhole_l111 q98 σ R n J x3 x6 x8 x9) (fun r => Ag WX12_partWhole_l111 J r) := by
  intro n
  induction n with
  | zero => intro J x3 x6 x8 x9; exact Ok_e rfl
  | succ n ih =>
    intro J x3 x6 x8 x9
    rw [gX12_partWhole_l111]
    refine Ok_i (fun g_1 => ?_) (fun _ => ?_)
    · refine Ok_g (fun g_2 => ?_)
      have m_3 := Ag.st (k := (Int32.toNatClampNeg x8)) (v := ((J 184 (Int32.toNatClampNeg x8)) + (1 : Int64))) Ag.rf (show inW WX12_partWhole_l111 184 = true from rfl)
      refine Ok_g (fun g_4 => ?_)
      have m_5 := Ag.st (k := (Int32.toNatClampNeg x8)) (v := (-1 : Int64)) m_3 (show inW WX12_partWhole_l111 185 = true from rfl)
      exact Ok_m (hq98 _ _ _) (fun _ hr => (Ag.tr m_5 (Ag.mo rfl hr)))
    · refine Ok_g (fun g_6 => ?_)
      refine Ok_g (fun g_7 => ?_)
      refine Ok_i (fun g_8 => ?_) (fun _ => ?_)
      · exact Ok_m (ih _ _ _ _ _) (fun _ hr => (Ag.tr Ag.rf (Ag.mo rfl hr)))
      · exact Ok_m (ih _ _ _ _ _) (fun _ hr => (Ag.tr Ag.rf (Ag.mo rfl hr)))
def WX12_partWhole_l98 : List (Nat × Nat) := [(184, 185), (185, 186)]
theorem aX12_partWhole_l98 {σ : Shp} {R : Nat → Nat → Option Nat} : ∀ (n : Nat) (J : Nat → Nat → Int64) (x3 : Int32) (x6 : Int64), Ok (gX12_partWhole_l98 σ R n J x3 x6) (fun r => Ag WX12_partWhole_l98 J r) := by
  intro n
  induction n with
  | zero => intro J x3 x6; exact Ok_e rfl
  | succ n ih =>
    intro J x3 x6
    rw [gX12_partWhole_l98]
    refine Ok_i (fun g_1 => ?_) (fun _ => ?_)
    · exact Ok_s Ag.rf
    · exact Ok_m (aX12_partWhole_l111 ih _ _ _ _ _ _) (fun _ hr => (Ag.tr Ag.rf (Ag.mo rfl hr)))
def WX12_partWhole_l36 : List (Nat × Nat) := [(184, 185), (185, 186)]
theorem aX12_partWhole_l36 {σ : Shp} {R : Nat → Nat → Option Nat} : ∀ (n : Nat) (J : Nat → Nat → Int64) (x1 : Int64) (x3 : Int32) (x4 : Int64) (x6 : Int64) (x8 : Int32), Ok (gX12_partWhole_l36 σ R n J x1 x3 x4 x6 x8) (fun r => Ag WX12_partWhole_l36 J r) := by
  intro n
  induction n with
  | zero => intro J x1 x3 x4 x6 x8; exact Ok_e rfl
  | succ n ih =>
    intro J x1 x3 x4 x6 x8
    rw [gX12_partWhole_l36]
    refine Ok_i (fun g_1 => ?_) (fun _ => ?_)
    · exact Ok_m (aX12_partWhole_l98  _ _ _ _) (fun _ hr => (Ag.tr Ag.rf (Ag.mo rfl hr)))
    · refine Ok_g (fun g_2 => ?_)
      refine Ok_g (fun g_3 => ?_)
      refine Ok_g (fun g_4 => ?_)
      have m_5 := Ag.st (k := (Int32.toNatClampNeg x8)) (v := ((x1 * (J 186 (Int32.toNatClampNeg x8))) / x4)) Ag.rf (show inW WX12_partWhole_l36 184 = true from rfl)
      refine Ok_g (fun g_6 => ?_)
      have m_7 := Ag.st (k := (Int32.toNatClampNeg x8)) (v := ((x1 * (J13 186 (Int32.toNatClampNeg x8))) - (x1 * (J13 186 (Int32.toNatClampNeg x8))) / x4 * x4)) m_5 (show inW WX12_partWhole_l36 185 = true from rfl)
      exact Ok_m (ih _ _ _ _ _ _) (fun _ hr => (Ag.tr m_7 (Ag.mo rfl hr)))
def WX12_partWhole_l6 : List (Nat × Nat) := [(184, 185), (185, 186)]
theorem aX12_partWhole_l6 {σ : Shp} {R : Nat → Nat → Option Nat} : ∀ (n : Nat) (J : Nat → Nat → Int64) (x1 : Int64) (x3 : Int32) (x4 : Int64) (x6 : Int32), Ok (gX12_partWhole_l6 σ R n J x1 x3 x4 x6) (fun r => Ag WX12_partWhole_l6 J r) := by
  intro n
  induction n with
  | zero => intro J x1 x3 x4 x6; exact Ok_e rfl
  | succ n ih =>
    intro J x1 x3 x4 x6
    rw [gX12_partWhole_l6]
    refine Ok_i (fun g_1 => ?_) (fun _ => ?_)
    · exact Ok_m (aX12_partWhole_l36  _ _ _ _ _ _ _) (fun _ hr => (Ag.tr Ag.rf (Ag.mo rfl hr)))
    · refine Ok_g (fun g_2 => ?_)
      exact Ok_m (ih _ _ _ _ _) (fun _ hr => (Ag.tr Ag.rf (Ag.mo rfl hr)))
def WX12_partWhole : List (Nat × Nat) := [(184, 185), (185, 186)]
theorem aX12_partWhole {σ : Shp} {J : Nat → Nat → Int64} {R : Nat → Nat → Option Nat} {x1 : Int64} {x3 : Int32} : Ok (gX12_partWhole σ J R x1 x3) (fun r => Ag WX12_partWhole J r) := by
  unfold gX12_partWhole
  exact Ok_m (aX12_partWhole_l6  _ _ _ _ _ _) (fun _ hr => (Ag.tr Ag.rf (Ag.mo rfl hr)))
def WX12_shares_l207 : List (Nat × Nat) := [(115, 116), (119, 120)]
theorem aX12_shares_l207 {σ : Shp} {R : Nat → Nat → Option Nat} : ∀ (n : Nat) (I : Nat → Nat → Int32) (J : Nat → Nat → Int64) (x3 : Int32) (x4 : Int32) (x8 : Int32) (x9 : Int32), Ok (gX12_shares_l207 σ R n I J x3 x4 x8 x9) (fun r => Ag WX12_shares_l207 I r.1 ∧ Ag WX12_shares_l207 J r.2.1) := by
  intro n
  induction n with
  | zero => intro I J x3 x4 x8 x9; exact Ok_e rfl
  | succ n ih =>
    intro I J x3 x4 x8 x9
    rw [gX12_shares_l207]
    refine Ok_g (fun g_1 => ?_)
    refine Ok_i (fun g_2 => ?_) (fun _ => ?_)
    · refine Ok_g (fun g_3 => ?_)
      have m_4 := Ag.st (k := (Int32.toNatClampNeg x3)) (v := x8) Ag.rf (show inW WX12_shares_l207 115 = true from rfl)
      exact Ok_s ⟨m_4, Ag.rf⟩
    · refine Ok_g (fun g_5 => ?_)
      refine Ok_g (fun g_6 => ?_)
      refine Ok_g (fun g_7 => ?_)
      have m_8 := Ag.st (k := (Int32.toNatClampNeg ((I 118 (Int32.toNatClampNeg x8)) + x9))) (v := (J 184 (Int32.toNatClampNeg x9))) Ag.rf (show inW WX12_shares_l207 119 = true from rfl)
      exact Ok_m (ih _ _ _ _ _ _) (fun _ ⟨h0, h1⟩ => ⟨(Ag.tr Ag.rf (Ag.mo rfl h0)), (Ag.tr m_8 (Ag.mo rfl h1))⟩)
def WX12_shares_l76 : List (Nat × Nat) := [(114, 115), (115, 116), (116, 117), (117, 118), (118, 119), (119, 120), (184, 185), (185, 186), (186, 187)]
theorem aX12_shares_l76 {σ : Shp} {R : Nat → Nat → Option Nat} : ∀ (n : Nat) (I : Nat → Nat → Int32) (J : Nat → Nat → Int64) (x2 : Int32) (x3 : Int32) (x4 : Int32) (x5 : Int32) (x6 : Int64) (x8 : Int32), Ok (gX12_shares_l76 σ R n I J x2 x3 x4 x5 x6 x8) (fun r => Ag WX12_shares_l76 I r.1 ∧ Ag WX12_shares_l76 J r.2.1) := by
  intro n
  induction n with
  | zero => intro I J x2 x3 x4 x5 x6 x8; exact Ok_e rfl
  | succ n ih =>
    intro I J x2 x3 x4 x5 x6 x8
    rw [gX12_shares_l76]
    refine Ok_g (fun g_1 => ?_)
    refine Ok_i (fun g_2 => ?_) (fun _ => ?_)
    · refine Ok_i (fun g_3 => ?_) (fun _ => ?_)
      · exact Ok_s ⟨Ag.rf, Ag.rf⟩
      · refine Ok_i (fun g_4 => ?_) (fun _ => ?_)
        · exact Ok_s ⟨Ag.rf, Ag.rf⟩
        · refine Ok_t ?_
          intro r11
          refine Ok_i (fun g_5 => ?_) (fun _ => ?_)
          · refine Ok_b (aX12_partWhole) ?_
            intro J13 hr
            have h_6 := hr
            have m_7 : Ag WX12_shares_l76 J J13 := Ag.tr Ag.rf (Ag.mo rfl h_6)
            refine Ok_b (aX12_newRow) ?_
            intro rr hr
            obtain ⟨I15, r16⟩ := rr
            have h_8 := hr
            have m_9 : Ag WX12_shares_l76 I I15 := Ag.tr Ag.rf (Ag.mo rfl h_8)
            exact Ok_m (aX12_shares_l207  _ _ _ _ _ _ _) (fun _ ⟨h0, h1⟩ => ⟨(Ag.tr m_9 (Ag.mo rfl h0)), (Ag.tr m_7 (Ag.mo rfl h1))⟩)
          · exact Ok_s ⟨Ag.rf, Ag.rf⟩
    · refine Ok_g (fun g_10 => ?_)
      refine Ok_g (fun g_11 => ?_)
      refine Ok_g (fun g_12 => ?_)
      have m_13 := Ag.st (k := (Int32.toNatClampNeg x8)) (v := (J 119 (Int32.toNatClampNeg ((I 118 (Int32.toNatClampNeg x4)) + x8)))) Ag.rf (show inW WX12_shares_l76 186 = true from rfl)
      refine Ok_i (fun g_14 => ?_) (fun _ => ?_)
      · exact Ok_m (ih _ _ _ _ _ _ _ _) (fun _ ⟨h0, h1⟩ => ⟨(Ag.tr Ag.rf (Ag.mo rfl h0)), (Ag.tr m_13 (Ag.mo rfl h1))⟩)
      · refine Ok_i (fun g_15 => ?_) (fun _ => ?_)
        · exact Ok_m (ih _ _ _ _ _ _ _ _) (fun _ ⟨h0, h1⟩ => ⟨(Ag.tr Ag.rf (Ag.mo rfl h0)), (Ag.tr m_13 (Ag.mo rfl h1))⟩)
        · exact Ok_m (ih _ _ _ _ _ _ _ _) (fun _ ⟨h0, h1⟩ => ⟨(Ag.tr Ag.rf (Ag.mo rfl h0)), (Ag.tr m_13 (Ag.mo rfl h1))⟩)
def WX12_shares : List (Nat × Nat) := [(114, 115), (115, 116), (116, 117), (117, 118), (118, 119), (119, 120), (184, 185), (185, 186), (186, 187)]
theorem aX12_shares {σ : Shp} {I : Nat → Nat → Int32} {J : Nat → Nat → Int64} {R : Nat → Nat → Option Nat} {x1 : Int32} {x2 : Int32} {x3 : Int32} : Ok (gX12_shares σ I J R x1 x2 x3) (fun r => Ag WX12_shares I r.1 ∧ Ag WX12_shares J r.2.1) := by
  unfold gX12_shares
  refine Ok_i (fun g_1 => ?_) (fun _ => ?_)
  · exact Ok_s ⟨Ag.rf, Ag.rf⟩
  · refine Ok_i (fun g_2 => ?_) (fun _ => ?_)
    · exact Ok_s ⟨Ag.rf, Ag.rf⟩
    · refine Ok_i (fun g_3 => ?_) (fun _ => ?_)
      · exact Ok_s ⟨Ag.rf, Ag.rf⟩
      · refine Ok_g (fun g_4 => ?_)
        refine Ok_i (fun g_5 => ?_) (fun _ => ?_)
        · refine Ok_i (fun g_6 => ?_) (fun _ => ?_)
          · refine Ok_b (aX12_no) ?_
            intro rr hr
            obtain ⟨I6, r7⟩ := rr
            have h_7 := hr
            have m_8 : Ag WX12_shares I I6 := Ag.tr Ag.rf (Ag.mo rfl h_7)
            exact Ok_s ⟨m_8, Ag.rf⟩
          · refine Ok_b (aX12_no) ?_
            intro rr hr
            obtain ⟨I3, r4⟩ := rr
            have h_9 := hr
            have m_10 : Ag WX12_shares I I3 := Ag.tr Ag.rf (Ag.mo rfl h_9)
            exact Ok_s ⟨m_10, Ag.rf⟩
        · refine Ok_g (fun g_11 => ?_)
          refine Ok_i (fun g_12 => ?_) (fun _ => ?_)
          · exact Ok_m (aX12_shares_l76  _ _ _ _ _ _ _ _ _) (fun _ ⟨h0, h1⟩ => ⟨(Ag.tr Ag.rf (Ag.mo rfl h0)), (Ag.tr Ag.rf (Ag.mo rfl h1))⟩)
          · refine Ok_i (fun g_13 => ?_) (fun _ => ?_)
            · refine Ok_b (aX12_no) ?_
              intro rr hr
              obtain ⟨I39, r40⟩ := rr
              have h_14 := hr
              have m_15 : Ag WX12_shares I I39 := Ag.tr Ag.rf (Ag.mo rfl h_14)
              exact Ok_s ⟨m_15, Ag.rf⟩
            · refine Ok_b (aX12_no) ?_
              intro rr hr
              obtain ⟨I36, r37⟩ := rr
              have h_16 := hr
              have m_17 : Ag WX12_shares I I36 := Ag.tr Ag.rf (Ag.mo rfl h_16)
              exact Ok_s ⟨m_17, Ag.rf⟩
def WX12_quotient : List (Nat × Nat) := [(114, 115)]
theorem aX12_quotient {I : Nat → Nat → Int32} {x1 : Int32} {x2 : Int64} {x4 : Int64} {x6 : Int32} : Ok (gX12_quotient I x1 x2 x4 x6) (fun r => Ag WX12_quotient I r.1) := by
  unfold gX12_quotient
  refine Ok_i (fun g_1 => ?_) (fun _ => ?_)
  · exact Ok_s Ag.rf
  · refine Ok_i (fun g_2 => ?_) (fun _ => ?_)
    · exact Ok_s Ag.rf
    · refine Ok_i (fun g_3 => ?_) (fun _ => ?_)
      · refine Ok_i (fun g_4 => ?_) (fun _ => ?_)
        · refine Ok_b (aX12_noBits) ?_
          intro rr hr
          obtain ⟨I10, r11⟩ := rr
          have h_5 := hr
          have m_6 : Ag WX12_quotient I I10 := Ag.tr Ag.rf (Ag.mo rfl h_5)
          exact Ok_s m_6
        · refine Ok_i (fun g_7 => ?_) (fun _ => ?_)
          · refine Ok_g (fun g_8 => ?_)
            exact Ok_s Ag.rf
          · refine Ok_g (fun g_9 => ?_)
            exact Ok_s Ag.rf
      · refine Ok_i (fun g_10 => ?_) (fun _ => ?_)
        · refine Ok_b (aX12_noBits) ?_
          intro rr hr
          obtain ⟨I3, r4⟩ := rr
          have h_11 := hr
          have m_12 : Ag WX12_quotient I I3 := Ag.tr Ag.rf (Ag.mo rfl h_11)
          exact Ok_s m_12
        · refine Ok_i (fun g_13 => ?_) (fun _ => ?_)
          · refine Ok_g (fun g_14 => ?_)
            exact Ok_s Ag.rf
          · refine Ok_g (fun g_15 => ?_)
            exact Ok_s Ag.rf
def WX12_compare_b97 : List (Nat × Nat) := [(114, 115)]
theorem aX12_compare_b97 {σ : Shp} {J : Nat → Nat → Int64} {R : Nat → Nat → Option Nat} {I : Nat → Nat → Int32} {x1 : Int32} {x3 : Int32} {x5 : Int32} {x6 : Int32} {x7 : Int32} {s0 : Int32} : Ok (gX12_compare_b97 σ J R I x1 x3 x5 x6 x7 s0) (fun r => Ag WX12_compare_b97 I r.1) := by
  unfold gX12_compare_b97
  refine Ok_i (fun g_1 => ?_) (fun _ => ?_)
  · refine Ok_g (fun g_2 => ?_)
    refine Ok_g (fun g_3 => ?_)
    refine Ok_bc (fun r9 e_4 => ?_)
    refine Ok_g (fun g_5 => ?_)
    refine Ok_g (fun g_6 => ?_)
    refine Ok_bc (fun r13 e_7 => ?_)
    refine Ok_i (fun g_8 => ?_) (fun _ => ?_)
    · refine Ok_i (fun g_9 => ?_) (fun _ => ?_)
      · refine Ok_i (fun g_10 => ?_) (fun _ => ?_)
        · exact Ok_s Ag.rf
        · exact Ok_s Ag.rf
      · exact Ok_s Ag.rf
    · exact Ok_s Ag.rf
  · refine Ok_b (aX12_no) ?_
    intro rr hr
    obtain ⟨I15, r16⟩ := rr
    have h_11 := hr
    have m_12 : Ag WX12_compare_b97 I I15 := Ag.tr Ag.rf (Ag.mo rfl h_11)
    exact Ok_s m_12
def WX12_compare : List (Nat × Nat) := [(114, 115)]
theorem aX12_compare {σ : Shp} {I : Nat → Nat → Int32} {J : Nat → Nat → Int64} {R : Nat → Nat → Option Nat} {x1 : Int32} {x2 : Int32} {x3 : Int32} {x4 : Int32} {x5 : Int32} : Ok (gX12_compare σ I J R x1 x2 x3 x4 x5) (fun r => Ag WX12_compare I r.1) := by
  unfold gX12_compare
  refine Ok_i (fun g_1 => ?_) (fun _ => ?_)
  · exact Ok_s Ag.rf
  · refine Ok_i (fun g_2 => ?_) (fun _ => ?_)
    · exact Ok_s Ag.rf
    · refine Ok_i (fun g_3 => ?_) (fun _ => ?_)
      · exact Ok_s Ag.rf
      · refine Ok_g (fun g_4 => ?_)
        refine Ok_g (fun g_5 => ?_)
        refine Ok_t ?_
        intro r5
        refine Ok_i (fun g_6 => ?_) (fun _ => ?_)
        · refine Ok_i (fun g_7 => ?_) (fun _ => ?_)
          · refine Ok_t ?_
            intro r18
            exact Ok_m (aX12_compare_b97) (fun _ hr => (Ag.tr Ag.rf (Ag.mo rfl hr)))
          · exact Ok_m (aX12_compare_b97) (fun _ hr => (Ag.tr Ag.rf (Ag.mo rfl hr)))
        · refine Ok_t ?_
          intro r20
          refine Ok_i (fun g_8 => ?_) (fun _ => ?_)
          · refine Ok_i (fun g_9 => ?_) (fun _ => ?_)
            · refine Ok_t ?_
              intro r22
              exact Ok_m (aX12_compare_b97) (fun _ hr => (Ag.tr Ag.rf (Ag.mo rfl hr)))
            · exact Ok_m (aX12_compare_b97) (fun _ hr => (Ag.tr Ag.rf (Ag.mo rfl hr)))
          · refine Ok_t ?_
            intro r24
            refine Ok_i (fun g_10 => ?_) (fun _ => ?_)
            · refine Ok_t ?_
              intro r26
              exact Ok_m (aX12_compare_b97) (fun _ hr => (Ag.tr Ag.rf (Ag.mo rfl hr)))
            · exact Ok_m (aX12_compare_b97) (fun _ hr => (Ag.tr Ag.rf (Ag.mo rfl hr)))
def WX12_parted_l38 : List (Nat × Nat) := [(114, 115)]
theorem aX12_parted_l38 {σ : Shp} : ∀ (n : Nat) (I : Nat → Nat → Int32) (J : Nat → Nat → Int64) (x3 : Int32) (x4 : UInt64), Ok (gX12_parted_l38 σ n I J x3 x4) (fun r => Ag WX12_parted_l38 I r.1 ∧ Ag WX12_parted_l38 J r.2) := by
  intro n
  induction n with
  | zero => intro I J x3 x4; exact Ok_e rfl
  | succ n ih =>
    intro I J x3 x4
    rw [gX12_parted_l38]
    refine Ok_i (fun g_1 => ?_) (fun _ => ?_)
    · have m_2 := Ag.st (k := 133) (v := (FP.d2l x4)) Ag.rf (show inW WX12_parted_l38 114 = true from rfl)
      exact Ok_s ⟨Ag.rf, m_2⟩
    · refine Ok_i (fun g_3 => ?_) (fun _ => ?_)
      · have m_4 := Ag.st (k := 133) (v := (FP.d2l x4)) Ag.rf (show inW WX12_parted_l38 114 = true from rfl)
        exact Ok_s ⟨Ag.rf, m_4⟩
      · refine Ok_g (fun g_5 => ?_)
        have m_6 := Ag.st (k := 134) (v := ((I 114 134) - (1 : Int32))) Ag.rf (show inW WX12_parted_l38 114 = true from rfl)
        exact Ok_m (ih _ _ _ _) (fun _ ⟨h0, h1⟩ => ⟨(Ag.tr m_6 (Ag.mo rfl h0)), (Ag.tr Ag.rf (Ag.mo rfl h1))⟩)
def WX12_parted_l8 : List (Nat × Nat) := [(114, 115)]
theorem aX12_parted_l8 {σ : Shp} : ∀ (n : Nat) (I : Nat → Nat → Int32) (J : Nat → Nat → Int64) (x3 : Int32) (x4 : UInt64), Ok (gX12_parted_l8 σ n I J x3 x4) (fun r => Ag WX12_parted_l8 I r.1 ∧ Ag WX12_parted_l8 J r.2) := by
  intro n
  induction n with
  | zero => intro I J x3 x4; exact Ok_e rfl
  | succ n ih =>
    intro I J x3 x4
    rw [gX12_parted_l8]
    refine Ok_i (fun g_1 => ?_) (fun _ => ?_)
    · exact Ok_m (aX12_parted_l38  _ _ _ _ _) (fun _ ⟨h0, h1⟩ => ⟨(Ag.tr Ag.rf (Ag.mo rfl h0)), (Ag.tr Ag.rf (Ag.mo rfl h1))⟩)
    · refine Ok_g (fun g_2 => ?_)
      have m_3 := Ag.st (k := 134) (v := ((I 114 134) + (1 : Int32))) Ag.rf (show inW WX12_parted_l8 114 = true from rfl)
      exact Ok_m (ih _ _ _ _) (fun _ ⟨h0, h1⟩ => ⟨(Ag.tr m_3 (Ag.mo rfl h0)), (Ag.tr Ag.rf (Ag.mo rfl h1))⟩)
def WX12_parted : List (Nat × Nat) := [(114, 115)]
theorem aX12_parted {σ : Shp} {I : Nat → Nat → Int32} {J : Nat → Nat → Int64} {x1 : UInt64} {x3 : Int32} : Ok (gX12_parted σ I J x1 x3) (fun r => Ag WX12_parted I r.1 ∧ Ag WX12_parted J r.2) := by
  unfold gX12_parted
  have m_1 := Ag.st (k := 134) (v := (0 : Int32)) Ag.rf (show inW WX12_parted 114 = true from rfl)
  exact Ok_m (aX12_parted_l8  _ _ _ _ _) (fun _ ⟨h0, h1⟩ => ⟨(Ag.tr m_1 (Ag.mo rfl h0)), (Ag.tr Ag.rf (Ag.mo rfl h1))⟩)
def WX12_bits_b57 : List (Nat × Nat) := [(114, 115)]
theorem aX12_bits_b57 {σ : Shp} {I : Nat → Nat → Int32} {J : Nat → Nat → Int64} {x3 : Int32} {x4 : UInt64} {x6 : Int64} : Ok (gX12_bits_b57 σ I J x3 x4 x6) (fun r => Ag WX12_bits_b57 I r.1 ∧ Ag WX12_bits_b57 J r.2.1) := by
  unfold gX12_bits_b57
  refine Ok_i (fun g_1 => ?_) (fun _ => ?_)
  · refine Ok_i (fun g_2 => ?_) (fun _ => ?_)
    · exact Ok_s ⟨Ag.rf, Ag.rf⟩
    · exact Ok_s ⟨Ag.rf, Ag.rf⟩
  · refine Ok_b (aX12_parted) ?_
    intro rr hr
    obtain ⟨I3, J4⟩ := rr
    obtain ⟨h_3, h_4⟩ := hr
    have m_5 : Ag WX12_bits_b57 I I3 := Ag.tr Ag.rf (Ag.mo rfl h_3)
    have m_6 : Ag WX12_bits_b57 J J4 := Ag.tr Ag.rf (Ag.mo rfl h_4)
    refine Ok_i (fun g_7 => ?_) (fun _ => ?_)
    · refine Ok_i (fun g_8 => ?_) (fun _ => ?_)
      · exact Ok_s ⟨m_5, m_6⟩
      · exact Ok_s ⟨m_5, m_6⟩
    · refine Ok_i (fun g_9 => ?_) (fun _ => ?_)
      · exact Ok_s ⟨m_5, m_6⟩
      · exact Ok_s ⟨m_5, m_6⟩
def WX12_bits_b25 : List (Nat × Nat) := [(114, 115)]
theorem aX12_bits_b25 {σ : Shp} {I : Nat → Nat → Int32} {J : Nat → Nat → Int64} {x3 : Int32} {s0 : UInt64} : Ok (gX12_bits_b25 σ I J x3 s0) (fun r => Ag WX12_bits_b25 I r.1 ∧ Ag WX12_bits_b25 J r.2.1) := by
  unfold gX12_bits_b25
  refine Ok_i (fun g_1 => ?_) (fun _ => ?_)
  · exact Ok_m (aX12_bits_b57) (fun _ ⟨h0, h1⟩ => ⟨(Ag.tr Ag.rf (Ag.mo rfl h0)), (Ag.tr Ag.rf (Ag.mo rfl h1))⟩)
  · refine Ok_g (fun g_2 => ?_)
    refine Ok_i (fun g_3 => ?_) (fun _ => ?_)
    · refine Ok_i (fun g_4 => ?_) (fun _ => ?_)
      · exact Ok_s ⟨Ag.rf, Ag.rf⟩
      · exact Ok_s ⟨Ag.rf, Ag.rf⟩
    · exact Ok_m (aX12_bits_b57) (fun _ ⟨h0, h1⟩ => ⟨(Ag.tr Ag.rf (Ag.mo rfl h0)), (Ag.tr Ag.rf (Ag.mo rfl h1))⟩)
def WX12_bits : List (Nat × Nat) := [(114, 115)]
theorem aX12_bits {σ : Shp} {I : Nat → Nat → Int32} {J : Nat → Nat → Int64} {x1 : UInt64} : Ok (gX12_bits σ I J x1) (fun r => Ag WX12_bits I r.1 ∧ Ag WX12_bits J r.2.1) := by
  unfold gX12_bits
  refine Ok_i (fun g_1 => ?_) (fun _ => ?_)
  · refine Ok_bc (fun r1 e_2 => ?_)
    refine Ok_i (fun g_3 => ?_) (fun _ => ?_)
    · exact Ok_m (aX12_bits_b25) (fun _ ⟨h0, h1⟩ => ⟨(Ag.tr Ag.rf (Ag.mo rfl h0)), (Ag.tr Ag.rf (Ag.mo rfl h1))⟩)
    · exact Ok_m (aX12_bits_b25) (fun _ ⟨h0, h1⟩ => ⟨(Ag.tr Ag.rf (Ag.mo rfl h0)), (Ag.tr Ag.rf (Ag.mo rfl h1))⟩)
  · exact Ok_s ⟨Ag.rf, Ag.rf⟩
def WX12_real_l131 : List (Nat × Nat) := [(114, 115), (187, 188)]
theorem aX12_real_l131 {q77 : (Nat → Nat → Int32) → (Nat → Nat → Int64) → (Nat → Nat → UInt64) → (Int32) → (Int32) → (Int32) → (Int32) → (UInt64) → (Int32) → (Option ((Nat → Nat → Int32) × (Nat → Nat → Int64) × (Nat → Nat → UInt64) × (Int64)))} {σ : Shp} {R : Nat → Nat → Option Nat} (hq77 : ∀ (I : Nat → Nat → Int32) (J : Nat → Nat → Int64) (D : Nat → Nat → UInt64) (x1 : Int32) (x3 : Int32) (x4 : Int32) (x5 : Int32) (x6 : UInt64) (x8 : Int32), Ok (q77 I J D x1 x3 x4 x5 x6 x8) (fun r => Ag WX12_real_l77 I r.1 ∧ Ag WX12_real_l77 J r.2.1 ∧ Ag WX12_real_l77 D r.2.2.1)) : ∀ (n : Nat) (I : Nat → Nat → Int32) (J : Nat → Nat → Int64) (D : Nat → Nat → UInt64) (x1 : Int32) (x3 : Int32) (x4 : Int32) (x5 : Int32) (x6 : UInt64) (x8 : Int32) (x9 : UInt64) (x11 : Int32), Ok (gX12_real_l131 q77 σ R n I J D x1 x3 x4 x5 x6 x8 x9 x11) (fun r => Ag WX12_real_l131 I r.1 ∧ Ag WX12_real_l131 J r.2.1 ∧ Ag WX12_real_l131 D r.2.2.1) := by
  intro n
  induction n with
  | zero => intro I J D x1 x3 x4 x5 x6 x8 x9 x11; exact Ok_e rfl
  | succ n ih =>
    intro I J D x1 x3 x4 x5 x6 x8 x9 x11
    rw [gX12_real_l131]
    refine Ok_i (fun g_1 => ?_) (fun _ => ?_)
    · refine Ok_g (fun g_2 => ?_)
      have m_3 := Ag.st (k := (Int32.toNatClampNeg x11)) (v := x9) Ag.rf (show inW WX12_real_l131 187 = true from rfl)
      exact Ok_m (hq77 _ _ _ _ _ _ _ _ _) (fun _ ⟨h0, h1, h2⟩ => ⟨(Ag.tr Ag.rf (Ag.mo rfl h0)), (Ag.tr Ag.rf (Ag.mo rfl h1)), (Ag.tr m_3 (Ag.mo rfl h2))⟩)
    · refine Ok_g (fun g_4 => ?_)
      refine Ok_bc (fun r45 e_5 => ?_)
      refine Ok_i (fun g_6 => ?_) (fun _ => ?_)
      · refine Ok_g (fun g_7 => ?_)
        have m_8 := Ag.st (k := (Int32.toNatClampNeg x11)) (v := x9) Ag.rf (show inW WX12_real_l131 187 = true from rfl)
        exact Ok_m (hq77 _ _ _ _ _ _ _ _ _) (fun _ ⟨h0, h1, h2⟩ => ⟨(Ag.tr Ag.rf (Ag.mo rfl h0)), (Ag.tr Ag.rf (Ag.mo rfl h1)), (Ag.tr m_8 (Ag.mo rfl h2))⟩)
      · refine Ok_g (fun g_9 => ?_)
        have m_10 := Ag.st (k := (Int32.toNatClampNeg x11)) (v := (D 187 (Int32.toNatClampNeg (x11 - (1 : Int32))))) Ag.rf (show inW WX12_real_l131 187 = true from rfl)
        exact Ok_m (ih _ _ _ _ _ _ _ _ _ _ _) (fun _ ⟨h0, h1, h2⟩ => ⟨(Ag.tr Ag.rf (Ag.mo rfl h0)), (Ag.tr Ag.rf (Ag.mo rfl h1)), (Ag.tr m_10 (Ag.mo rfl h2))⟩)
def WX12_real_l77 : List (Nat × Nat) := [(114, 115), (187, 188)]
theorem aX12_real_l77 {σ : Shp} {R : Nat → Nat → Option Nat} : ∀ (n : Nat) (I : Nat → Nat → Int32) (J : Nat → Nat → Int64) (D : Nat → Nat → UInt64) (x1 : Int32) (x3 : Int32) (x4 : Int32) (x5 : Int32) (x6 : UInt64) (x8 : Int32), Ok (gX12_real_l77 σ R n I J D x1 x3 x4 x5 x6 x8) (fun r => Ag WX12_real_l77 I r.1 ∧ Ag WX12_real_l77 J r.2.1 ∧ Ag WX12_real_l77 D r.2.2.1) := by
  intro n
  induction n with
  | zero => intro I J D x1 x3 x4 x5 x6 x8; exact Ok_e rfl
  | succ n ih =>
    intro I J D x1 x3 x4 x5 x6 x8
    rw [gX12_real_l77]
    refine Ok_g (fun g_1 => ?_)
    refine Ok_i (fun g_2 => ?_) (fun _ => ?_)
    · refine Ok_i (fun g_3 => ?_) (fun _ => ?_)
      · exact Ok_s ⟨Ag.rf, Ag.rf, Ag.rf⟩
      · refine Ok_i (fun g_4 => ?_) (fun _ => ?_)
        · refine Ok_g (fun g_5 => ?_)
          refine Ok_b (aX12_bits) ?_
          intro rr hr
          obtain ⟨I29, J30, r31⟩ := rr
          obtain ⟨h_6, h_7⟩ := hr
          have m_8 : Ag WX12_real_l77 I I29 := Ag.tr Ag.rf (Ag.mo rfl h_6)
          have m_9 : Ag WX12_real_l77 J J30 := Ag.tr Ag.rf (Ag.mo rfl h_7)
          exact Ok_s ⟨m_8, m_9, Ag.rf⟩
        · refine Ok_i (fun g_10 => ?_) (fun _ => ?_)
          · refine Ok_g (fun g_11 => ?_)
            refine Ok_b (aX12_bits) ?_
            intro rr hr
            obtain ⟨I24, J25, r26⟩ := rr
            obtain ⟨h_12, h_13⟩ := hr
            have m_14 : Ag WX12_real_l77 I I24 := Ag.tr Ag.rf (Ag.mo rfl h_12)
            have m_15 : Ag WX12_real_l77 J J25 := Ag.tr Ag.rf (Ag.mo rfl h_13)
            exact Ok_s ⟨m_14, m_15, Ag.rf⟩
          · refine Ok_i (fun g_16 => ?_) (fun _ => ?_)
            · refine Ok_bc (fun r17 e_17 => ?_)
              refine Ok_b (aX12_bits) ?_
              intro rr hr
              obtain ⟨I19, J20, r21⟩ := rr
              obtain ⟨h_18, h_19⟩ := hr
              have m_20 : Ag WX12_real_l77 I I19 := Ag.tr Ag.rf (Ag.mo rfl h_18)
              have m_21 : Ag WX12_real_l77 J J20 := Ag.tr Ag.rf (Ag.mo rfl h_19)
              exact Ok_s ⟨m_20, m_21, Ag.rf⟩
            · refine Ok_g (fun g_22 => ?_)
              refine Ok_b (aX12_bits) ?_
              intro rr hr
              obtain ⟨I13, J14, r15⟩ := rr
              obtain ⟨h_23, h_24⟩ := hr
              have m_25 : Ag WX12_real_l77 I I13 := Ag.tr Ag.rf (Ag.mo rfl h_23)
              have m_26 : Ag WX12_real_l77 J J14 := Ag.tr Ag.rf (Ag.mo rfl h_24)
              exact Ok_s ⟨m_25, m_26, Ag.rf⟩
    · refine Ok_g (fun g_27 => ?_)
      refine Ok_g (fun g_28 => ?_)
      refine Ok_bc (fun r35 e_29 => ?_)
      refine Ok_i (fun g_30 => ?_) (fun _ => ?_)
      · refine Ok_bc (fun r38 e_31 => ?_)
        exact Ok_m (aX12_real_l131 ih _ _ _ _ _ _ _ _ _ _ _ _) (fun _ ⟨h0, h1, h2⟩ => ⟨(Ag.tr Ag.rf (Ag.mo rfl h0)), (Ag.tr Ag.rf (Ag.mo rfl h1)), (Ag.tr Ag.rf (Ag.mo rfl h2))⟩)
      · exact Ok_m (ih _ _ _ _ _ _ _ _ _) (fun _ ⟨h0, h1, h2⟩ => ⟨(Ag.tr Ag.rf (Ag.mo rfl h0)), (Ag.tr Ag.rf (Ag.mo rfl h1)), (Ag.tr Ag.rf (Ag.mo rfl h2))⟩)
def WX12_real : List (Nat × Nat) := [(114, 115), (187, 188)]
theorem aX12_real {σ : Shp} {I : Nat → Nat → Int32} {J : Nat → Nat → Int64} {D : Nat → Nat → UInt64} {R : Nat → Nat → Option Nat} {x1 : Int32} {x2 : Int32} {x3 : Int32} : Ok (gX12_real σ I J D R x1 x2 x3) (fun r => Ag WX12_real I r.1 ∧ Ag WX12_real J r.2.1 ∧ Ag WX12_real D r.2.2.1) := by
  unfold gX12_real
  refine Ok_i (fun g_1 => ?_) (fun _ => ?_)
  · exact Ok_s ⟨Ag.rf, Ag.rf, Ag.rf⟩
  · refine Ok_i (fun g_2 => ?_) (fun _ => ?_)
    · exact Ok_s ⟨Ag.rf, Ag.rf, Ag.rf⟩
    · refine Ok_i (fun g_3 => ?_) (fun _ => ?_)
      · exact Ok_s ⟨Ag.rf, Ag.rf, Ag.rf⟩
      · refine Ok_g (fun g_4 => ?_)
        refine Ok_i (fun g_5 => ?_) (fun _ => ?_)
        · refine Ok_i (fun g_6 => ?_) (fun _ => ?_)
          · refine Ok_b (aX12_noBits) ?_
            intro rr hr
            obtain ⟨I6, r7⟩ := rr
            have h_7 := hr
            have m_8 : Ag WX12_real I I6 := Ag.tr Ag.rf (Ag.mo rfl h_7)
            exact Ok_s ⟨m_8, Ag.rf, Ag.rf⟩
          · refine Ok_b (aX12_noBits) ?_
            intro rr hr
            obtain ⟨I3, r4⟩ := rr
            have h_9 := hr
            have m_10 : Ag WX12_real I I3 := Ag.tr Ag.rf (Ag.mo rfl h_9)
            exact Ok_s ⟨m_10, Ag.rf, Ag.rf⟩
        · refine Ok_g (fun g_11 => ?_)
          refine Ok_i (fun g_12 => ?_) (fun _ => ?_)
          · exact Ok_m (aX12_real_l77  _ _ _ _ _ _ _ _ _ _) (fun _ ⟨h0, h1, h2⟩ => ⟨(Ag.tr Ag.rf (Ag.mo rfl h0)), (Ag.tr Ag.rf (Ag.mo rfl h1)), (Ag.tr Ag.rf (Ag.mo rfl h2))⟩)
          · refine Ok_i (fun g_13 => ?_) (fun _ => ?_)
            · refine Ok_b (aX12_noBits) ?_
              intro rr hr
              obtain ⟨I57, r58⟩ := rr
              have h_14 := hr
              have m_15 : Ag WX12_real I I57 := Ag.tr Ag.rf (Ag.mo rfl h_14)
              exact Ok_s ⟨m_15, Ag.rf, Ag.rf⟩
            · refine Ok_b (aX12_noBits) ?_
              intro rr hr
              obtain ⟨I54, r55⟩ := rr
              have h_16 := hr
              have m_17 : Ag WX12_real I I54 := Ag.tr Ag.rf (Ag.mo rfl h_16)
              exact Ok_s ⟨m_17, Ag.rf, Ag.rf⟩
def WX12_wholeMean_l70 : List (Nat × Nat) := [(114, 115)]
theorem aX12_wholeMean_l70 {σ : Shp} {J : Nat → Nat → Int64} {R : Nat → Nat → Option Nat} : ∀ (n : Nat) (I : Nat → Nat → Int32) (x2 : Int32) (x4 : Int64) (x6 : Int32), Ok (gX12_wholeMean_l70 σ J R n I x2 x4 x6) (fun r => Ag WX12_wholeMean_l70 I r.1) := by
  intro n
  induction n with
  | zero => intro I x2 x4 x6; exact Ok_e rfl
  | succ n ih =>
    intro I x2 x4 x6
    rw [gX12_wholeMean_l70]
    refine Ok_g (fun g_1 => ?_)
    refine Ok_i (fun g_2 => ?_) (fun _ => ?_)
    · refine Ok_g (fun g_3 => ?_)
      have m_4 := Ag.st (k := 25) (v := (Int64.toInt32 (x4 / (Int32.toInt64 (I 117 (Int32.toNatClampNeg x2)))))) Ag.rf (show inW WX12_wholeMean_l70 114 = true from rfl)
      exact Ok_s m_4
    · refine Ok_g (fun g_5 => ?_)
      refine Ok_g (fun g_6 => ?_)
      exact Ok_m (ih _ _ _ _) (fun _ hr => (Ag.tr Ag.rf (Ag.mo rfl hr)))
def WX12_wholeMean : List (Nat × Nat) := [(114, 115)]
theorem aX12_wholeMean {σ : Shp} {I : Nat → Nat → Int32} {J : Nat → Nat → Int64} {R : Nat → Nat → Option Nat} {x1 : Int32} : Ok (gX12_wholeMean σ I J R x1) (fun r => Ag WX12_wholeMean I r.1) := by
  unfold gX12_wholeMean
  refine Ok_i (fun g_1 => ?_) (fun _ => ?_)
  · exact Ok_s Ag.rf
  · refine Ok_g (fun g_2 => ?_)
    refine Ok_t ?_
    intro r3
    refine Ok_i (fun g_3 => ?_) (fun _ => ?_)
    · refine Ok_i (fun g_4 => ?_) (fun _ => ?_)
      · exact Ok_m (aX12_wholeMean_l70  _ _ _ _ _) (fun _ hr => (Ag.tr Ag.rf (Ag.mo rfl hr)))
      · refine Ok_b (aX12_no) ?_
        intro rr hr
        obtain ⟨I22, r23⟩ := rr
        have h_5 := hr
        have m_6 : Ag WX12_wholeMean I I22 := Ag.tr Ag.rf (Ag.mo rfl h_5)
        exact Ok_s m_6
    · refine Ok_i (fun g_7 => ?_) (fun _ => ?_)
      · refine Ok_i (fun g_8 => ?_) (fun _ => ?_)
        · exact Ok_m (aX12_wholeMean_l70  _ _ _ _ _) (fun _ hr => (Ag.tr Ag.rf (Ag.mo rfl hr)))
        · refine Ok_b (aX12_no) ?_
          intro rr hr
          obtain ⟨I19, r20⟩ := rr
          have h_9 := hr
          have m_10 : Ag WX12_wholeMean I I19 := Ag.tr Ag.rf (Ag.mo rfl h_9)
          exact Ok_s m_10
      · refine Ok_g (fun g_11 => ?_)
        refine Ok_i (fun g_12 => ?_) (fun _ => ?_)
        · refine Ok_i (fun g_13 => ?_) (fun _ => ?_)
          · exact Ok_m (aX12_wholeMean_l70  _ _ _ _ _) (fun _ hr => (Ag.tr Ag.rf (Ag.mo rfl hr)))
          · refine Ok_b (aX12_no) ?_
            intro rr hr
            obtain ⟨I16, r17⟩ := rr
            have h_14 := hr
            have m_15 : Ag WX12_wholeMean I I16 := Ag.tr Ag.rf (Ag.mo rfl h_14)
            exact Ok_s m_15
        · refine Ok_i (fun g_16 => ?_) (fun _ => ?_)
          · exact Ok_m (aX12_wholeMean_l70  _ _ _ _ _) (fun _ hr => (Ag.tr Ag.rf (Ag.mo rfl hr)))
          · refine Ok_b (aX12_no) ?_
            intro rr hr
            obtain ⟨I13, r14⟩ := rr
            have h_17 := hr
            have m_18 : Ag WX12_wholeMean I I13 := Ag.tr Ag.rf (Ag.mo rfl h_17)
            exact Ok_s m_18
def WX12_salt_b33 : List (Nat × Nat) := [(188, 189)]
theorem aX12_salt_b33 {σ : Shp} {R : Nat → Nat → Option Nat} {I : Nat → Nat → Int32} {x1 : Int32} {x2 : Int32} {x3 : Int32} {s0 : Int32} {s1 : Int32} {s2 : Int32} : Ok (gX12_salt_b33 σ R I x1 x2 x3 s0 s1 s2) (fun r => Ag WX12_salt_b33 I r.1) := by
  unfold gX12_salt_b33
  refine Ok_i (fun g_1 => ?_) (fun _ => ?_)
  · exact Ok_s Ag.rf
  · refine Ok_g (fun g_2 => ?_)
    have m_3 := Ag.st (k := (Int32.toNatClampNeg (((3 : Int32) * x1) + x2))) (v := x3) Ag.rf (show inW WX12_salt_b33 188 = true from rfl)
    exact Ok_s m_3
def WX12_salt : List (Nat × Nat) := [(188, 189)]
theorem aX12_salt {σ : Shp} {I : Nat → Nat → Int32} {R : Nat → Nat → Option Nat} {x1 : Int32} {x2 : Int32} {x3 : Int32} : Ok (gX12_salt σ I R x1 x2 x3) (fun r => Ag WX12_salt I r.1) := by
  unfold gX12_salt
  refine Ok_i (fun g_1 => ?_) (fun _ => ?_)
  · exact Ok_s Ag.rf
  · refine Ok_i (fun g_2 => ?_) (fun _ => ?_)
    · exact Ok_s Ag.rf
    · refine Ok_i (fun g_3 => ?_) (fun _ => ?_)
      · exact Ok_m (aX12_salt_b33) (fun _ hr => (Ag.tr Ag.rf (Ag.mo rfl hr)))
      · exact Ok_m (aX12_salt_b33) (fun _ hr => (Ag.tr Ag.rf (Ag.mo rfl hr)))
def WX12_fraction_b23 : List (Nat × Nat) := [(189, 190), (190, 191)]
theorem aX12_fraction_b23 {σ : Shp} {R : Nat → Nat → Option Nat} {J : Nat → Nat → Int64} {x1 : Int32} {x2 : Int64} {x4 : Int64} {s0 : Int64} : Ok (gX12_fraction_b23 σ R J x1 x2 x4 s0) (fun r => Ag WX12_fraction_b23 J r) := by
  unfold gX12_fraction_b23
  refine Ok_g (fun g_1 => ?_)
  refine Ok_g (fun g_2 => ?_)
  have m_3 := Ag.st (k := (Int32.toNatClampNeg x1)) (v := (x2 / s0)) Ag.rf (show inW WX12_fraction_b23 189 = true from rfl)
  refine Ok_g (fun g_4 => ?_)
  have m_5 := Ag.st (k := (Int32.toNatClampNeg x1)) (v := (x4 / s0)) m_3 (show inW WX12_fraction_b23 190 = true from rfl)
  exact Ok_s m_5
def WX12_fraction : List (Nat × Nat) := [(189, 190), (190, 191)]
theorem aX12_fraction {σ : Shp} {J : Nat → Nat → Int64} {R : Nat → Nat → Option Nat} {x1 : Int32} {x2 : Int64} {x4 : Int64} : Ok (gX12_fraction σ J R x1 x2 x4) (fun r => Ag WX12_fraction J r) := by
  unfold gX12_fraction
  refine Ok_bc (fun r1 e_1 => ?_)
  refine Ok_i (fun g_2 => ?_) (fun _ => ?_)
  · exact Ok_m (aX12_fraction_b23) (fun _ hr => (Ag.tr Ag.rf (Ag.mo rfl hr)))
  · exact Ok_m (aX12_fraction_b23) (fun _ hr => (Ag.tr Ag.rf (Ag.mo rfl hr)))
def WX12_less_b55 : List (Nat × Nat) := [(189, 190), (190, 191)]
theorem aX12_less_b55 {σ : Shp} {R : Nat → Nat → Option Nat} {J : Nat → Nat → Int64} {x1 : Int32} {x2 : Int64} {x4 : Int64} {x6 : Int32} {x7 : Int64} {s0 : Int64} : Ok (gX12_less_b55 σ R J x1 x2 x4 x6 x7 s0) (fun r => Ag WX12_less_b55 J r) := by
  unfold gX12_less_b55
  refine Ok_g (fun g_1 => ?_)
  refine Ok_g (fun g_2 => ?_)
  refine Ok_g (fun g_3 => ?_)
  refine Ok_g (fun g_4 => ?_)
  refine Ok_g (fun g_5 => ?_)
  refine Ok_bc (fun r14 e_6 => ?_)
  refine Ok_g (fun g_7 => ?_)
  refine Ok_g (fun g_8 => ?_)
  refine Ok_b (aX12_fraction) ?_
  intro J18 hr
  have h_9 := hr
  have m_10 : Ag WX12_less_b55 J J18 := Ag.tr Ag.rf (Ag.mo rfl h_9)
  exact Ok_s m_10
def WX12_less : List (Nat × Nat) := [(189, 190), (190, 191)]
theorem aX12_less {σ : Shp} {J : Nat → Nat → Int64} {R : Nat → Nat → Option Nat} {x1 : Int32} {x2 : Int64} {x4 : Int64} {x6 : Int32} : Ok (gX12_less σ J R x1 x2 x4 x6) (fun r => Ag WX12_less J r) := by
  unfold gX12_less
  refine Ok_g (fun g_1 => ?_)
  refine Ok_bc (fun r2 e_2 => ?_)
  refine Ok_g (fun g_3 => ?_)
  refine Ok_bc (fun r5 e_4 => ?_)
  refine Ok_i (fun g_5 => ?_) (fun _ => ?_)
  · refine Ok_i (fun g_6 => ?_) (fun _ => ?_)
    · exact Ok_m (aX12_less_b55) (fun _ hr => (Ag.tr Ag.rf (Ag.mo rfl hr)))
    · exact Ok_m (aX12_less_b55) (fun _ hr => (Ag.tr Ag.rf (Ag.mo rfl hr)))
  · refine Ok_i (fun g_7 => ?_) (fun _ => ?_)
    · exact Ok_m (aX12_less_b55) (fun _ hr => (Ag.tr Ag.rf (Ag.mo rfl hr)))
    · exact Ok_m (aX12_less_b55) (fun _ hr => (Ag.tr Ag.rf (Ag.mo rfl hr)))
def WX12_liftRow_l2 : List (Nat × Nat) := [(189, 190), (190, 191)]
theorem aX12_liftRow_l2 {σ : Shp} {I : Nat → Nat → Int32} {R : Nat → Nat → Option Nat} : ∀ (n : Nat) (J : Nat → Nat → Int64) (x1 : Int32) (x2 : Int32), Ok (gX12_liftRow_l2 σ I R n J x1 x2) (fun r => Ag WX12_liftRow_l2 J r) := by
  intro n
  induction n with
  | zero => intro J x1 x2; exact Ok_e rfl
  | succ n ih =>
    intro J x1 x2
    rw [gX12_liftRow_l2]
    refine Ok_i (fun g_1 => ?_) (fun _ => ?_)
    · exact Ok_s Ag.rf
    · refine Ok_g (fun g_2 => ?_)
      refine Ok_g (fun g_3 => ?_)
      refine Ok_g (fun g_4 => ?_)
      have m_5 := Ag.st (k := (Int32.toNatClampNeg (((8 : Int32) * x1) + x2))) (v := (J 189 (Int32.toNatClampNeg (((8 : Int32) * (I 114 114)) + x2)))) Ag.rf (show inW WX12_liftRow_l2 189 = true from rfl)
      refine Ok_g (fun g_6 => ?_)
      have m_7 := Ag.st (k := (Int32.toNatClampNeg (((8 : Int32) * x1) + x2))) (v := (J6 190 (Int32.toNatClampNeg (((8 : Int32) * (I 114 114)) + x2)))) m_5 (show inW WX12_liftRow_l2 190 = true from rfl)
      have m_8 := Ag.st (k := (Int32.toNatClampNeg (((8 : Int32) * (I 114 114)) + x2))) (v := v2) m_7 (show inW WX12_liftRow_l2 189 = true from rfl)
      have m_9 := Ag.st (k := (Int32.toNatClampNeg (((8 : Int32) * (I 114 114)) + x2))) (v := v4) m_8 (show inW WX12_liftRow_l2 190 = true from rfl)
      exact Ok_m (ih _ _ _) (fun _ hr => (Ag.tr m_9 (Ag.mo rfl hr)))
def WX12_liftRow : List (Nat × Nat) := [(189, 190), (190, 191)]
theorem aX12_liftRow {σ : Shp} {I : Nat → Nat → Int32} {J : Nat → Nat → Int64} {R : Nat → Nat → Option Nat} {x1 : Int32} : Ok (gX12_liftRow σ I J R x1) (fun r => Ag WX12_liftRow J r) := by
  unfold gX12_liftRow
  exact Ok_m (aX12_liftRow_l2  _ _ _ _) (fun _ hr => (Ag.tr Ag.rf (Ag.mo rfl hr)))
def WX12_clear_l191 : List (Nat × Nat) := [(114, 115), (189, 190), (190, 191), (191, 192)]
theorem aX12_clear_l191 {q154 : (Nat → Nat → Int32) → (Nat → Nat → Int64) → (Int32) → (Int32) → (Option ((Nat → Nat → Int32) × (Nat → Nat → Int64)))} {σ : Shp} {R : Nat → Nat → Option Nat} (hq154 : ∀ (I : Nat → Nat → Int32) (J : Nat → Nat → Int64) (x1 : Int32) (x6 : Int32), Ok (q154 I J x1 x6) (fun r => Ag WX12_clear_l154 I r.1 ∧ Ag WX12_clear_l154 J r.2)) : ∀ (n : Nat) (I : Nat → Nat → Int32) (J : Nat → Nat → Int64) (x1 : Int32) (x6 : Int32) (x7 : Int64) (x9 : Int64) (x11 : Int32), Ok (gX12_clear_l191 q154 σ R n I J x1 x6 x7 x9 x11) (fun r => Ag WX12_clear_l191 I r.1 ∧ Ag WX12_clear_l191 J r.2) := by
  intro n
  induction n with
  | zero => intro I J x1 x6 x7 x9 x11; exact Ok_e rfl
  | succ n ih =>
    intro I J x1 x6 x7 x9 x11
    rw [gX12_clear_l191]
    refine Ok_i (fun g_1 => ?_) (fun _ => ?_)
    · exact Ok_m (hq154 _ _ _ _) (fun _ ⟨h0, h1⟩ => ⟨(Ag.tr Ag.rf (Ag.mo rfl h0)), (Ag.tr Ag.rf (Ag.mo rfl h1))⟩)
    · refine Ok_i (fun g_2 => ?_) (fun _ => ?_)
      · exact Ok_m (hq154 _ _ _ _) (fun _ ⟨h0, h1⟩ => ⟨(Ag.tr Ag.rf (Ag.mo rfl h0)), (Ag.tr Ag.rf (Ag.mo rfl h1))⟩)
      · refine Ok_i (fun g_3 => ?_) (fun _ => ?_)
        · exact Ok_m (hq154 _ _ _ _) (fun _ ⟨h0, h1⟩ => ⟨(Ag.tr Ag.rf (Ag.mo rfl h0)), (Ag.tr Ag.rf (Ag.mo rfl h1))⟩)
        · refine Ok_b (aX12_less) ?_
          intro J15 hr
          have h_4 := hr
          have m_5 : Ag WX12_clear_l191 J J15 := Ag.tr Ag.rf (Ag.mo rfl h_4)
          exact Ok_m (ih _ _ _ _ _ _ _) (fun _ ⟨h0, h1⟩ => ⟨(Ag.tr Ag.rf (Ag.mo rfl h0)), (Ag.tr m_5 (Ag.mo rfl h1))⟩)
def WX12_clear_l154 : List (Nat × Nat) := [(114, 115), (189, 190), (190, 191), (191, 192)]
theorem aX12_clear_l154 {σ : Shp} {R : Nat → Nat → Option Nat} : ∀ (n : Nat) (I : Nat → Nat → Int32) (J : Nat → Nat → Int64) (x1 : Int32) (x6 : Int32), Ok (gX12_clear_l154 σ R n I J x1 x6) (fun r => Ag WX12_clear_l154 I r.1 ∧ Ag WX12_clear_l154 J r.2) := by
  intro n
  induction n with
  | zero => intro I J x1 x6; exact Ok_e rfl
  | succ n ih =>
    intro I J x1 x6
    rw [gX12_clear_l154]
    refine Ok_i (fun g_1 => ?_) (fun _ => ?_)
    · refine Ok_g (fun g_2 => ?_)
      have m_3 := Ag.st (k := (Int32.toNatClampNeg (I 114 114))) (v := x1) Ag.rf (show inW WX12_clear_l154 191 = true from rfl)
      have m_4 := Ag.st (k := 114) (v := ((I6 114 114) + (1 : Int32))) m_3 (show inW WX12_clear_l154 114 = true from rfl)
      exact Ok_s ⟨m_4, Ag.rf⟩
    · refine Ok_g (fun g_5 => ?_)
      refine Ok_g (fun g_6 => ?_)
      exact Ok_m (aX12_clear_l191 ih _ _ _ _ _ _ _ _) (fun _ ⟨h0, h1⟩ => ⟨(Ag.tr Ag.rf (Ag.mo rfl h0)), (Ag.tr Ag.rf (Ag.mo rfl h1))⟩)
def WX12_clear_l34 : List (Nat × Nat) := [(114, 115), (189, 190), (190, 191), (191, 192)]
theorem aX12_clear_l34 {σ : Shp} {R : Nat → Nat → Option Nat} : ∀ (n : Nat) (I : Nat → Nat → Int32) (J : Nat → Nat → Int64) (x1 : Int32) (x2 : Int64) (x4 : Int64) (x6 : Int32), Ok (gX12_clear_l34 σ R n I J x1 x2 x4 x6) (fun r => Ag WX12_clear_l34 I r.1 ∧ Ag WX12_clear_l34 J r.2) := by
  intro n
  induction n with
  | zero => intro I J x1 x2 x4 x6; exact Ok_e rfl
  | succ n ih =>
    intro I J x1 x2 x4 x6
    rw [gX12_clear_l34]
    refine Ok_i (fun g_1 => ?_) (fun _ => ?_)
    · exact Ok_m (aX12_clear_l154  _ _ _ _ _) (fun _ ⟨h0, h1⟩ => ⟨(Ag.tr Ag.rf (Ag.mo rfl h0)), (Ag.tr Ag.rf (Ag.mo rfl h1))⟩)
    · refine Ok_g (fun g_2 => ?_)
      refine Ok_bc (fun r19 e_3 => ?_)
      refine Ok_g (fun g_4 => ?_)
      refine Ok_bc (fun r22 e_5 => ?_)
      refine Ok_g (fun g_6 => ?_)
      refine Ok_g (fun g_7 => ?_)
      refine Ok_b (aX12_fraction) ?_
      intro J26 hr
      have h_8 := hr
      have m_9 : Ag WX12_clear_l34 J J26 := Ag.tr Ag.rf (Ag.mo rfl h_8)
      exact Ok_m (ih _ _ _ _ _ _) (fun _ ⟨h0, h1⟩ => ⟨(Ag.tr Ag.rf (Ag.mo rfl h0)), (Ag.tr m_9 (Ag.mo rfl h1))⟩)
def WX12_clear : List (Nat × Nat) := [(114, 115), (189, 190), (190, 191), (191, 192)]
theorem aX12_clear {σ : Shp} {I : Nat → Nat → Int32} {J : Nat → Nat → Int64} {R : Nat → Nat → Option Nat} {x1 : Int32} : Ok (gX12_clear σ I J R x1) (fun r => Ag WX12_clear I r.1 ∧ Ag WX12_clear J r.2) := by
  unfold gX12_clear
  refine Ok_g (fun g_1 => ?_)
  refine Ok_g (fun g_2 => ?_)
  exact Ok_m (aX12_clear_l34  _ _ _ _ _ _ _) (fun _ ⟨h0, h1⟩ => ⟨(Ag.tr Ag.rf (Ag.mo rfl h0)), (Ag.tr Ag.rf (Ag.mo rfl h1))⟩)
def WX12_makeWitness_l142 : List (Nat × Nat) := [(194, 195)]
theorem aX12_makeWitness_l142 {σ : Shp} {R : Nat → Nat → Option Nat} : ∀ (n : Nat) (J : Nat → Nat → Int64) (x4 : Int64) (x6 : Int64) (x8 : Int32), Ok (gX12_makeWitness_l142 σ R n J x4 x6 x8) (fun r => Ag WX12_makeWitness_l142 J r) := by
  intro n
  induction n with
  | zero => intro J x4 x6 x8; exact Ok_e rfl
  | succ n ih =>
    intro J x4 x6 x8
    rw [gX12_makeWitness_l142]
    refine Ok_i (fun g_1 => ?_) (fun _ => ?_)
    · exact Ok_s Ag.rf
    · refine Ok_g (fun g_2 => ?_)
      refine Ok_g (fun g_3 => ?_)
      refine Ok_i (fun g_4 => ?_) (fun _ => ?_)
      · have m_5 := Ag.st (k := (Int32.toNatClampNeg x8)) (v := (((J 194 (Int32.toNatClampNeg x8)) / x4) * (1 : Int64))) Ag.rf (show inW WX12_makeWitness_l142 194 = true from rfl)
        exact Ok_m (ih _ _ _ _) (fun _ hr => (Ag.tr m_5 (Ag.mo rfl hr)))
      · have m_6 := Ag.st (k := (Int32.toNatClampNeg x8)) (v := (((J 194 (Int32.toNatClampNeg x8)) / x4) * (-1 : Int64))) Ag.rf (show inW WX12_makeWitness_l142 194 = true from rfl)
        exact Ok_m (ih _ _ _ _) (fun _ hr => (Ag.tr m_6 (Ag.mo rfl hr)))
def WX12_makeWitness_l54 : List (Nat × Nat) := [(194, 195)]
theorem aX12_makeWitness_l54 {σ : Shp} {R : Nat → Nat → Option Nat} : ∀ (n : Nat) (J : Nat → Nat → Int64) (x1 : Int32) (x2 : Int64) (x4 : Int64) (x6 : Int64) (x8 : Int32), Ok (gX12_makeWitness_l54 σ R n J x1 x2 x4 x6 x8) (fun r => Ag WX12_makeWitness_l54 J r) := by
  intro n
  induction n with
  | zero => intro J x1 x2 x4 x6 x8; exact Ok_e rfl
  | succ n ih =>
    intro J x1 x2 x4 x6 x8
    rw [gX12_makeWitness_l54]
    refine Ok_i (fun g_1 => ?_) (fun _ => ?_)
    · exact Ok_m (aX12_makeWitness_l142  _ _ _ _ _) (fun _ hr => (Ag.tr Ag.rf (Ag.mo rfl hr)))
    · refine Ok_g (fun g_2 => ?_)
      refine Ok_g (fun g_3 => ?_)
      refine Ok_g (fun g_4 => ?_)
      refine Ok_g (fun g_5 => ?_)
      have m_6 := Ag.st (k := (Int32.toNatClampNeg x8)) (v := ((J 189 (Int32.toNatClampNeg ((((8 : Int32) * x1) + (5 : Int32)) + x8))) * (x2 / (J 190 (Int32.toNatClampNeg ((((8 : Int32) * x1) + (5 : Int32)) + x8)))))) Ag.rf (show inW WX12_makeWitness_l54 194 = true from rfl)
      refine Ok_bc (fun r12 e_7 => ?_)
      refine Ok_i (fun g_8 => ?_) (fun _ => ?_)
      · exact Ok_m (ih _ _ _ _ _ _) (fun _ hr => (Ag.tr m_6 (Ag.mo rfl hr)))
      · exact Ok_m (ih _ _ _ _ _ _) (fun _ hr => (Ag.tr m_6 (Ag.mo rfl hr)))
def WX12_makeWitness_l5 : List (Nat × Nat) := [(194, 195)]
theorem aX12_makeWitness_l5 {σ : Shp} {R : Nat → Nat → Option Nat} : ∀ (n : Nat) (J : Nat → Nat → Int64) (x1 : Int32) (x2 : Int64) (x4 : Int32), Ok (gX12_makeWitness_l5 σ R n J x1 x2 x4) (fun r => Ag WX12_makeWitness_l5 J r) := by
  intro n
  induction n with
  | zero => intro J x1 x2 x4; exact Ok_e rfl
  | succ n ih =>
    intro J x1 x2 x4
    rw [gX12_makeWitness_l5]
    refine Ok_i (fun g_1 => ?_) (fun _ => ?_)
    · exact Ok_m (aX12_makeWitness_l54  _ _ _ _ _ _ _) (fun _ hr => (Ag.tr Ag.rf (Ag.mo rfl hr)))
    · refine Ok_g (fun g_2 => ?_)
      refine Ok_bc (fun r19 e_3 => ?_)
      refine Ok_g (fun g_4 => ?_)
      exact Ok_m (ih _ _ _ _) (fun _ hr => (Ag.tr Ag.rf (Ag.mo rfl hr)))
def WX12_makeWitness : List (Nat × Nat) := [(194, 195)]
theorem aX12_makeWitness {σ : Shp} {J : Nat → Nat → Int64} {R : Nat → Nat → Option Nat} {x1 : Int32} : Ok (gX12_makeWitness σ J R x1) (fun r => Ag WX12_makeWitness J r) := by
  unfold gX12_makeWitness
  exact Ok_m (aX12_makeWitness_l5  _ _ _ _ _) (fun _ hr => (Ag.tr Ag.rf (Ag.mo rfl hr)))
def WX12_work_l273 : List (Nat × Nat) := [(192, 193), (193, 194)]
theorem aX12_work_l273 {σ : Shp} {R : Nat → Nat → Option Nat} : ∀ (n : Nat) (I : Nat → Nat → Int32) (J : Nat → Nat → Int64) (x1 : Int32) (x2 : Int32), Ok (gX12_work_l273 σ R n I J x1 x2) (fun r => Ag WX12_work_l273 I r.1 ∧ Ag WX12_work_l273 J r.2.1) := by
  intro n
  induction n with
  | zero => intro I J x1 x2; exact Ok_e rfl
  | succ n ih =>
    intro I J x1 x2
    rw [gX12_work_l273]
    refine Ok_i (fun g_1 => ?_) (fun _ => ?_)
    · refine Ok_i (fun g_2 => ?_) (fun _ => ?_)
      · exact Ok_s ⟨Ag.rf, Ag.rf⟩
      · exact Ok_s ⟨Ag.rf, Ag.rf⟩
    · refine Ok_g (fun g_3 => ?_)
      refine Ok_g (fun g_4 => ?_)
      refine Ok_g (fun g_5 => ?_)
      have m_6 := Ag.st (k := (Int32.toNatClampNeg (I 191 (Int32.toNatClampNeg x2)))) (v := (J 189 (Int32.toNatClampNeg (((8 : Int32) * x2) + (4 : Int32))))) Ag.rf (show inW WX12_work_l273 192 = true from rfl)
      refine Ok_g (fun g_7 => ?_)
      refine Ok_g (fun g_8 => ?_)
      have m_9 := Ag.st (k := (Int32.toNatClampNeg (I 191 (Int32.toNatClampNeg x2)))) (v := (J8 190 (Int32.toNatClampNeg (((8 : Int32) * x2) + (4 : Int32))))) m_6 (show inW WX12_work_l273 193 = true from rfl)
      refine Ok_i (fun g_10 => ?_) (fun _ => ?_)
      · refine Ok_i (fun g_11 => ?_) (fun _ => ?_)
        · exact Ok_m (ih _ _ _ _) (fun _ ⟨h0, h1⟩ => ⟨(Ag.tr Ag.rf (Ag.mo rfl h0)), (Ag.tr m_9 (Ag.mo rfl h1))⟩)
        · exact Ok_m (ih _ _ _ _) (fun _ ⟨h0, h1⟩ => ⟨(Ag.tr Ag.rf (Ag.mo rfl h0)), (Ag.tr m_9 (Ag.mo rfl h1))⟩)
      · exact Ok_m (ih _ _ _ _) (fun _ ⟨h0, h1⟩ => ⟨(Ag.tr Ag.rf (Ag.mo rfl h0)), (Ag.tr m_9 (Ag.mo rfl h1))⟩)
def WX12_work_l246 : List (Nat × Nat) := [(192, 193), (193, 194)]
theorem aX12_work_l246 {σ : Shp} {R : Nat → Nat → Option Nat} : ∀ (n : Nat) (I : Nat → Nat → Int32) (J : Nat → Nat → Int64) (x1 : Int32) (x2 : Int32), Ok (gX12_work_l246 σ R n I J x1 x2) (fun r => Ag WX12_work_l246 I r.1 ∧ Ag WX12_work_l246 J r.2.1) := by
  intro n
  induction n with
  | zero => intro I J x1 x2; exact Ok_e rfl
  | succ n ih =>
    intro I J x1 x2
    rw [gX12_work_l246]
    refine Ok_i (fun g_1 => ?_) (fun _ => ?_)
    · exact Ok_m (aX12_work_l273  _ _ _ _ _) (fun _ ⟨h0, h1⟩ => ⟨(Ag.tr Ag.rf (Ag.mo rfl h0)), (Ag.tr Ag.rf (Ag.mo rfl h1))⟩)
    · refine Ok_g (fun g_2 => ?_)
      have m_3 := Ag.st (k := (Int32.toNatClampNeg x2)) (v := (0 : Int64)) Ag.rf (show inW WX12_work_l246 192 = true from rfl)
      refine Ok_g (fun g_4 => ?_)
      have m_5 := Ag.st (k := (Int32.toNatClampNeg x2)) (v := (1 : Int64)) m_3 (show inW WX12_work_l246 193 = true from rfl)
      exact Ok_m (ih _ _ _ _) (fun _ ⟨h0, h1⟩ => ⟨(Ag.tr Ag.rf (Ag.mo rfl h0)), (Ag.tr m_5 (Ag.mo rfl h1))⟩)
def WX12_work_l189 : List (Nat × Nat) := [(114, 115), (192, 193), (193, 194), (194, 195)]
theorem aX12_work_l189 {σ : Shp} {R : Nat → Nat → Option Nat} : ∀ (n : Nat) (I : Nat → Nat → Int32) (J : Nat → Nat → Int64) (x1 : Int32), Ok (gX12_work_l189 σ R n I J x1) (fun r => Ag WX12_work_l189 I r.1 ∧ Ag WX12_work_l189 J r.2.1) := by
  intro n
  induction n with
  | zero => intro I J x1; exact Ok_e rfl
  | succ n ih =>
    intro I J x1
    rw [gX12_work_l189]
    refine Ok_i (fun g_1 => ?_) (fun _ => ?_)
    · refine Ok_i (fun g_2 => ?_) (fun _ => ?_)
      · exact Ok_m (aX12_work_l246  _ _ _ _ _) (fun _ ⟨h0, h1⟩ => ⟨(Ag.tr Ag.rf (Ag.mo rfl h0)), (Ag.tr Ag.rf (Ag.mo rfl h1))⟩)
      · exact Ok_s ⟨Ag.rf, Ag.rf⟩
    · refine Ok_i (fun g_3 => ?_) (fun _ => ?_)
      · refine Ok_g (fun g_4 => ?_)
        refine Ok_i (fun g_5 => ?_) (fun _ => ?_)
        · exact Ok_m (ih _ _ _) (fun _ ⟨h0, h1⟩ => ⟨(Ag.tr Ag.rf (Ag.mo rfl h0)), (Ag.tr Ag.rf (Ag.mo rfl h1))⟩)
        · have m_6 := Ag.st (k := 116) (v := (1 : Int32)) Ag.rf (show inW WX12_work_l189 114 = true from rfl)
          refine Ok_b (aX12_makeWitness) ?_
          intro J23 hr
          have h_7 := hr
          have m_8 : Ag WX12_work_l189 J J23 := Ag.tr Ag.rf (Ag.mo rfl h_7)
          exact Ok_m (ih _ _ _) (fun _ ⟨h0, h1⟩ => ⟨(Ag.tr m_6 (Ag.mo rfl h0)), (Ag.tr m_8 (Ag.mo rfl h1))⟩)
      · refine Ok_i (fun g_9 => ?_) (fun _ => ?_)
        · exact Ok_m (aX12_work_l246  _ _ _ _ _) (fun _ ⟨h0, h1⟩ => ⟨(Ag.tr Ag.rf (Ag.mo rfl h0)), (Ag.tr Ag.rf (Ag.mo rfl h1))⟩)
        · exact Ok_s ⟨Ag.rf, Ag.rf⟩
def WX12_work_b153 : List (Nat × Nat) := [(114, 115), (189, 190), (190, 191), (191, 192), (192, 193), (193, 194), (194, 195)]
theorem aX12_work_b153 {q116 : (Nat → Nat → Int32) → (Nat → Nat → Int64) → (Int32) → (Option ((Nat → Nat → Int32) × (Nat → Nat → Int64) × (Int32)))} {σ : Shp} {R : Nat → Nat → Option Nat} {I : Nat → Nat → Int32} {J : Nat → Nat → Int64} {x1 : Int32} {x2 : Int32} (hq116 : ∀ (I : Nat → Nat → Int32) (J : Nat → Nat → Int64) (x1 : Int32), Ok (q116 I J x1) (fun r => Ag WX12_work_l116 I r.1 ∧ Ag WX12_work_l116 J r.2.1)) : Ok (gX12_work_b153 q116 σ R I J x1 x2) (fun r => Ag WX12_work_b153 I r.1 ∧ Ag WX12_work_b153 J r.2.1) := by
  unfold gX12_work_b153
  refine Ok_i (fun g_1 => ?_) (fun _ => ?_)
  · exact Ok_m (hq116 _ _ _) (fun _ ⟨h0, h1⟩ => ⟨(Ag.tr Ag.rf (Ag.mo rfl h0)), (Ag.tr Ag.rf (Ag.mo rfl h1))⟩)
  · refine Ok_b (aX12_liftRow) ?_
    intro J28 hr
    have h_2 := hr
    have m_3 : Ag WX12_work_b153 J J28 := Ag.tr Ag.rf (Ag.mo rfl h_2)
    refine Ok_b (aX12_clear) ?_
    intro rr hr
    obtain ⟨I30, J31⟩ := rr
    obtain ⟨h_4, h_5⟩ := hr
    have m_6 : Ag WX12_work_b153 I I30 := Ag.tr Ag.rf (Ag.mo rfl h_4)
    have m_7 : Ag WX12_work_b153 J J31 := Ag.tr m_3 (Ag.mo rfl h_5)
    exact Ok_m (hq116 _ _ _) (fun _ ⟨h0, h1⟩ => ⟨(Ag.tr m_6 (Ag.mo rfl h0)), (Ag.tr m_7 (Ag.mo rfl h1))⟩)
def WX12_work_l126 : List (Nat × Nat) := [(114, 115), (189, 190), (190, 191), (191, 192), (192, 193), (193, 194), (194, 195)]
theorem aX12_work_l126 {q116 : (Nat → Nat → Int32) → (Nat → Nat → Int64) → (Int32) → (Option ((Nat → Nat → Int32) × (Nat → Nat → Int64) × (Int32)))} {σ : Shp} {R : Nat → Nat → Option Nat} (hq116 : ∀ (I : Nat → Nat → Int32) (J : Nat → Nat → Int64) (x1 : Int32), Ok (q116 I J x1) (fun r => Ag WX12_work_l116 I r.1 ∧ Ag WX12_work_l116 J r.2.1)) : ∀ (n : Nat) (I : Nat → Nat → Int32) (J : Nat → Nat → Int64) (x1 : Int32) (x2 : Int32), Ok (gX12_work_l126 q116 σ R n I J x1 x2) (fun r => Ag WX12_work_l126 I r.1 ∧ Ag WX12_work_l126 J r.2.1) := by
  intro n
  induction n with
  | zero => intro I J x1 x2; exact Ok_e rfl
  | succ n ih =>
    intro I J x1 x2
    rw [gX12_work_l126]
    refine Ok_i (fun g_1 => ?_) (fun _ => ?_)
    · exact Ok_m (aX12_work_b153 hq116) (fun _ ⟨h0, h1⟩ => ⟨(Ag.tr Ag.rf (Ag.mo rfl h0)), (Ag.tr Ag.rf (Ag.mo rfl h1))⟩)
    · refine Ok_g (fun g_2 => ?_)
      refine Ok_i (fun g_3 => ?_) (fun _ => ?_)
      · exact Ok_m (ih _ _ _ _) (fun _ ⟨h0, h1⟩ => ⟨(Ag.tr Ag.rf (Ag.mo rfl h0)), (Ag.tr Ag.rf (Ag.mo rfl h1))⟩)
      · exact Ok_m (aX12_work_b153 hq116) (fun _ ⟨h0, h1⟩ => ⟨(Ag.tr Ag.rf (Ag.mo rfl h0)), (Ag.tr Ag.rf (Ag.mo rfl h1))⟩)
def WX12_work_l116 : List (Nat × Nat) := [(114, 115), (189, 190), (190, 191), (191, 192), (192, 193), (193, 194), (194, 195)]
theorem aX12_work_l116 {σ : Shp} {R : Nat → Nat → Option Nat} : ∀ (n : Nat) (I : Nat → Nat → Int32) (J : Nat → Nat → Int64) (x1 : Int32), Ok (gX12_work_l116 σ R n I J x1) (fun r => Ag WX12_work_l116 I r.1 ∧ Ag WX12_work_l116 J r.2.1) := by
  intro n
  induction n with
  | zero => intro I J x1; exact Ok_e rfl
  | succ n ih =>
    intro I J x1
    rw [gX12_work_l116]
    refine Ok_i (fun g_1 => ?_) (fun _ => ?_)
    · have m_2 := Ag.st (k := 115) (v := (1 : Int32)) Ag.rf (show inW WX12_work_l116 114 = true from rfl)
      have m_3 := Ag.st (k := 116) (v := (0 : Int32)) m_2 (show inW WX12_work_l116 114 = true from rfl)
      exact Ok_m (aX12_work_l189  _ _ _ _) (fun _ ⟨h0, h1⟩ => ⟨(Ag.tr m_3 (Ag.mo rfl h0)), (Ag.tr Ag.rf (Ag.mo rfl h1))⟩)
    · exact Ok_m (aX12_work_l126 ih _ _ _ _ _) (fun _ ⟨h0, h1⟩ => ⟨(Ag.tr Ag.rf (Ag.mo rfl h0)), (Ag.tr Ag.rf (Ag.mo rfl h1))⟩)
def WX12_work_l9 : List (Nat × Nat) := [(114, 115), (189, 190), (190, 191), (191, 192), (192, 193), (193, 194), (194, 195)]
theorem aX12_work_l9 {q2 : (Nat → Nat → Int32) → (Nat → Nat → Int64) → (Int32) → (Option ((Nat → Nat → Int32) × (Nat → Nat → Int64) × (Int32)))} {σ : Shp} {R : Nat → Nat → Option Nat} (hq2 : ∀ (I : Nat → Nat → Int32) (J : Nat → Nat → Int64) (x1 : Int32), Ok (q2 I J x1) (fun r => Ag WX12_work_l2 I r.1 ∧ Ag WX12_work_l2 J r.2.1)) : ∀ (n : Nat) (I : Nat → Nat → Int32) (J : Nat → Nat → Int64) (x1 : Int32) (x2 : Int32), Ok (gX12_work_l9 q2 σ R n I J x1 x2) (fun r => Ag WX12_work_l9 I r.1 ∧ Ag WX12_work_l9 J r.2.1) := by
  intro n
  induction n with
  | zero => intro I J x1 x2; exact Ok_e rfl
  | succ n ih =>
    intro I J x1 x2
    rw [gX12_work_l9]
    refine Ok_i (fun g_1 => ?_) (fun _ => ?_)
    · exact Ok_m (hq2 _ _ _) (fun _ ⟨h0, h1⟩ => ⟨(Ag.tr Ag.rf (Ag.mo rfl h0)), (Ag.tr Ag.rf (Ag.mo rfl h1))⟩)
    · refine Ok_i (fun g_2 => ?_) (fun _ => ?_)
      · refine Ok_i (fun g_3 => ?_) (fun _ => ?_)
        · refine Ok_g (fun g_4 => ?_)
          refine Ok_g (fun g_5 => ?_)
          refine Ok_g (fun g_6 => ?_)
          have m_7 := Ag.st (k := (Int32.toNatClampNeg (((8 : Int32) * x1) + x2))) (v := (Int32.toInt64 ((I 188 (Int32.toNatClampNeg ((12 : Int32) + x1))) - (I 188 (Int32.toNatClampNeg ((15 : Int32) + x1)))))) Ag.rf (show inW WX12_work_l9 189 = true from rfl)
          refine Ok_g (fun g_8 => ?_)
          have m_9 := Ag.st (k := (Int32.toNatClampNeg (((8 : Int32) * x1) + x2))) (v := (1 : Int64)) m_7 (show inW WX12_work_l9 190 = true from rfl)
          exact Ok_m (ih _ _ _ _) (fun _ ⟨h0, h1⟩ => ⟨(Ag.tr Ag.rf (Ag.mo rfl h0)), (Ag.tr m_9 (Ag.mo rfl h1))⟩)
        · refine Ok_i (fun g_10 => ?_) (fun _ => ?_)
          · refine Ok_g (fun g_11 => ?_)
            have m_12 := Ag.st (k := (Int32.toNatClampNeg (((8 : Int32) * x1) + x2))) (v := (1 : Int64)) Ag.rf (show inW WX12_work_l9 189 = true from rfl)
            refine Ok_g (fun g_13 => ?_)
            have m_14 := Ag.st (k := (Int32.toNatClampNeg (((8 : Int32) * x1) + x2))) (v := (1 : Int64)) m_12 (show inW WX12_work_l9 190 = true from rfl)
            exact Ok_m (ih _ _ _ _) (fun _ ⟨h0, h1⟩ => ⟨(Ag.tr Ag.rf (Ag.mo rfl h0)), (Ag.tr m_14 (Ag.mo rfl h1))⟩)
          · refine Ok_g (fun g_15 => ?_)
            have m_16 := Ag.st (k := (Int32.toNatClampNeg (((8 : Int32) * x1) + x2))) (v := (0 : Int64)) Ag.rf (show inW WX12_work_l9 189 = true from rfl)
            refine Ok_g (fun g_17 => ?_)
            have m_18 := Ag.st (k := (Int32.toNatClampNeg (((8 : Int32) * x1) + x2))) (v := (1 : Int64)) m_16 (show inW WX12_work_l9 190 = true from rfl)
            exact Ok_m (ih _ _ _ _) (fun _ ⟨h0, h1⟩ => ⟨(Ag.tr Ag.rf (Ag.mo rfl h0)), (Ag.tr m_18 (Ag.mo rfl h1))⟩)
      · refine Ok_g (fun g_19 => ?_)
        refine Ok_g (fun g_20 => ?_)
        have m_21 := Ag.st (k := (Int32.toNatClampNeg (((8 : Int32) * x1) + x2))) (v := (Int32.toInt64 (I 188 (Int32.toNatClampNeg (((3 : Int32) * x2) + x1))))) Ag.rf (show inW WX12_work_l9 189 = true from rfl)
        refine Ok_g (fun g_22 => ?_)
        have m_23 := Ag.st (k := (Int32.toNatClampNeg (((8 : Int32) * x1) + x2))) (v := (1 : Int64)) m_21 (show inW WX12_work_l9 190 = true from rfl)
        exact Ok_m (ih _ _ _ _) (fun _ ⟨h0, h1⟩ => ⟨(Ag.tr Ag.rf (Ag.mo rfl h0)), (Ag.tr m_23 (Ag.mo rfl h1))⟩)
def WX12_work_l2 : List (Nat × Nat) := [(114, 115), (189, 190), (190, 191), (191, 192), (192, 193), (193, 194), (194, 195)]
theorem aX12_work_l2 {σ : Shp} {R : Nat → Nat → Option Nat} : ∀ (n : Nat) (I : Nat → Nat → Int32) (J : Nat → Nat → Int64) (x1 : Int32), Ok (gX12_work_l2 σ R n I J x1) (fun r => Ag WX12_work_l2 I r.1 ∧ Ag WX12_work_l2 J r.2.1) := by
  intro n
  induction n with
  | zero => intro I J x1; exact Ok_e rfl
  | succ n ih =>
    intro I J x1
    rw [gX12_work_l2]
    refine Ok_i (fun g_1 => ?_) (fun _ => ?_)
    · have m_2 := Ag.st (k := 114) (v := (0 : Int32)) Ag.rf (show inW WX12_work_l2 114 = true from rfl)
      exact Ok_m (aX12_work_l116  _ _ _ _) (fun _ ⟨h0, h1⟩ => ⟨(Ag.tr m_2 (Ag.mo rfl h0)), (Ag.tr Ag.rf (Ag.mo rfl h1))⟩)
    · exact Ok_m (aX12_work_l9 ih _ _ _ _ _) (fun _ ⟨h0, h1⟩ => ⟨(Ag.tr Ag.rf (Ag.mo rfl h0)), (Ag.tr Ag.rf (Ag.mo rfl h1))⟩)
def WX12_work : List (Nat × Nat) := [(114, 115), (189, 190), (190, 191), (191, 192), (192, 193), (193, 194), (194, 195)]
theorem aX12_work {σ : Shp} {I : Nat → Nat → Int32} {J : Nat → Nat → Int64} {R : Nat → Nat → Option Nat} : Ok (gX12_work σ I J R) (fun r => Ag WX12_work I r.1 ∧ Ag WX12_work J r.2.1) := by
  unfold gX12_work
  exact Ok_m (aX12_work_l2  _ _ _ _) (fun _ ⟨h0, h1⟩ => ⟨(Ag.tr Ag.rf (Ag.mo rfl h0)), (Ag.tr Ag.rf (Ag.mo rfl h1))⟩)
def WX12_count : List (Nat × Nat) := [(195, 196)]
theorem aX12_count {J : Nat → Nat → Int64} {x1 : Int32} {x2 : Int32} {x3 : Int32} : Ok (gX12_count J x1 x2 x3) (fun r => Ag WX12_count J r.1) := by
  unfold gX12_count
  refine Ok_i (fun g_1 => ?_) (fun _ => ?_)
  · exact Ok_s Ag.rf
  · refine Ok_i (fun g_2 => ?_) (fun _ => ?_)
    · exact Ok_s Ag.rf
    · refine Ok_g (fun g_3 => ?_)
      have m_4 := Ag.st (k := (Int32.toNatClampNeg (((4 : Int32) * x1) + x2))) (v := (Int32.toInt64 x3)) Ag.rf (show inW WX12_count 195 = true from rfl)
      exact Ok_s m_4
def WX12_parts : List (Nat × Nat) := [(196, 197), (197, 198), (198, 199)]
theorem aX12_parts {I : Nat → Nat → Int32} {x1 : Int32} {x2 : Int32} {x3 : Int32} {x4 : Int32} {x5 : Int32} : Ok (gX12_parts I x1 x2 x3 x4 x5) (fun r => Ag WX12_parts I r.1) := by
  unfold gX12_parts
  refine Ok_i (fun g_1 => ?_) (fun _ => ?_)
  · exact Ok_s Ag.rf
  · refine Ok_i (fun g_2 => ?_) (fun _ => ?_)
    · exact Ok_s Ag.rf
    · refine Ok_i (fun g_3 => ?_) (fun _ => ?_)
      · exact Ok_s Ag.rf
      · refine Ok_i (fun g_4 => ?_) (fun _ => ?_)
        · exact Ok_s Ag.rf
        · refine Ok_g (fun g_5 => ?_)
          have m_6 := Ag.st (k := (Int32.toNatClampNeg (((4 : Int32) * x1) + x2))) (v := x3) Ag.rf (show inW WX12_parts 196 = true from rfl)
          refine Ok_g (fun g_7 => ?_)
          have m_8 := Ag.st (k := (Int32.toNatClampNeg (((4 : Int32) * x1) + x2))) (v := x4) m_6 (show inW WX12_parts 197 = true from rfl)
          refine Ok_g (fun g_9 => ?_)
          have m_10 := Ag.st (k := (Int32.toNatClampNeg (((4 : Int32) * x1) + x2))) (v := x5) m_8 (show inW WX12_parts 198 = true from rfl)
          exact Ok_s m_10
def WX12_oneDay_l180 : List (Nat × Nat) := [(195, 196)]
theorem aX12_oneDay_l180 {σ : Shp} {I : Nat → Nat → Int32} {R : Nat → Nat → Option Nat} : ∀ (n : Nat) (J : Nat → Nat → Int64) (x1 : Int32) (x2 : Int32), Ok (gX12_oneDay_l180 σ I R n J x1 x2) (fun r => Ag WX12_oneDay_l180 J r) := by
  intro n
  induction n with
  | zero => intro J x1 x2; exact Ok_e rfl
  | succ n ih =>
    intro J x1 x2
    rw [gX12_oneDay_l180]
    refine Ok_i (fun g_1 => ?_) (fun _ => ?_)
    · exact Ok_s Ag.rf
    · refine Ok_g (fun g_2 => ?_)
      refine Ok_i (fun g_3 => ?_) (fun _ => ?_)
      · refine Ok_g (fun g_4 => ?_)
        have m_5 := Ag.st (k := (Int32.toNatClampNeg (((4 : Int32) * x1) + x2))) (v := (J 199 (Int32.toNatClampNeg (((4 : Int32) * x1) + x2)))) Ag.rf (show inW WX12_oneDay_l180 195 = true from rfl)
        exact Ok_m (ih _ _ _) (fun _ hr => (Ag.tr m_5 (Ag.mo rfl hr)))
      · refine Ok_g (fun g_6 => ?_)
        have m_7 := Ag.st (k := (Int32.toNatClampNeg (((4 : Int32) * x1) + x2))) (v := (1000000000 : Int64)) Ag.rf (show inW WX12_oneDay_l180 195 = true from rfl)
        exact Ok_m (ih _ _ _) (fun _ hr => (Ag.tr m_7 (Ag.mo rfl hr)))
def WX12_oneDay_l26 : List (Nat × Nat) := [(184, 185), (185, 186), (186, 187), (195, 196), (199, 200)]
theorem aX12_oneDay_l26 {σ : Shp} {I : Nat → Nat → Int32} {R : Nat → Nat → Option Nat} : ∀ (n : Nat) (J : Nat → Nat → Int64) (x1 : Int32) (x2 : Int32), Ok (gX12_oneDay_l26 σ I R n J x1 x2) (fun r => Ag WX12_oneDay_l26 J r) := by
  intro n
  induction n with
  | zero => intro J x1 x2; exact Ok_e rfl
  | succ n ih =>
    intro J x1 x2
    rw [gX12_oneDay_l26]
    refine Ok_i (fun g_1 => ?_) (fun _ => ?_)
    · refine Ok_g (fun g_2 => ?_)
      refine Ok_g (fun g_3 => ?_)
      refine Ok_g (fun g_4 => ?_)
      have m_5 := Ag.st (k := (Int32.toNatClampNeg ((4 : Int32) * x1))) (v := ((J 199 (Int32.toNatClampNeg ((4 : Int32) * x1))) + (((J 195 (Int32.toNatClampNeg (((4 : Int32) * x1) + (3 : Int32)))) * (Int32.toInt64 (I 198 (Int32.toNatClampNeg (((4 : Int32) * x1) + (3 : Int32)))))) / (100 : Int64)))) Ag.rf (show inW WX12_oneDay_l26 199 = true from rfl)
      exact Ok_m (aX12_oneDay_l180  _ _ _ _) (fun _ hr => (Ag.tr m_5 (Ag.mo rfl hr)))
    · refine Ok_g (fun g_6 => ?_)
      refine Ok_g (fun g_7 => ?_)
      have m_8 := Ag.st (k := (Int32.toNatClampNeg (0 : Int32))) (v := (Int32.toInt64 (I 196 (Int32.toNatClampNeg v12)))) Ag.rf (show inW WX12_oneDay_l26 186 = true from rfl)
      refine Ok_g (fun g_9 => ?_)
      refine Ok_g (fun g_10 => ?_)
      have m_11 := Ag.st (k := (Int32.toNatClampNeg (1 : Int32))) (v := (Int32.toInt64 (I 197 (Int32.toNatClampNeg v12)))) m_8 (show inW WX12_oneDay_l26 186 = true from rfl)
      refine Ok_g (fun g_12 => ?_)
      have m_13 := Ag.st (k := (Int32.toNatClampNeg (2 : Int32))) (v := (Int32.toInt64 (((2000 : Int32) - (I 196 (Int32.toNatClampNeg v12))) - (I 197 (Int32.toNatClampNeg v12))))) m_11 (show inW WX12_oneDay_l26 186 = true from rfl)
      refine Ok_g (fun g_14 => ?_)
      refine Ok_b (aX12_partWhole) ?_
      intro J22 hr
      have h_15 := hr
      have m_16 : Ag WX12_oneDay_l26 J J22 := Ag.tr m_13 (Ag.mo rfl h_15)
      refine Ok_g (fun g_17 => ?_)
      refine Ok_g (fun g_18 => ?_)
      have m_19 := Ag.st (k := (Int32.toNatClampNeg v12)) (v := ((J22 199 (Int32.toNatClampNeg v12)) + (J22 184 (Int32.toNatClampNeg (1 : Int32))))) m_16 (show inW WX12_oneDay_l26 199 = true from rfl)
      refine Ok_i (fun g_20 => ?_) (fun _ => ?_)
      · exact Ok_m (ih _ _ _) (fun _ hr => (Ag.tr m_19 (Ag.mo rfl hr)))
      · refine Ok_g (fun g_21 => ?_)
        refine Ok_g (fun g_22 => ?_)
        have m_23 := Ag.st (k := (Int32.toNatClampNeg (v12 + (1 : Int32)))) (v := ((J26 199 (Int32.toNatClampNeg (v12 + (1 : Int32)))) + (J26 184 (Int32.toNatClampNeg (0 : Int32))))) m_19 (show inW WX12_oneDay_l26 199 = true from rfl)
        exact Ok_m (ih _ _ _) (fun _ hr => (Ag.tr m_23 (Ag.mo rfl hr)))
def WX12_oneDay_l2 : List (Nat × Nat) := [(184, 185), (185, 186), (186, 187), (195, 196), (199, 200)]
theorem aX12_oneDay_l2 {σ : Shp} {I : Nat → Nat → Int32} {R : Nat → Nat → Option Nat} : ∀ (n : Nat) (J : Nat → Nat → Int64) (x1 : Int32) (x2 : Int32), Ok (gX12_oneDay_l2 σ I R n J x1 x2) (fun r => Ag WX12_oneDay_l2 J r) := by
  intro n
  induction n with
  | zero => intro J x1 x2; exact Ok_e rfl
  | succ n ih =>
    intro J x1 x2
    rw [gX12_oneDay_l2]
    refine Ok_i (fun g_1 => ?_) (fun _ => ?_)
    · exact Ok_m (aX12_oneDay_l26  _ _ _ _) (fun _ hr => (Ag.tr Ag.rf (Ag.mo rfl hr)))
    · refine Ok_g (fun g_2 => ?_)
      have m_3 := Ag.st (k := (Int32.toNatClampNeg (((4 : Int32) * x1) + x2))) (v := (0 : Int64)) Ag.rf (show inW WX12_oneDay_l2 199 = true from rfl)
      exact Ok_m (ih _ _ _) (fun _ hr => (Ag.tr m_3 (Ag.mo rfl hr)))
def WX12_oneDay : List (Nat × Nat) := [(184, 185), (185, 186), (186, 187), (195, 196), (199, 200)]
theorem aX12_oneDay {σ : Shp} {I : Nat → Nat → Int32} {J : Nat → Nat → Int64} {R : Nat → Nat → Option Nat} {x1 : Int32} : Ok (gX12_oneDay σ I J R x1) (fun r => Ag WX12_oneDay J r) := by
  unfold gX12_oneDay
  exact Ok_m (aX12_oneDay_l2  _ _ _ _) (fun _ hr => (Ag.tr Ag.rf (Ag.mo rfl hr)))
def WX12_day_l30 : List (Nat × Nat) := [(114, 115), (184, 185), (185, 186), (186, 187), (195, 196), (199, 200)]
theorem aX12_day_l30 {σ : Shp} {R : Nat → Nat → Option Nat} : ∀ (n : Nat) (I : Nat → Nat → Int32) (J : Nat → Nat → Int64) (x1 : Int32) (x2 : Int32), Ok (gX12_day_l30 σ R n I J x1 x2) (fun r => Ag WX12_day_l30 I r.1 ∧ Ag WX12_day_l30 J r.2.1) := by
  intro n
  induction n with
  | zero => intro I J x1 x2; exact Ok_e rfl
  | succ n ih =>
    intro I J x1 x2
    rw [gX12_day_l30]
    refine Ok_i (fun g_1 => ?_) (fun _ => ?_)
    · exact Ok_s ⟨Ag.rf, Ag.rf⟩
    · refine Ok_b (aX12_oneDay) ?_
      intro J1 hr
      have h_2 := hr
      have m_3 : Ag WX12_day_l30 J J1 := Ag.tr Ag.rf (Ag.mo rfl h_2)
      refine Ok_b (aX12_oneDay) ?_
      intro J3 hr
      have h_4 := hr
      have m_5 : Ag WX12_day_l30 J J3 := Ag.tr m_3 (Ag.mo rfl h_4)
      have m_6 := Ag.st (k := 125) (v := ((I 114 125) + (1 : Int32))) Ag.rf (show inW WX12_day_l30 114 = true from rfl)
      refine Ok_i (fun g_7 => ?_) (fun _ => ?_)
      · have m_8 := Ag.st (k := 126) (v := ((I5 114 126) - (0 : Int32))) m_6 (show inW WX12_day_l30 114 = true from rfl)
        exact Ok_m (ih _ _ _ _) (fun _ ⟨h0, h1⟩ => ⟨(Ag.tr m_8 (Ag.mo rfl h0)), (Ag.tr m_5 (Ag.mo rfl h1))⟩)
      · have m_9 := Ag.st (k := 126) (v := ((I5 114 126) - (1 : Int32))) m_6 (show inW WX12_day_l30 114 = true from rfl)
        exact Ok_m (ih _ _ _ _) (fun _ ⟨h0, h1⟩ => ⟨(Ag.tr m_9 (Ag.mo rfl h0)), (Ag.tr m_5 (Ag.mo rfl h1))⟩)
def WX12_day : List (Nat × Nat) := [(114, 115), (184, 185), (185, 186), (186, 187), (195, 196), (199, 200)]
theorem aX12_day {σ : Shp} {I : Nat → Nat → Int32} {J : Nat → Nat → Int64} {R : Nat → Nat → Option Nat} {x1 : Int32} : Ok (gX12_day σ I J R x1) (fun r => Ag WX12_day I r.1 ∧ Ag WX12_day J r.2.1) := by
  unfold gX12_day
  refine Ok_i (fun g_1 => ?_) (fun _ => ?_)
  · exact Ok_s ⟨Ag.rf, Ag.rf⟩
  · refine Ok_i (fun g_2 => ?_) (fun _ => ?_)
    · exact Ok_m (aX12_day_l30  _ _ _ _ _) (fun _ ⟨h0, h1⟩ => ⟨(Ag.tr Ag.rf (Ag.mo rfl h0)), (Ag.tr Ag.rf (Ag.mo rfl h1))⟩)
    · exact Ok_s ⟨Ag.rf, Ag.rf⟩
def WX12_spray_l14 : List (Nat × Nat) := [(114, 115), (195, 196)]
theorem aX12_spray_l14 {σ : Shp} {R : Nat → Nat → Option Nat} : ∀ (n : Nat) (I : Nat → Nat → Int32) (J : Nat → Nat → Int64) (x1 : Int32) (x2 : Int32), Ok (gX12_spray_l14 σ R n I J x1 x2) (fun r => Ag WX12_spray_l14 I r.1 ∧ Ag WX12_spray_l14 J r.2.1) := by
  intro n
  induction n with
  | zero => intro I J x1 x2; exact Ok_e rfl
  | succ n ih =>
    intro I J x1 x2
    rw [gX12_spray_l14]
    refine Ok_i (fun g_1 => ?_) (fun _ => ?_)
    · have m_2 := Ag.st (k := 126) (v := (7 : Int32)) Ag.rf (show inW WX12_spray_l14 114 = true from rfl)
      exact Ok_s ⟨m_2, Ag.rf⟩
    · refine Ok_g (fun g_3 => ?_)
      have m_4 := Ag.st (k := (Int32.toNatClampNeg (((4 : Int32) * x1) + x2))) (v := ((J 195 (Int32.toNatClampNeg (((4 : Int32) * x1) + x2))) / (4 : Int64))) Ag.rf (show inW WX12_spray_l14 195 = true from rfl)
      exact Ok_m (ih _ _ _ _) (fun _ ⟨h0, h1⟩ => ⟨(Ag.tr Ag.rf (Ag.mo rfl h0)), (Ag.tr m_4 (Ag.mo rfl h1))⟩)
def WX12_spray : List (Nat × Nat) := [(114, 115), (195, 196)]
theorem aX12_spray {σ : Shp} {I : Nat → Nat → Int32} {J : Nat → Nat → Int64} {R : Nat → Nat → Option Nat} {x1 : Int32} : Ok (gX12_spray σ I J R x1) (fun r => Ag WX12_spray I r.1 ∧ Ag WX12_spray J r.2.1) := by
  unfold gX12_spray
  refine Ok_i (fun g_1 => ?_) (fun _ => ?_)
  · exact Ok_s ⟨Ag.rf, Ag.rf⟩
  · exact Ok_m (aX12_spray_l14  _ _ _ _ _) (fun _ ⟨h0, h1⟩ => ⟨(Ag.tr Ag.rf (Ag.mo rfl h0)), (Ag.tr Ag.rf (Ag.mo rfl h1))⟩)
def WX12_layWide_l3 : List (Nat × Nat) := [(201, 202)]
theorem aX12_layWide_l3 {σ : Shp} {R : Nat → Nat → Option Nat} : ∀ (n : Nat) (I : Nat → Nat → Int32) (x1 : Int32) (x2 : Int32) (x3 : Int64) (x5 : Int32), Ok (gX12_layWide_l3 σ R n I x1 x2 x3 x5) (fun r => Ag WX12_layWide_l3 I r) := by
  intro n
  induction n with
  | zero => intro I x1 x2 x3 x5; exact Ok_e rfl
  | succ n ih =>
    intro I x1 x2 x3 x5
    rw [gX12_layWide_l3]
    refine Ok_i (fun g_1 => ?_) (fun _ => ?_)
    · exact Ok_s Ag.rf
    · refine Ok_g (fun g_2 => ?_)
      have m_3 := Ag.st (k := (Int32.toNatClampNeg (x1 + x5))) (v := (Int64.toInt32 ((x3 >>> (Int32.toInt64 ((8 : Int32) * ((x2 - (1 : Int32)) - x5)) &&& 63)) &&& (255 : Int64)))) Ag.rf (show inW WX12_layWide_l3 201 = true from rfl)
      exact Ok_m (ih _ _ _ _ _) (fun _ hr => (Ag.tr m_3 (Ag.mo rfl hr)))
def WX12_layWide : List (Nat × Nat) := [(201, 202)]
theorem aX12_layWide {σ : Shp} {I : Nat → Nat → Int32} {R : Nat → Nat → Option Nat} {x1 : Int32} {x2 : Int32} {x3 : Int64} : Ok (gX12_layWide σ I R x1 x2 x3) (fun r => Ag WX12_layWide I r) := by
  unfold gX12_layWide
  exact Ok_m (aX12_layWide_l3  _ _ _ _ _ _) (fun _ hr => (Ag.tr Ag.rf (Ag.mo rfl hr)))
def WX12_write_b282 : List (Nat × Nat) := [(114, 115), (200, 201)]
theorem aX12_write_b282 {q219 : (Nat → Nat → Int32) → (Int32) → (Int32) → (Option ((Nat → Nat → Int32) × (Int32)))} {σ : Shp} {J : Nat → Nat → Int64} {R : Nat → Nat → Option Nat} {I : Nat → Nat → Int32} {x3 : Int32} {x4 : Int32} {s0 : Option Nat} {s1 : Int32} {s2 : Int32} (hq219 : ∀ (I : Nat → Nat → Int32) (x3 : Int32) (x4 : Int32), Ok (q219 I x3 x4) (fun r => Ag WX12_write_l219 I r.1)) (hs_s0 : Cin [(114, 115)] s0) : Ok (gX12_write_b282 q219 σ J R I x3 x4 s0 s1 s2) (fun r => Ag WX12_write_b282 I r.1) := by
  unfold gX12_write_b282
  refine Ok_bc (fun a27 e_1 => ?_)
  refine Ok_g (fun g_2 => ?_)
  have m_3 := Ag.st (k := 132) (v := (s1 - s2)) Ag.rf (inW_mo (L := [(114, 115)]) (M := WX12_write_b282) rfl (Cin.get hs_s0 e_1))
  refine Ok_g (fun g_4 => ?_)
  refine Ok_g (fun g_5 => ?_)
  have m_6 := Ag.st (k := (Int32.toNatClampNeg (x3 + x4))) (v := (I29 201 (Int32.toNatClampNeg x4))) m_3 (show inW WX12_write_b282 200 = true from rfl)
  exact Ok_m (hq219 _ _ _) (fun _ hr => (Ag.tr m_6 (Ag.mo rfl hr)))
def WX12_write_l219 : List (Nat × Nat) := [(114, 115), (200, 201)]
theorem aX12_write_l219 {σ : Shp} {J : Nat → Nat → Int64} {R : Nat → Nat → Option Nat} : ∀ (n : Nat) (I : Nat → Nat → Int32) (x3 : Int32) (x4 : Int32), Ok (gX12_write_l219 σ J R n I x3 x4) (fun r => Ag WX12_write_l219 I r.1) := by
  intro n
  induction n with
  | zero => intro I x3 x4; exact Ok_e rfl
  | succ n ih =>
    intro I x3 x4
    rw [gX12_write_l219]
    refine Ok_i (fun g_1 => ?_) (fun _ => ?_)
    · have m_2 := Ag.st (k := 130) (v := ((I 114 130) + (1 : Int32))) Ag.rf (show inW WX12_write_l219 114 = true from rfl)
      have m_3 := Ag.st (k := 129) (v := ((I25 114 129) + (1 : Int32))) m_2 (show inW WX12_write_l219 114 = true from rfl)
      exact Ok_s m_3
    · refine Ok_i (fun g_4 => ?_) (fun _ => ?_)
      · have m_5 := Ag.st (k := 131) (v := (1 : Int32)) Ag.rf (show inW WX12_write_l219 114 = true from rfl)
        have m_6 := Ag.st (k := 132) (v := (-1 : Int32)) m_5 (show inW WX12_write_l219 114 = true from rfl)
        refine Ok_i (fun g_7 => ?_) (fun _ => ?_)
        · have m_8 := Ag.st (k := 130) (v := ((I35 114 130) + (0 : Int32))) m_6 (show inW WX12_write_l219 114 = true from rfl)
          exact Ok_s m_8
        · have m_9 := Ag.st (k := 130) (v := ((I35 114 130) + (1 : Int32))) m_6 (show inW WX12_write_l219 114 = true from rfl)
          exact Ok_s m_9
      · refine Ok_i (fun g_10 => ?_) (fun _ => ?_)
        · exact Ok_m (aX12_write_b282 ih ⟨_, rfl, (show inW [(114, 115)] 114 = true from rfl)⟩) (fun _ hr => (Ag.tr Ag.rf (Ag.mo rfl hr)))
        · exact Ok_m (aX12_write_b282 ih ⟨_, rfl, (show inW [(114, 115)] 114 = true from rfl)⟩) (fun _ hr => (Ag.tr Ag.rf (Ag.mo rfl hr)))
def WX12_write_l150 : List (Nat × Nat) := [(114, 115), (200, 201), (201, 202)]
theorem aX12_write_l150 {σ : Shp} {J : Nat → Nat → Int64} {R : Nat → Nat → Option Nat} : ∀ (n : Nat) (I : Nat → Nat → Int32) (x2 : Int32) (x3 : Int32), Ok (gX12_write_l150 σ J R n I x2 x3) (fun r => Ag WX12_write_l150 I r.1) := by
  intro n
  induction n with
  | zero => intro I x2 x3; exact Ok_e rfl
  | succ n ih =>
    intro I x2 x3
    rw [gX12_write_l150]
    refine Ok_g (fun g_1 => ?_)
    refine Ok_i (fun g_2 => ?_) (fun _ => ?_)
    · refine Ok_t ?_
      intro r20
      refine Ok_b (aX12_layWide) ?_
      intro I22 hr
      have h_3 := hr
      have m_4 : Ag WX12_write_l150 I I22 := Ag.tr Ag.rf (Ag.mo rfl h_3)
      exact Ok_m (aX12_write_l219  _ _ _ _) (fun _ hr => (Ag.tr m_4 (Ag.mo rfl hr)))
    · refine Ok_g (fun g_5 => ?_)
      refine Ok_g (fun g_6 => ?_)
      refine Ok_b (aX12_layWide) ?_
      intro I40 hr
      have h_7 := hr
      have m_8 : Ag WX12_write_l150 I I40 := Ag.tr Ag.rf (Ag.mo rfl h_7)
      exact Ok_m (ih _ _ _) (fun _ hr => (Ag.tr m_8 (Ag.mo rfl hr)))
def WX12_write_l92 : List (Nat × Nat) := [(114, 115), (200, 201), (201, 202)]
theorem aX12_write_l92 {σ : Shp} {J : Nat → Nat → Int64} {R : Nat → Nat → Option Nat} : ∀ (n : Nat) (I : Nat → Nat → Int32) (x2 : Int32) (x3 : Int32), Ok (gX12_write_l92 σ J R n I x2 x3) (fun r => Ag WX12_write_l92 I r.1) := by
  intro n
  induction n with
  | zero => intro I x2 x3; exact Ok_e rfl
  | succ n ih =>
    intro I x2 x3
    rw [gX12_write_l92]
    refine Ok_i (fun g_1 => ?_) (fun _ => ?_)
    · refine Ok_b (aX12_layWide) ?_
      intro I11 hr
      have h_2 := hr
      have m_3 : Ag WX12_write_l92 I I11 := Ag.tr Ag.rf (Ag.mo rfl h_2)
      refine Ok_g (fun g_4 => ?_)
      refine Ok_g (fun g_5 => ?_)
      have m_6 := Ag.st (k := (Int32.toNatClampNeg (4 : Int32))) (v := (I11 116 (Int32.toNatClampNeg x2))) m_3 (show inW WX12_write_l92 201 = true from rfl)
      refine Ok_g (fun g_7 => ?_)
      refine Ok_g (fun g_8 => ?_)
      have m_9 := Ag.st (k := (Int32.toNatClampNeg (5 : Int32))) (v := (I15 117 (Int32.toNatClampNeg x2))) m_6 (show inW WX12_write_l92 201 = true from rfl)
      exact Ok_m (aX12_write_l150  _ _ _ _) (fun _ hr => (Ag.tr m_9 (Ag.mo rfl hr)))
    · refine Ok_g (fun g_10 => ?_)
      have m_11 := Ag.st (k := (Int32.toNatClampNeg x3)) (v := (0 : Int32)) Ag.rf (show inW WX12_write_l92 201 = true from rfl)
      exact Ok_m (ih _ _ _) (fun _ hr => (Ag.tr m_11 (Ag.mo rfl hr)))
def WX12_write : List (Nat × Nat) := [(114, 115), (200, 201), (201, 202)]
theorem aX12_write {σ : Shp} {I : Nat → Nat → Int32} {J : Nat → Nat → Int64} {R : Nat → Nat → Option Nat} {x1 : Int32} : Ok (gX12_write σ I J R x1) (fun r => Ag WX12_write I r.1) := by
  unfold gX12_write
  refine Ok_i (fun g_1 => ?_) (fun _ => ?_)
  · exact Ok_s Ag.rf
  · refine Ok_g (fun g_2 => ?_)
    refine Ok_i (fun g_3 => ?_) (fun _ => ?_)
    · refine Ok_i (fun g_4 => ?_) (fun _ => ?_)
      · refine Ok_b (aX12_no) ?_
        intro rr hr
        obtain ⟨I6, r7⟩ := rr
        have h_5 := hr
        have m_6 : Ag WX12_write I I6 := Ag.tr Ag.rf (Ag.mo rfl h_5)
        exact Ok_s m_6
      · refine Ok_b (aX12_no) ?_
        intro rr hr
        obtain ⟨I3, r4⟩ := rr
        have h_7 := hr
        have m_8 : Ag WX12_write I I3 := Ag.tr Ag.rf (Ag.mo rfl h_7)
        exact Ok_s m_8
    · refine Ok_g (fun g_9 => ?_)
      refine Ok_i (fun g_10 => ?_) (fun _ => ?_)
      · refine Ok_i (fun g_11 => ?_) (fun _ => ?_)
        · refine Ok_b (aX12_no) ?_
          intro rr hr
          obtain ⟨I49, r50⟩ := rr
          have h_12 := hr
          have m_13 : Ag WX12_write I I49 := Ag.tr Ag.rf (Ag.mo rfl h_12)
          exact Ok_s m_13
        · refine Ok_b (aX12_no) ?_
          intro rr hr
          obtain ⟨I46, r47⟩ := rr
          have h_14 := hr
          have m_15 : Ag WX12_write I I46 := Ag.tr Ag.rf (Ag.mo rfl h_14)
          exact Ok_s m_15
      · refine Ok_i (fun g_16 => ?_) (fun _ => ?_)
        · refine Ok_g (fun g_17 => ?_)
          refine Ok_i (fun g_18 => ?_) (fun _ => ?_)
          · exact Ok_s Ag.rf
          · refine Ok_i (fun g_19 => ?_) (fun _ => ?_)
            · exact Ok_s Ag.rf
            · refine Ok_i (fun g_20 => ?_) (fun _ => ?_)
              · exact Ok_s Ag.rf
              · exact Ok_m (aX12_write_l92  _ _ _ _) (fun _ hr => (Ag.tr Ag.rf (Ag.mo rfl hr)))
        · exact Ok_s Ag.rf
def WX12_power : List (Nat × Nat) := [(114, 115)]
theorem aX12_power {I : Nat → Nat → Int32} {x1 : Int32} : Ok (gX12_power I x1) (fun r => Ag WX12_power I r.1) := by
  unfold gX12_power
  refine Ok_i (fun g_1 => ?_) (fun _ => ?_)
  · exact Ok_s Ag.rf
  · refine Ok_i (fun g_2 => ?_) (fun _ => ?_)
    · have m_3 := Ag.st (k := 132) (v := x1) Ag.rf (show inW WX12_power 114 = true from rfl)
      exact Ok_s m_3
    · exact Ok_s Ag.rf
def WX12_open1_b83 : List (Nat × Nat) := [(114, 115)]
theorem aX12_open1_b83 {q22 : (Nat → Nat → Int32) → (Int32) → (Option ((Nat → Nat → Int32) × (Int32)))} {σ : Shp} {R : Nat → Nat → Option Nat} {I : Nat → Nat → Int32} {x1 : Int32} {s0 : Option Nat} {s1 : Int32} (hq22 : ∀ (I : Nat → Nat → Int32) (x1 : Int32), Ok (q22 I x1) (fun r => Ag WX12_open1_l22 I r.1)) (hs_s0 : Cin [(114, 115)] s0) : Ok (gX12_open1_b83 q22 σ R I x1 s0 s1) (fun r => Ag WX12_open1_b83 I r.1) := by
  unfold gX12_open1_b83
  refine Ok_bc (fun a7 e_1 => ?_)
  refine Ok_g (fun g_2 => ?_)
  have m_3 := Ag.st (k := 130) (v := s1) Ag.rf (inW_mo (L := [(114, 115)]) (M := WX12_open1_b83) rfl (Cin.get hs_s0 e_1))
  refine Ok_t ?_
  intro r10
  refine Ok_i (fun g_4 => ?_) (fun _ => ?_)
  · have m_5 := Ag.st (k := 129) (v := (I9 114 129)) m_3 (show inW WX12_open1_b83 114 = true from rfl)
    exact Ok_m (hq22 _ _) (fun _ hr => (Ag.tr m_5 (Ag.mo rfl hr)))
  · refine Ok_t ?_
    intro r14
    refine Ok_i (fun g_6 => ?_) (fun _ => ?_)
    · have m_7 := Ag.st (k := 129) (v := (I9 114 129)) m_3 (show inW WX12_open1_b83 114 = true from rfl)
      exact Ok_m (hq22 _ _) (fun _ hr => (Ag.tr m_7 (Ag.mo rfl hr)))
    · refine Ok_t ?_
      intro r18
      have m_8 := Ag.st (k := 129) (v := r18) m_3 (show inW WX12_open1_b83 114 = true from rfl)
      exact Ok_m (hq22 _ _) (fun _ hr => (Ag.tr m_8 (Ag.mo rfl hr)))
