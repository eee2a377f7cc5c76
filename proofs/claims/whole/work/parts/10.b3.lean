def WX12_open1_l32 : List (Nat × Nat) := [(114, 115)]
theorem aX12_open1_l32 {q22 : (Nat → Nat → Int32) → (Int32) → (Option ((Nat → Nat → Int32) × (Int32)))} {σ : Shp} {R : Nat → Nat → Option Nat} (hq22 : ∀ (I : Nat → Nat → Int32) (x1 : Int32), Ok (q22 I x1) (fun r => Ag WX12_open1_l22 I r.1)) : ∀ (n : Nat) (I : Nat → Nat → Int32) (x1 : Int32) (x2 : Int32) (x3 : Int32), Ok (gX12_open1_l32 q22 σ R n I x1 x2 x3) (fun r => Ag WX12_open1_l32 I r.1) := by
  intro n
  induction n with
  | zero => intro I x1 x2 x3; exact Ok_e rfl
  | succ n ih =>
    intro I x1 x2 x3
    rw [gX12_open1_l32]
    refine Ok_i (fun g_1 => ?_) (fun _ => ?_)
    · refine Ok_i (fun g_2 => ?_) (fun _ => ?_)
      · exact Ok_m (aX12_open1_b83 hq22 ⟨_, rfl, (show inW [(114, 115)] 114 = true from rfl)⟩) (fun _ hr => (Ag.tr Ag.rf (Ag.mo rfl hr)))
      · exact Ok_m (aX12_open1_b83 hq22 ⟨_, rfl, (show inW [(114, 115)] 114 = true from rfl)⟩) (fun _ hr => (Ag.tr Ag.rf (Ag.mo rfl hr)))
    · refine Ok_i (fun g_3 => ?_) (fun _ => ?_)
      · refine Ok_g (fun g_4 => ?_)
        refine Ok_i (fun g_5 => ?_) (fun _ => ?_)
        · exact Ok_m (ih _ _ _ _) (fun _ hr => (Ag.tr Ag.rf (Ag.mo rfl hr)))
        · exact Ok_m (ih _ _ _ _) (fun _ hr => (Ag.tr Ag.rf (Ag.mo rfl hr)))
      · exact Ok_m (ih _ _ _ _) (fun _ hr => (Ag.tr Ag.rf (Ag.mo rfl hr)))
def WX12_open1_l22 : List (Nat × Nat) := [(114, 115)]
theorem aX12_open1_l22 {σ : Shp} {R : Nat → Nat → Option Nat} : ∀ (n : Nat) (I : Nat → Nat → Int32) (x1 : Int32), Ok (gX12_open1_l22 σ R n I x1) (fun r => Ag WX12_open1_l22 I r.1) := by
  intro n
  induction n with
  | zero => intro I x1; exact Ok_e rfl
  | succ n ih =>
    intro I x1
    rw [gX12_open1_l22]
    refine Ok_i (fun g_1 => ?_) (fun _ => ?_)
    · refine Ok_t ?_
      intro r5
      exact Ok_s Ag.rf
    · exact Ok_m (aX12_open1_l32 ih _ _ _ _ _) (fun _ hr => (Ag.tr Ag.rf (Ag.mo rfl hr)))
def WX12_open1 : List (Nat × Nat) := [(114, 115)]
theorem aX12_open1 {σ : Shp} {I : Nat → Nat → Int32} {R : Nat → Nat → Option Nat} : Ok (gX12_open1 σ I R) (fun r => Ag WX12_open1 I r.1) := by
  unfold gX12_open1
  have m_1 := Ag.st (k := 131) (v := (0 : Int32)) Ag.rf (show inW WX12_open1 114 = true from rfl)
  have m_2 := Ag.st (k := 132) (v := (-1 : Int32)) m_1 (show inW WX12_open1 114 = true from rfl)
  have m_3 := Ag.st (k := 129) (v := (0 : Int32)) m_2 (show inW WX12_open1 114 = true from rfl)
  have m_4 := Ag.st (k := 130) (v := (0 : Int32)) m_3 (show inW WX12_open1 114 = true from rfl)
  exact Ok_m (aX12_open1_l22  _ _ _) (fun _ hr => (Ag.tr m_4 (Ag.mo rfl hr)))
def WX12_damage : List (Nat × Nat) := [(200, 201)]
theorem aX12_damage {I : Nat → Nat → Int32} {x1 : Int32} {x2 : Int32} {x3 : Int32} : Ok (gX12_damage I x1 x2 x3) (fun r => Ag WX12_damage I r.1) := by
  unfold gX12_damage
  refine Ok_i (fun g_1 => ?_) (fun _ => ?_)
  · exact Ok_s Ag.rf
  · refine Ok_i (fun g_2 => ?_) (fun _ => ?_)
    · exact Ok_s Ag.rf
    · refine Ok_i (fun g_3 => ?_) (fun _ => ?_)
      · exact Ok_s Ag.rf
      · refine Ok_g (fun g_4 => ?_)
        have m_5 := Ag.st (k := (Int32.toNatClampNeg (((64 : Int32) * x1) + x2))) (v := ((I 200 (Int32.toNatClampNeg (((64 : Int32) * x1) + x2))) ^^^ x3)) Ag.rf (show inW WX12_damage 200 = true from rfl)
        exact Ok_s m_5
