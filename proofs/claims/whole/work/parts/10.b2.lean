theorem aX12_setStock {J : Nat → Nat → Int64} {x1 : Int32} {x2 : Int64} : Ok (gX12_setStock J x1 x2) (fun r => Ag FwX12_setStock J r.1) := by
  unfold gX12_setStock
  refine Ok_i (fun g_1 => ?_) (fun _ => ?_)
  · exact Ok_s (Ag.rf (f := J))
  · refine Ok_g (fun g_2 => ?_)
    exact Ok_s (Ag.st (Ag.rf (f := J)) (keyo (L := [(139, 140)]) (M := FwX12_setStock) rfl rfl (show inW [(139, 140)] 139 = true from rfl)))
theorem aX12_line_b67 {σ : Shp} {R : Nat → Nat → Option Nat} {I : Nat → Nat → Int32} {x1 : Int32} {x2 : Int32} {x3 : Int32} : Ok (gX12_line_b67 σ R I x1 x2 x3) (fun r => Ag FwX12_line_b67 I r.1) := by
  unfold gX12_line_b67
  refine Ok_g (fun g_1 => ?_)
  refine Ok_i (fun g_2 => ?_) (fun _ => ?_)
  · exact Ok_s (Ag.rf (f := I))
  · refine Ok_g (fun g_3 => ?_)
    refine Ok_g (fun g_5 => ?_)
    exact Ok_s (Ag.st (Ag.st (Ag.st (Ag.rf (f := I)) (keyo (L := [(157, 158)]) (M := FwX12_line_b67) rfl rfl (show inW [(157, 158)] 157 = true from rfl))) (keyo (L := [(158, 159)]) (M := FwX12_line_b67) rfl rfl (show inW [(158, 159)] 158 = true from rfl))) (keyo (L := [(156, 157)]) (M := FwX12_line_b67) rfl rfl (show inW [(156, 157)] 156 = true from rfl)))
theorem aX12_line {σ : Shp} {I : Nat → Nat → Int32} {R : Nat → Nat → Option Nat} {x1 : Int32} {x2 : Int32} {x3 : Int32} : Ok (gX12_line σ I R x1 x2 x3) (fun r => Ag FwX12_line I r.1) := by
  unfold gX12_line
  refine Ok_i (fun g_1 => ?_) (fun _ => ?_)
  · exact Ok_s (Ag.rf (f := I))
  · refine Ok_i (fun g_2 => ?_) (fun _ => ?_)
    · exact Ok_s (Ag.rf (f := I))
    · refine Ok_i (fun g_3 => ?_) (fun _ => ?_)
      · exact Ok_s (Ag.rf (f := I))
      · refine Ok_g (fun g_4 => ?_)
        refine Ok_i (fun g_5 => ?_) (fun _ => ?_)
        · exact Ok_m (aX12_line_b67) (fun _ hr => (Ag.tr (Ag.rf (f := I)) (Ag.mo rfl hr)))
        · refine Ok_g (fun g_6 => ?_)
          refine Ok_i (fun g_7 => ?_) (fun _ => ?_)
          · exact Ok_m (aX12_line_b67) (fun _ hr => (Ag.tr (Ag.rf (f := I)) (Ag.mo rfl hr)))
          · exact Ok_s (Ag.rf (f := I))
theorem aX12_rest {I : Nat → Nat → Int32} {x1 : Int32} {x2 : Int32} : Ok (gX12_rest I x1 x2) (fun r => Ag FwX12_rest I r.1) := by
  unfold gX12_rest
  refine Ok_i (fun g_1 => ?_) (fun _ => ?_)
  · exact Ok_s (Ag.rf (f := I))
  · refine Ok_i (fun g_2 => ?_) (fun _ => ?_)
    · refine Ok_g (fun g_3 => ?_)
      refine Ok_i (fun g_4 => ?_) (fun _ => ?_)
      · refine Ok_g (fun g_5 => ?_)
        exact Ok_s (Ag.st (Ag.rf (f := I)) (keyo (L := [(159, 160)]) (M := FwX12_rest) rfl rfl (show inW [(159, 160)] 159 = true from rfl)))
      · exact Ok_s (Ag.rf (f := I))
    · refine Ok_i (fun g_7 => ?_) (fun _ => ?_)
      · exact Ok_s (Ag.rf (f := I))
      · refine Ok_g (fun g_8 => ?_)
        refine Ok_i (fun g_9 => ?_) (fun _ => ?_)
        · refine Ok_g (fun g_10 => ?_)
          exact Ok_s (Ag.st (Ag.rf (f := I)) (keyo (L := [(159, 160)]) (M := FwX12_rest) rfl rfl (show inW [(159, 160)] 159 = true from rfl)))
        · exact Ok_s (Ag.rf (f := I))
theorem aX12_lay_b108 {q45 : (Nat → Nat → Int32) → (Int32) → (Option ((Nat → Nat → Int32)))} {σ : Shp} {R : Nat → Nat → Option Nat} {I : Nat → Nat → Int32} {x2 : Int32} {x4 : Int32} {s0 : Option Nat} {s1 : Int32} {s2 : Int32} (hq45 : ∀ (I : Nat → Nat → Int32) (x2 : Int32), Ok (q45 I x2) (fun r => Ag FwX12_lay_l45 I r)) (hs_s0 : Cin [(162, 163)] s0) : Ok (gX12_lay_b108 q45 σ R I x2 x4 s0 s1 s2) (fun r => Ag FwX12_lay_b108 I r) := by
  unfold gX12_lay_b108
  refine Ok_bc (fun a7 e_1 => ?_)
  refine Ok_g (fun g_2 => ?_)
  refine Ok_g (fun g_3 => ?_)
  refine Ok_g (fun g_5 => ?_)
  refine Ok_g (fun g_7 => ?_)
  exact Ok_m (hq45 _ _) (fun _ hr => (Ag.tr (Ag.st (Ag.st (Ag.st (Ag.st (Ag.rf (f := I)) (keyo (L := [(162, 163)]) (M := FwX12_lay_b108) rfl rfl (inW_mo (L := [(162, 163)]) (M := [(162, 163)]) rfl (Cin.get hs_s0 e_1)))) (keyo (L := [(161, 162)]) (M := FwX12_lay_b108) rfl rfl (show inW [(161, 162)] 161 = true from rfl))) (keyo (L := [(163, 164)]) (M := FwX12_lay_b108) rfl rfl (show inW [(163, 164)] 163 = true from rfl))) (show inW FwX12_lay_b108 (key 114 83) = true from rfl)) (Ag.mo rfl hr)))
theorem aX12_lay_l45 {σ : Shp} {R : Nat → Nat → Option Nat} : ∀ (n : Nat) (I : Nat → Nat → Int32) (x2 : Int32), Ok (gX12_lay_l45 σ R n I x2) (fun r => Ag FwX12_lay_l45 I r) := by
  intro n
  induction n with
  | zero => intro I x2; exact Ok_e rfl
  | succ n ih =>
    intro I x2
    rw [gX12_lay_l45]
    refine Ok_i (fun g_1 => ?_) (fun _ => ?_)
    · exact Ok_s (Ag.rf (f := I))
    · refine Ok_g (fun g_2 => ?_)
      refine Ok_g (fun g_3 => ?_)
      refine Ok_i (fun g_4 => ?_) (fun _ => ?_)
      · exact Ok_m (aX12_lay_b108 ih ⟨_, rfl, (show inW [(162, 163)] 162 = true from rfl)⟩) (fun _ hr => (Ag.tr (Ag.rf (f := I)) (Ag.mo rfl hr)))
      · refine Ok_g (fun g_5 => ?_)
        refine Ok_i (fun g_6 => ?_) (fun _ => ?_)
        · exact Ok_m (aX12_lay_b108 ih ⟨_, rfl, (show inW [(162, 163)] 162 = true from rfl)⟩) (fun _ hr => (Ag.tr (Ag.rf (f := I)) (Ag.mo rfl hr)))
        · refine Ok_g (fun g_7 => ?_)
          exact Ok_m (aX12_lay_b108 ih ⟨_, rfl, (show inW [(162, 163)] 162 = true from rfl)⟩) (fun _ hr => (Ag.tr (Ag.rf (f := I)) (Ag.mo rfl hr)))
theorem aX12_lay_l4 {σ : Shp} {R : Nat → Nat → Option Nat} : ∀ (n : Nat) (I : Nat → Nat → Int32) (x2 : Int32) (x3 : Int32), Ok (gX12_lay_l4 σ R n I x2 x3) (fun r => Ag FwX12_lay_l4 I r) := by
  intro n
  induction n with
  | zero => intro I x2 x3; exact Ok_e rfl
  | succ n ih =>
    intro I x2 x3
    rw [gX12_lay_l4]
    refine Ok_i (fun g_1 => ?_) (fun _ => ?_)
    · exact Ok_m (aX12_lay_l45  _ _ _) (fun _ hr => (Ag.tr (Ag.rf (f := I)) (Ag.mo rfl hr)))
    · refine Ok_g (fun g_2 => ?_)
      refine Ok_i (fun g_3 => ?_) (fun _ => ?_)
      · refine Ok_g (fun g_5 => ?_)
        refine Ok_g (fun g_7 => ?_)
        exact Ok_m (ih _ _ _) (fun _ hr => (Ag.tr (Ag.st (Ag.st (Ag.rf (f := I)) (keyo (L := [(160, 161)]) (M := FwX12_lay_l4) rfl rfl (show inW [(160, 161)] 160 = true from rfl))) (keyo (L := [(164, 165)]) (M := FwX12_lay_l4) rfl rfl (show inW [(164, 165)] 164 = true from rfl))) (Ag.mo rfl hr)))
      · exact Ok_m (aX12_lay_l45  _ _ _) (fun _ hr => (Ag.tr (Ag.rf (f := I)) (Ag.mo rfl hr)))
theorem aX12_lay {σ : Shp} {I : Nat → Nat → Int32} {R : Nat → Nat → Option Nat} {x1 : Int32} : Ok (gX12_lay σ I R x1) (fun r => Ag FwX12_lay I r) := by
  unfold gX12_lay
  exact Ok_m (aX12_lay_l4  _ _ _ _) (fun _ hr => (Ag.tr (Ag.rf (f := I)) (Ag.mo rfl hr)))
theorem aX12_valueOf_b87 {σ : Shp} {R : Nat → Nat → Option Nat} {I : Nat → Nat → Int32} {x1 : Int32} {x2 : Int32} {x3 : Int32} {x4 : Int32} : Ok (gX12_valueOf_b87 σ R I x1 x2 x3 x4) (fun r => Ag FwX12_valueOf_b87 I r.1) := by
  unfold gX12_valueOf_b87
  refine Ok_i (fun g_1 => ?_) (fun _ => ?_)
  · refine Ok_g (fun g_2 => ?_)
    refine Ok_g (fun g_3 => ?_)
    exact Ok_s (Ag.rf (f := I))
  · refine Ok_g (fun g_4 => ?_)
    refine Ok_g (fun g_5 => ?_)
    refine Ok_g (fun g_6 => ?_)
    refine Ok_g (fun g_7 => ?_)
    refine Ok_bc (fun r11 e_8 => ?_)
    refine Ok_g (fun g_9 => ?_)
    exact Ok_s (Ag.rf (f := I))
theorem aX12_valueOf_l55 {σ : Shp} {R : Nat → Nat → Option Nat} : ∀ (n : Nat) (I : Nat → Nat → Int32) (x1 : Int32) (x2 : Int32) (x3 : Int32) (x4 : Int32), Ok (gX12_valueOf_l55 σ R n I x1 x2 x3 x4) (fun r => Ag FwX12_valueOf_l55 I r.1) := by
  intro n
  induction n with
  | zero => intro I x1 x2 x3 x4; exact Ok_e rfl
  | succ n ih =>
    intro I x1 x2 x3 x4
    rw [gX12_valueOf_l55]
    refine Ok_i (fun g_1 => ?_) (fun _ => ?_)
    · exact Ok_m (aX12_valueOf_b87) (fun _ hr => (Ag.tr (Ag.rf (f := I)) (Ag.mo rfl hr)))
    · refine Ok_g (fun g_2 => ?_)
      refine Ok_i (fun g_3 => ?_) (fun _ => ?_)
      · exact Ok_m (aX12_valueOf_b87) (fun _ hr => (Ag.tr (Ag.rf (f := I)) (Ag.mo rfl hr)))
      · exact Ok_m (ih _ _ _ _ _) (fun _ hr => (Ag.tr (Ag.rf (f := I)) (Ag.mo rfl hr)))
theorem aX12_valueOf {σ : Shp} {I : Nat → Nat → Int32} {R : Nat → Nat → Option Nat} {x1 : Int32} {x2 : Int32} : Ok (gX12_valueOf σ I R x1 x2) (fun r => Ag FwX12_valueOf I r.1) := by
  unfold gX12_valueOf
  refine Ok_b (aX12_lay) ?_
  intro I1 hr
  have h_1 := hr
  have m_2 : Ag FwX12_valueOf I I1 := Ag.tr (Ag.rf (f := I)) (Ag.mo rfl h_1)
  refine Ok_g (fun g_3 => ?_)
  refine Ok_i (fun g_4 => ?_) (fun _ => ?_)
  · refine Ok_g (fun g_5 => ?_)
    exact Ok_s m_2
  · refine Ok_g (fun g_6 => ?_)
    refine Ok_i (fun g_7 => ?_) (fun _ => ?_)
    · exact Ok_m (aX12_valueOf_l55  _ _ _ _ _ _) (fun _ hr => (Ag.tr m_2 (Ag.mo rfl hr)))
    · refine Ok_g (fun g_8 => ?_)
      refine Ok_g (fun g_9 => ?_)
      exact Ok_s m_2
theorem aX12_value {σ : Shp} {I : Nat → Nat → Int32} {R : Nat → Nat → Option Nat} {x1 : Int32} {x2 : Int32} : Ok (gX12_value σ I R x1 x2) (fun r => Ag FwX12_value I r.1) := by
  unfold gX12_value
  refine Ok_i (fun g_1 => ?_) (fun _ => ?_)
  · exact Ok_s (Ag.rf (f := I))
  · refine Ok_b (aX12_valueOf) ?_
    intro rr hr
    obtain ⟨I1, r2⟩ := rr
    have h_2 := hr
    have m_3 : Ag FwX12_value I I1 := Ag.tr (Ag.rf (f := I)) (Ag.mo rfl h_2)
    exact Ok_s m_3
theorem aX12_read {J : Nat → Nat → Int64} {x1 : Int32} {x2 : Int64} : Ok (gX12_read J x1 x2) (fun r => Ag FwX12_read J r.1) := by
  unfold gX12_read
  refine Ok_i (fun g_1 => ?_) (fun _ => ?_)
  · exact Ok_s (Ag.rf (f := J))
  · refine Ok_g (fun g_2 => ?_)
    exact Ok_s (Ag.st (Ag.rf (f := J)) (keyo (L := [(165, 166)]) (M := FwX12_read) rfl rfl (show inW [(165, 166)] 165 = true from rfl)))
theorem aX12_part {D : Nat → Nat → UInt64} {x1 : Int64} : Ok (gX12_part D x1) (fun r => Ag FwX12_part D r.1) := by
  unfold gX12_part
  refine Ok_i (fun g_1 => ?_) (fun _ => ?_)
  · exact Ok_s (Ag.rf (f := D))
  · refine Ok_bc (fun r2 e_2 => ?_)
    refine Ok_i (fun g_3 => ?_) (fun _ => ?_)
    · refine Ok_bc (fun r4 e_4 => ?_)
      exact Ok_s (Ag.st (Ag.rf (f := D)) (show inW FwX12_part (key 114 94) = true from rfl))
    · exact Ok_s (Ag.rf (f := D))
theorem aX12_find_b122 {q52 : (Nat → Nat → Int64) → (Int32) → (Int32) → (Int32) → (Option ((Nat → Nat → Int64)))} {q68 : (Nat → Nat → Int64) → (Int32) → (Int32) → (Int32) → (Int32) → (Int32) → (Option ((Nat → Nat → Int64)))} {σ : Shp} {I : Nat → Nat → Int32} {R : Nat → Nat → Option Nat} {J : Nat → Nat → Int64} {x1 : Int32} {x2 : Int32} {x3 : Int32} {x4 : Int32} {x5 : Int32} {s0 : Int32} (hq52 : ∀ (J : Nat → Nat → Int64) (x1 : Int32) (x2 : Int32) (x3 : Int32), Ok (q52 J x1 x2 x3) (fun r => Ag FwX12_find_l52 J r)) (hq68 : ∀ (J : Nat → Nat → Int64) (x1 : Int32) (x2 : Int32) (x3 : Int32) (x4 : Int32) (x5 : Int32), Ok (q68 J x1 x2 x3 x4 x5) (fun r => Ag FwX12_find_l68 J r)) : Ok (gX12_find_b122 q52 q68 σ I R J x1 x2 x3 x4 x5 s0) (fun r => Ag FwX12_find_b122 J r) := by
  unfold gX12_find_b122
  refine Ok_t ?_
  intro r15
  refine Ok_i (fun g_1 => ?_) (fun _ => ?_)
  · exact Ok_m (hq68 _ _ _ _ _ _) (fun _ hr => (Ag.tr (Ag.rf (f := J)) (Ag.mo rfl hr)))
  · refine Ok_g (fun g_2 => ?_)
    refine Ok_i (fun g_3 => ?_) (fun _ => ?_)
    · refine Ok_i (fun g_4 => ?_) (fun _ => ?_)
      · exact Ok_m (hq68 _ _ _ _ _ _) (fun _ hr => (Ag.tr (Ag.rf (f := J)) (Ag.mo rfl hr)))
      · exact Ok_m (hq68 _ _ _ _ _ _) (fun _ hr => (Ag.tr (Ag.rf (f := J)) (Ag.mo rfl hr)))
    · exact Ok_m (hq68 _ _ _ _ _ _) (fun _ hr => (Ag.tr (Ag.rf (f := J)) (Ag.mo rfl hr)))
theorem aX12_find_l68 {q52 : (Nat → Nat → Int64) → (Int32) → (Int32) → (Int32) → (Option ((Nat → Nat → Int64)))} {σ : Shp} {I : Nat → Nat → Int32} {R : Nat → Nat → Option Nat} (hq52 : ∀ (J : Nat → Nat → Int64) (x1 : Int32) (x2 : Int32) (x3 : Int32), Ok (q52 J x1 x2 x3) (fun r => Ag FwX12_find_l52 J r)) : ∀ (n : Nat) (J : Nat → Nat → Int64) (x1 : Int32) (x2 : Int32) (x3 : Int32) (x4 : Int32) (x5 : Int32), Ok (gX12_find_l68 q52 σ I R n J x1 x2 x3 x4 x5) (fun r => Ag FwX12_find_l68 J r) := by
  intro n
  induction n with
  | zero => intro J x1 x2 x3 x4 x5; exact Ok_e rfl
  | succ n ih =>
    intro J x1 x2 x3 x4 x5
    rw [gX12_find_l68]
    refine Ok_i (fun g_1 => ?_) (fun _ => ?_)
    · refine Ok_t ?_
      intro r3
      refine Ok_i (fun g_2 => ?_) (fun _ => ?_)
      · exact Ok_m (hq52 _ _ _ _) (fun _ hr => (Ag.tr (Ag.rf (f := J)) (Ag.mo rfl hr)))
      · refine Ok_g (fun g_3 => ?_)
        refine Ok_i (fun g_4 => ?_) (fun _ => ?_)
        · refine Ok_i (fun g_5 => ?_) (fun _ => ?_)
          · refine Ok_g (fun g_6 => ?_)
            refine Ok_g (fun g_7 => ?_)
            exact Ok_m (hq52 _ _ _ _) (fun _ hr => (Ag.tr (Ag.st (Ag.rf (f := J)) (keyo (L := [(173, 174)]) (M := FwX12_find_l68) rfl rfl (show inW [(173, 174)] 173 = true from rfl))) (Ag.mo rfl hr)))
          · exact Ok_m (hq52 _ _ _ _) (fun _ hr => (Ag.tr (Ag.rf (f := J)) (Ag.mo rfl hr)))
        · exact Ok_m (hq52 _ _ _ _) (fun _ hr => (Ag.tr (Ag.rf (f := J)) (Ag.mo rfl hr)))
    · refine Ok_g (fun g_9 => ?_)
      refine Ok_g (fun g_10 => ?_)
      refine Ok_i (fun g_11 => ?_) (fun _ => ?_)
      · refine Ok_i (fun g_12 => ?_) (fun _ => ?_)
        · refine Ok_i (fun g_13 => ?_) (fun _ => ?_)
          · exact Ok_m (aX12_find_b122 hq52 ih) (fun _ hr => (Ag.tr (Ag.rf (f := J)) (Ag.mo rfl hr)))
          · exact Ok_m (aX12_find_b122 hq52 ih) (fun _ hr => (Ag.tr (Ag.rf (f := J)) (Ag.mo rfl hr)))
        · exact Ok_m (aX12_find_b122 hq52 ih) (fun _ hr => (Ag.tr (Ag.rf (f := J)) (Ag.mo rfl hr)))
      · exact Ok_m (aX12_find_b122 hq52 ih) (fun _ hr => (Ag.tr (Ag.rf (f := J)) (Ag.mo rfl hr)))
theorem aX12_find_l52 {σ : Shp} {I : Nat → Nat → Int32} {R : Nat → Nat → Option Nat} : ∀ (n : Nat) (J : Nat → Nat → Int64) (x1 : Int32) (x2 : Int32) (x3 : Int32), Ok (gX12_find_l52 σ I R n J x1 x2 x3) (fun r => Ag FwX12_find_l52 J r) := by
  intro n
  induction n with
  | zero => intro J x1 x2 x3; exact Ok_e rfl
  | succ n ih =>
    intro J x1 x2 x3
    rw [gX12_find_l52]
    refine Ok_i (fun g_1 => ?_) (fun _ => ?_)
    · exact Ok_s (Ag.rf (f := J))
    · refine Ok_i (fun g_2 => ?_) (fun _ => ?_)
      · exact Ok_s (Ag.rf (f := J))
      · exact Ok_m (aX12_find_l68 ih _ _ _ _ _ _ _) (fun _ hr => (Ag.tr (Ag.rf (f := J)) (Ag.mo rfl hr)))
theorem aX12_find_l4 {σ : Shp} {I : Nat → Nat → Int32} {R : Nat → Nat → Option Nat} : ∀ (n : Nat) (J : Nat → Nat → Int64) (x1 : Int32) (x2 : Int32) (x3 : Int32), Ok (gX12_find_l4 σ I R n J x1 x2 x3) (fun r => Ag FwX12_find_l4 J r) := by
  intro n
  induction n with
  | zero => intro J x1 x2 x3; exact Ok_e rfl
  | succ n ih =>
    intro J x1 x2 x3
    rw [gX12_find_l4]
    refine Ok_i (fun g_1 => ?_) (fun _ => ?_)
    · refine Ok_g (fun g_2 => ?_)
      exact Ok_m (aX12_find_l52  _ _ _ _ _) (fun _ hr => (Ag.tr (Ag.st (Ag.rf (f := J)) (keyo (L := [(173, 174)]) (M := FwX12_find_l4) rfl rfl (show inW [(173, 174)] 173 = true from rfl))) (Ag.mo rfl hr)))
    · refine Ok_t ?_
      intro r26
      refine Ok_i (fun g_4 => ?_) (fun _ => ?_)
      · exact Ok_m (ih _ _ _ _) (fun _ hr => (Ag.tr (Ag.rf (f := J)) (Ag.mo rfl hr)))
      · refine Ok_g (fun g_5 => ?_)
        refine Ok_i (fun g_6 => ?_) (fun _ => ?_)
        · exact Ok_m (ih _ _ _ _) (fun _ hr => (Ag.tr (Ag.rf (f := J)) (Ag.mo rfl hr)))
        · exact Ok_m (ih _ _ _ _) (fun _ hr => (Ag.tr (Ag.rf (f := J)) (Ag.mo rfl hr)))
theorem aX12_find {σ : Shp} {I : Nat → Nat → Int32} {J : Nat → Nat → Int64} {R : Nat → Nat → Option Nat} {x1 : Int32} : Ok (gX12_find σ I J R x1) (fun r => Ag FwX12_find J r) := by
  unfold gX12_find
  exact Ok_m (aX12_find_l4  _ _ _ _ _) (fun _ hr => (Ag.tr (Ag.rf (f := J)) (Ag.mo rfl hr)))
theorem aX12_countIn_b186 {q104 : (Nat → Nat → Int32) → (Int32) → (Int32) → (Int32) → (Option ((Nat → Nat → Int32)))} {σ : Shp} {J : Nat → Nat → Int64} {D : Nat → Nat → UInt64} {R : Nat → Nat → Option Nat} {I : Nat → Nat → Int32} {x1 : Int32} {x2 : Int32} {x3 : Int32} {x4 : Int32} {x5 : Int32} {s0 : Option Nat} {s1 : Int32} {s2 : Int32} (hq104 : ∀ (I : Nat → Nat → Int32) (x1 : Int32) (x2 : Int32) (x3 : Int32), Ok (q104 I x1 x2 x3) (fun r => Ag FwX12_countIn_l104 I r)) (hs_s0 : Cin [(169, 170)] s0) : Ok (gX12_countIn_b186 q104 σ J D R I x1 x2 x3 x4 x5 s0 s1 s2) (fun r => Ag FwX12_countIn_b186 I r) := by
  unfold gX12_countIn_b186
  refine Ok_bc (fun a3 e_1 => ?_)
  refine Ok_g (fun g_2 => ?_)
  refine Ok_g (fun g_3 => ?_)
  refine Ok_i (fun g_5 => ?_) (fun _ => ?_)
  · refine Ok_g (fun g_6 => ?_)
    exact Ok_m (hq104 _ _ _ _) (fun _ hr => (Ag.tr (Ag.st (Ag.st (Ag.rf (f := I)) (keyo (L := [(169, 170)]) (M := FwX12_countIn_b186) rfl rfl (inW_mo (L := [(169, 170)]) (M := [(169, 170)]) rfl (Cin.get hs_s0 e_1)))) (keyo (L := [(170, 171)]) (M := FwX12_countIn_b186) rfl rfl (show inW [(170, 171)] 170 = true from rfl))) (Ag.mo rfl hr)))
  · refine Ok_i (fun g_8 => ?_) (fun _ => ?_)
    · refine Ok_g (fun g_9 => ?_)
      exact Ok_m (hq104 _ _ _ _) (fun _ hr => (Ag.tr (Ag.st (Ag.st (Ag.rf (f := I)) (keyo (L := [(169, 170)]) (M := FwX12_countIn_b186) rfl rfl (inW_mo (L := [(169, 170)]) (M := [(169, 170)]) rfl (Cin.get hs_s0 e_1)))) (keyo (L := [(170, 171)]) (M := FwX12_countIn_b186) rfl rfl (show inW [(170, 171)] 170 = true from rfl))) (Ag.mo rfl hr)))
    · refine Ok_g (fun g_11 => ?_)
      exact Ok_m (hq104 _ _ _ _) (fun _ hr => (Ag.tr (Ag.st (Ag.st (Ag.rf (f := I)) (keyo (L := [(169, 170)]) (M := FwX12_countIn_b186) rfl rfl (inW_mo (L := [(169, 170)]) (M := [(169, 170)]) rfl (Cin.get hs_s0 e_1)))) (keyo (L := [(170, 171)]) (M := FwX12_countIn_b186) rfl rfl (show inW [(170, 171)] 170 = true from rfl))) (Ag.mo rfl hr)))
theorem aX12_countIn_b162 {q104 : (Nat → Nat → Int32) → (Int32) → (Int32) → (Int32) → (Option ((Nat → Nat → Int32)))} {σ : Shp} {J : Nat → Nat → Int64} {D : Nat → Nat → UInt64} {R : Nat → Nat → Option Nat} {I : Nat → Nat → Int32} {x1 : Int32} {x2 : Int32} {x3 : Int32} {x4 : Int32} {s0 : Int32} (hq104 : ∀ (I : Nat → Nat → Int32) (x1 : Int32) (x2 : Int32) (x3 : Int32), Ok (q104 I x1 x2 x3) (fun r => Ag FwX12_countIn_l104 I r)) : Ok (gX12_countIn_b162 q104 σ J D R I x1 x2 x3 x4 s0) (fun r => Ag FwX12_countIn_b162 I r) := by
  unfold gX12_countIn_b162
  refine Ok_i (fun g_1 => ?_) (fun _ => ?_)
  · exact Ok_m (aX12_countIn_b186 hq104 ⟨_, rfl, (show inW [(169, 170)] 169 = true from rfl)⟩) (fun _ hr => (Ag.tr (Ag.rf (f := I)) (Ag.mo rfl hr)))
  · refine Ok_g (fun g_2 => ?_)
    exact Ok_m (aX12_countIn_b186 hq104 ⟨_, rfl, (show inW [(169, 170)] 169 = true from rfl)⟩) (fun _ hr => (Ag.tr (Ag.rf (f := I)) (Ag.mo rfl hr)))
theorem aX12_countIn_b141 {q104 : (Nat → Nat → Int32) → (Int32) → (Int32) → (Int32) → (Option ((Nat → Nat → Int32)))} {σ : Shp} {J : Nat → Nat → Int64} {D : Nat → Nat → UInt64} {R : Nat → Nat → Option Nat} {I : Nat → Nat → Int32} {x1 : Int32} {x2 : Int32} {x3 : Int32} {s0 : Int32} (hq104 : ∀ (I : Nat → Nat → Int32) (x1 : Int32) (x2 : Int32) (x3 : Int32), Ok (q104 I x1 x2 x3) (fun r => Ag FwX12_countIn_l104 I r)) : Ok (gX12_countIn_b141 q104 σ J D R I x1 x2 x3 s0) (fun r => Ag FwX12_countIn_b141 I r) := by
  unfold gX12_countIn_b141
  refine Ok_i (fun g_1 => ?_) (fun _ => ?_)
  · exact Ok_m (aX12_countIn_b162 hq104) (fun _ hr => (Ag.tr (Ag.rf (f := I)) (Ag.mo rfl hr)))
  · refine Ok_t ?_
    intro r17
    refine Ok_i (fun g_2 => ?_) (fun _ => ?_)
    · exact Ok_m (aX12_countIn_b162 hq104) (fun _ hr => (Ag.tr (Ag.rf (f := I)) (Ag.mo rfl hr)))
    · exact Ok_m (aX12_countIn_b162 hq104) (fun _ hr => (Ag.tr (Ag.rf (f := I)) (Ag.mo rfl hr)))
theorem aX12_countIn_l104 {σ : Shp} {J : Nat → Nat → Int64} {D : Nat → Nat → UInt64} {R : Nat → Nat → Option Nat} : ∀ (n : Nat) (I : Nat → Nat → Int32) (x1 : Int32) (x2 : Int32) (x3 : Int32), Ok (gX12_countIn_l104 σ J D R n I x1 x2 x3) (fun r => Ag FwX12_countIn_l104 I r) := by
  intro n
  induction n with
  | zero => intro I x1 x2 x3; exact Ok_e rfl
  | succ n ih =>
    intro I x1 x2 x3
    rw [gX12_countIn_l104]
    refine Ok_i (fun g_1 => ?_) (fun _ => ?_)
    · exact Ok_s (Ag.rf (f := I))
    · refine Ok_t ?_
      intro r1
      refine Ok_i (fun g_2 => ?_) (fun _ => ?_)
      · exact Ok_m (aX12_countIn_b141 ih) (fun _ hr => (Ag.tr (Ag.rf (f := I)) (Ag.mo rfl hr)))
      · refine Ok_i (fun g_3 => ?_) (fun _ => ?_)
        · refine Ok_g (fun g_4 => ?_)
          refine Ok_i (fun g_5 => ?_) (fun _ => ?_)
          · exact Ok_m (aX12_countIn_b141 ih) (fun _ hr => (Ag.tr (Ag.rf (f := I)) (Ag.mo rfl hr)))
          · exact Ok_m (aX12_countIn_b141 ih) (fun _ hr => (Ag.tr (Ag.rf (f := I)) (Ag.mo rfl hr)))
        · exact Ok_m (aX12_countIn_b141 ih) (fun _ hr => (Ag.tr (Ag.rf (f := I)) (Ag.mo rfl hr)))
theorem aX12_countIn_b60 {q4 : (Nat → Nat → Int32) → (Int32) → (Int32) → (Int32) → (Option ((Nat → Nat → Int32)))} {σ : Shp} {J : Nat → Nat → Int64} {D : Nat → Nat → UInt64} {R : Nat → Nat → Option Nat} {I : Nat → Nat → Int32} {x1 : Int32} {x2 : Int32} {x3 : Int32} {s0 : Option Nat} {s1 : Int32} {s2 : Int32} (hq4 : ∀ (I : Nat → Nat → Int32) (x1 : Int32) (x2 : Int32) (x3 : Int32), Ok (q4 I x1 x2 x3) (fun r => Ag FwX12_countIn_l4 I r)) (hs_s0 : Cin [(172, 173)] s0) : Ok (gX12_countIn_b60 q4 σ J D R I x1 x2 x3 s0 s1 s2) (fun r => Ag FwX12_countIn_b60 I r) := by
  unfold gX12_countIn_b60
  refine Ok_bc (fun a23 e_1 => ?_)
  refine Ok_g (fun g_2 => ?_)
  refine Ok_g (fun g_3 => ?_)
  refine Ok_i (fun g_5 => ?_) (fun _ => ?_)
  · refine Ok_g (fun g_6 => ?_)
    exact Ok_m (hq4 _ _ _ _) (fun _ hr => (Ag.tr (Ag.st (Ag.st (Ag.rf (f := I)) (keyo (L := [(172, 173)]) (M := FwX12_countIn_b60) rfl rfl (inW_mo (L := [(172, 173)]) (M := [(172, 173)]) rfl (Cin.get hs_s0 e_1)))) (keyo (L := [(171, 172)]) (M := FwX12_countIn_b60) rfl rfl (show inW [(171, 172)] 171 = true from rfl))) (Ag.mo rfl hr)))
  · refine Ok_g (fun g_8 => ?_)
    refine Ok_i (fun g_9 => ?_) (fun _ => ?_)
    · refine Ok_g (fun g_10 => ?_)
      exact Ok_m (hq4 _ _ _ _) (fun _ hr => (Ag.tr (Ag.st (Ag.st (Ag.rf (f := I)) (keyo (L := [(172, 173)]) (M := FwX12_countIn_b60) rfl rfl (inW_mo (L := [(172, 173)]) (M := [(172, 173)]) rfl (Cin.get hs_s0 e_1)))) (keyo (L := [(171, 172)]) (M := FwX12_countIn_b60) rfl rfl (show inW [(171, 172)] 171 = true from rfl))) (Ag.mo rfl hr)))
    · refine Ok_g (fun g_12 => ?_)
      exact Ok_m (hq4 _ _ _ _) (fun _ hr => (Ag.tr (Ag.st (Ag.st (Ag.rf (f := I)) (keyo (L := [(172, 173)]) (M := FwX12_countIn_b60) rfl rfl (inW_mo (L := [(172, 173)]) (M := [(172, 173)]) rfl (Cin.get hs_s0 e_1)))) (keyo (L := [(171, 172)]) (M := FwX12_countIn_b60) rfl rfl (show inW [(171, 172)] 171 = true from rfl))) (Ag.mo rfl hr)))
theorem aX12_countIn_b24 {q4 : (Nat → Nat → Int32) → (Int32) → (Int32) → (Int32) → (Option ((Nat → Nat → Int32)))} {σ : Shp} {J : Nat → Nat → Int64} {D : Nat → Nat → UInt64} {R : Nat → Nat → Option Nat} {I : Nat → Nat → Int32} {x1 : Int32} {x3 : Int32} {s0 : Int32} {s1 : Int32} (hq4 : ∀ (I : Nat → Nat → Int32) (x1 : Int32) (x2 : Int32) (x3 : Int32), Ok (q4 I x1 x2 x3) (fun r => Ag FwX12_countIn_l4 I r)) : Ok (gX12_countIn_b24 q4 σ J D R I x1 x3 s0 s1) (fun r => Ag FwX12_countIn_b24 I r) := by
  unfold gX12_countIn_b24
  refine Ok_i (fun g_1 => ?_) (fun _ => ?_)
  · exact Ok_m (aX12_countIn_b60 hq4 ⟨_, rfl, (show inW [(172, 173)] 172 = true from rfl)⟩) (fun _ hr => (Ag.tr (Ag.rf (f := I)) (Ag.mo rfl hr)))
  · refine Ok_g (fun g_2 => ?_)
    refine Ok_g (fun g_3 => ?_)
    refine Ok_i (fun g_4 => ?_) (fun _ => ?_)
    · exact Ok_m (aX12_countIn_b60 hq4 ⟨_, rfl, (show inW [(172, 173)] 172 = true from rfl)⟩) (fun _ hr => (Ag.tr (Ag.rf (f := I)) (Ag.mo rfl hr)))
    · exact Ok_m (aX12_countIn_b60 hq4 ⟨_, rfl, (show inW [(172, 173)] 172 = true from rfl)⟩) (fun _ hr => (Ag.tr (Ag.rf (f := I)) (Ag.mo rfl hr)))
theorem aX12_countIn_l4 {σ : Shp} {J : Nat → Nat → Int64} {D : Nat → Nat → UInt64} {R : Nat → Nat → Option Nat} : ∀ (n : Nat) (I : Nat → Nat → Int32) (x1 : Int32) (x2 : Int32) (x3 : Int32), Ok (gX12_countIn_l4 σ J D R n I x1 x2 x3) (fun r => Ag FwX12_countIn_l4 I r) := by
  intro n
  induction n with
  | zero => intro I x1 x2 x3; exact Ok_e rfl
  | succ n ih =>
    intro I x1 x2 x3
    rw [gX12_countIn_l4]
    refine Ok_i (fun g_1 => ?_) (fun _ => ?_)
    · exact Ok_m (aX12_countIn_l104  _ _ _ _ _) (fun _ hr => (Ag.tr (Ag.rf (f := I)) (Ag.mo rfl hr)))
    · refine Ok_t ?_
      intro r20
      refine Ok_i (fun g_2 => ?_) (fun _ => ?_)
      · exact Ok_m (aX12_countIn_b24 ih) (fun _ hr => (Ag.tr (Ag.rf (f := I)) (Ag.mo rfl hr)))
      · exact Ok_m (aX12_countIn_b24 ih) (fun _ hr => (Ag.tr (Ag.rf (f := I)) (Ag.mo rfl hr)))
theorem aX12_countIn {σ : Shp} {I : Nat → Nat → Int32} {J : Nat → Nat → Int64} {D : Nat → Nat → UInt64} {R : Nat → Nat → Option Nat} {x1 : Int32} : Ok (gX12_countIn σ I J D R x1) (fun r => Ag FwX12_countIn I r) := by
  unfold gX12_countIn
  exact Ok_m (aX12_countIn_l4  _ _ _ _ _) (fun _ hr => (Ag.tr (Ag.rf (f := I)) (Ag.mo rfl hr)))
theorem aX12_vote_l219 {σ : Shp} {D : Nat → Nat → UInt64} {R : Nat → Nat → Option Nat} : ∀ (n : Nat) (I : Nat → Nat → Int32) (J : Nat → Nat → Int64) (x2 : Int32), Ok (gX12_vote_l219 σ D R n I J x2) (fun r => Ag FwX12_vote_l219 I r.1 ∧ Ag FwX12_vote_l219 J r.2) := by
  intro n
  induction n with
  | zero => intro I J x2; exact Ok_e rfl
  | succ n ih =>
    intro I J x2
    rw [gX12_vote_l219]
    refine Ok_i (fun g_1 => ?_) (fun _ => ?_)
    · exact Ok_s ⟨(Ag.rf (f := I)), (Ag.rf (f := J))⟩
    · refine Ok_g (fun g_2 => ?_)
      refine Ok_g (fun g_3 => ?_)
      exact Ok_m (ih _ _ _) (fun _ ⟨h0, h1⟩ => ⟨(Ag.tr (Ag.rf (f := I)) (Ag.mo rfl h0)), (Ag.tr (Ag.st (Ag.rf (f := J)) (keyo (L := [(166, 167)]) (M := FwX12_vote_l219) rfl rfl (show inW [(166, 167)] 166 = true from rfl))) (Ag.mo rfl h1))⟩)
theorem aX12_vote_b164 {q12 : (Nat → Nat → Int32) → (Nat → Nat → Int64) → (Int32) → (Int32) → (Option ((Nat → Nat → Int32) × (Nat → Nat → Int64)))} {σ : Shp} {D : Nat → Nat → UInt64} {R : Nat → Nat → Option Nat} {I : Nat → Nat → Int32} {J : Nat → Nat → Int64} {x1 : Int32} {x2 : Int32} {x4 : Int32} {x5 : Int32} (hq12 : ∀ (I : Nat → Nat → Int32) (J : Nat → Nat → Int64) (x1 : Int32) (x2 : Int32), Ok (q12 I J x1 x2) (fun r => Ag FwX12_vote_l12 I r.1 ∧ Ag FwX12_vote_l12 J r.2)) : Ok (gX12_vote_b164 q12 σ D R I J x1 x2 x4 x5) (fun r => Ag FwX12_vote_b164 I r.1 ∧ Ag FwX12_vote_b164 J r.2) := by
  unfold gX12_vote_b164
  refine Ok_g (fun g_1 => ?_)
  refine Ok_i (fun g_3 => ?_) (fun _ => ?_)
  · refine Ok_i (fun g_4 => ?_) (fun _ => ?_)
    · refine Ok_g (fun g_5 => ?_)
      refine Ok_g (fun g_7 => ?_)
      refine Ok_g (fun g_9 => ?_)
      exact Ok_m (hq12 _ _ _ _) (fun _ ⟨h0, h1⟩ => ⟨(Ag.tr (Ag.st (Ag.st (Ag.st (Ag.st (Ag.rf (f := I)) (keyo (L := [(167, 168)]) (M := FwX12_vote_b164) rfl rfl (show inW [(167, 168)] 167 = true from rfl))) (keyo (L := [(168, 169)]) (M := FwX12_vote_b164) rfl rfl (show inW [(168, 169)] 168 = true from rfl))) (keyo (L := [(169, 170)]) (M := FwX12_vote_b164) rfl rfl (show inW [(169, 170)] 169 = true from rfl))) (keyo (L := [(170, 171)]) (M := FwX12_vote_b164) rfl rfl (show inW [(170, 171)] 170 = true from rfl))) (Ag.mo rfl h0)), (Ag.tr (Ag.rf (f := J)) (Ag.mo rfl h1))⟩)
    · refine Ok_g (fun g_11 => ?_)
      refine Ok_g (fun g_13 => ?_)
      refine Ok_g (fun g_15 => ?_)
      exact Ok_m (hq12 _ _ _ _) (fun _ ⟨h0, h1⟩ => ⟨(Ag.tr (Ag.st (Ag.st (Ag.st (Ag.st (Ag.rf (f := I)) (keyo (L := [(167, 168)]) (M := FwX12_vote_b164) rfl rfl (show inW [(167, 168)] 167 = true from rfl))) (keyo (L := [(168, 169)]) (M := FwX12_vote_b164) rfl rfl (show inW [(168, 169)] 168 = true from rfl))) (keyo (L := [(169, 170)]) (M := FwX12_vote_b164) rfl rfl (show inW [(169, 170)] 169 = true from rfl))) (keyo (L := [(170, 171)]) (M := FwX12_vote_b164) rfl rfl (show inW [(170, 171)] 170 = true from rfl))) (Ag.mo rfl h0)), (Ag.tr (Ag.rf (f := J)) (Ag.mo rfl h1))⟩)
  · refine Ok_g (fun g_17 => ?_)
    refine Ok_g (fun g_19 => ?_)
    refine Ok_g (fun g_21 => ?_)
    exact Ok_m (hq12 _ _ _ _) (fun _ ⟨h0, h1⟩ => ⟨(Ag.tr (Ag.st (Ag.st (Ag.st (Ag.st (Ag.rf (f := I)) (keyo (L := [(167, 168)]) (M := FwX12_vote_b164) rfl rfl (show inW [(167, 168)] 167 = true from rfl))) (keyo (L := [(168, 169)]) (M := FwX12_vote_b164) rfl rfl (show inW [(168, 169)] 168 = true from rfl))) (keyo (L := [(169, 170)]) (M := FwX12_vote_b164) rfl rfl (show inW [(169, 170)] 169 = true from rfl))) (keyo (L := [(170, 171)]) (M := FwX12_vote_b164) rfl rfl (show inW [(170, 171)] 170 = true from rfl))) (Ag.mo rfl h0)), (Ag.tr (Ag.rf (f := J)) (Ag.mo rfl h1))⟩)
theorem aX12_vote_b121 {q12 : (Nat → Nat → Int32) → (Nat → Nat → Int64) → (Int32) → (Int32) → (Option ((Nat → Nat → Int32) × (Nat → Nat → Int64)))} {σ : Shp} {D : Nat → Nat → UInt64} {R : Nat → Nat → Option Nat} {I : Nat → Nat → Int32} {J : Nat → Nat → Int64} {x1 : Int32} {x2 : Int32} {x4 : Int32} {s0 : Int32} (hq12 : ∀ (I : Nat → Nat → Int32) (J : Nat → Nat → Int64) (x1 : Int32) (x2 : Int32), Ok (q12 I J x1 x2) (fun r => Ag FwX12_vote_l12 I r.1 ∧ Ag FwX12_vote_l12 J r.2)) : Ok (gX12_vote_b121 q12 σ D R I J x1 x2 x4 s0) (fun r => Ag FwX12_vote_b121 I r.1 ∧ Ag FwX12_vote_b121 J r.2) := by
  unfold gX12_vote_b121
  refine Ok_i (fun g_1 => ?_) (fun _ => ?_)
  · refine Ok_g (fun g_2 => ?_)
    refine Ok_i (fun g_3 => ?_) (fun _ => ?_)
    · refine Ok_i (fun g_4 => ?_) (fun _ => ?_)
      · refine Ok_i (fun g_5 => ?_) (fun _ => ?_)
        · exact Ok_m (hq12 _ _ _ _) (fun _ ⟨h0, h1⟩ => ⟨(Ag.tr (Ag.rf (f := I)) (Ag.mo rfl h0)), (Ag.tr (Ag.rf (f := J)) (Ag.mo rfl h1))⟩)
        · exact Ok_m (aX12_vote_b164 hq12) (fun _ ⟨h0, h1⟩ => ⟨(Ag.tr (Ag.rf (f := I)) (Ag.mo rfl h0)), (Ag.tr (Ag.rf (f := J)) (Ag.mo rfl h1))⟩)
      · exact Ok_m (aX12_vote_b164 hq12) (fun _ ⟨h0, h1⟩ => ⟨(Ag.tr (Ag.rf (f := I)) (Ag.mo rfl h0)), (Ag.tr (Ag.rf (f := J)) (Ag.mo rfl h1))⟩)
    · refine Ok_g (fun g_6 => ?_)
      refine Ok_i (fun g_7 => ?_) (fun _ => ?_)
      · refine Ok_i (fun g_8 => ?_) (fun _ => ?_)
        · refine Ok_i (fun g_9 => ?_) (fun _ => ?_)
          · exact Ok_m (hq12 _ _ _ _) (fun _ ⟨h0, h1⟩ => ⟨(Ag.tr (Ag.rf (f := I)) (Ag.mo rfl h0)), (Ag.tr (Ag.rf (f := J)) (Ag.mo rfl h1))⟩)
          · exact Ok_m (aX12_vote_b164 hq12) (fun _ ⟨h0, h1⟩ => ⟨(Ag.tr (Ag.rf (f := I)) (Ag.mo rfl h0)), (Ag.tr (Ag.rf (f := J)) (Ag.mo rfl h1))⟩)
        · exact Ok_m (aX12_vote_b164 hq12) (fun _ ⟨h0, h1⟩ => ⟨(Ag.tr (Ag.rf (f := I)) (Ag.mo rfl h0)), (Ag.tr (Ag.rf (f := J)) (Ag.mo rfl h1))⟩)
      · refine Ok_i (fun g_10 => ?_) (fun _ => ?_)
        · refine Ok_i (fun g_11 => ?_) (fun _ => ?_)
          · exact Ok_m (hq12 _ _ _ _) (fun _ ⟨h0, h1⟩ => ⟨(Ag.tr (Ag.rf (f := I)) (Ag.mo rfl h0)), (Ag.tr (Ag.rf (f := J)) (Ag.mo rfl h1))⟩)
          · exact Ok_m (aX12_vote_b164 hq12) (fun _ ⟨h0, h1⟩ => ⟨(Ag.tr (Ag.rf (f := I)) (Ag.mo rfl h0)), (Ag.tr (Ag.rf (f := J)) (Ag.mo rfl h1))⟩)
        · exact Ok_m (aX12_vote_b164 hq12) (fun _ ⟨h0, h1⟩ => ⟨(Ag.tr (Ag.rf (f := I)) (Ag.mo rfl h0)), (Ag.tr (Ag.rf (f := J)) (Ag.mo rfl h1))⟩)
  · refine Ok_i (fun g_12 => ?_) (fun _ => ?_)
    · refine Ok_i (fun g_13 => ?_) (fun _ => ?_)
      · exact Ok_m (hq12 _ _ _ _) (fun _ ⟨h0, h1⟩ => ⟨(Ag.tr (Ag.rf (f := I)) (Ag.mo rfl h0)), (Ag.tr (Ag.rf (f := J)) (Ag.mo rfl h1))⟩)
      · exact Ok_m (aX12_vote_b164 hq12) (fun _ ⟨h0, h1⟩ => ⟨(Ag.tr (Ag.rf (f := I)) (Ag.mo rfl h0)), (Ag.tr (Ag.rf (f := J)) (Ag.mo rfl h1))⟩)
    · exact Ok_m (aX12_vote_b164 hq12) (fun _ ⟨h0, h1⟩ => ⟨(Ag.tr (Ag.rf (f := I)) (Ag.mo rfl h0)), (Ag.tr (Ag.rf (f := J)) (Ag.mo rfl h1))⟩)
theorem aX12_vote_b90 {q12 : (Nat → Nat → Int32) → (Nat → Nat → Int64) → (Int32) → (Int32) → (Option ((Nat → Nat → Int32) × (Nat → Nat → Int64)))} {σ : Shp} {D : Nat → Nat → UInt64} {R : Nat → Nat → Option Nat} {I : Nat → Nat → Int32} {J : Nat → Nat → Int64} {x1 : Int32} {x2 : Int32} {s0 : Int32} (hq12 : ∀ (I : Nat → Nat → Int32) (J : Nat → Nat → Int64) (x1 : Int32) (x2 : Int32), Ok (q12 I J x1 x2) (fun r => Ag FwX12_vote_l12 I r.1 ∧ Ag FwX12_vote_l12 J r.2)) : Ok (gX12_vote_b90 q12 σ D R I J x1 x2 s0) (fun r => Ag FwX12_vote_b90 I r.1 ∧ Ag FwX12_vote_b90 J r.2) := by
  unfold gX12_vote_b90
  refine Ok_i (fun g_1 => ?_) (fun _ => ?_)
  · refine Ok_g (fun g_2 => ?_)
    refine Ok_i (fun g_3 => ?_) (fun _ => ?_)
    · refine Ok_g (fun g_4 => ?_)
      refine Ok_i (fun g_5 => ?_) (fun _ => ?_)
      · exact Ok_m (aX12_vote_b121 hq12) (fun _ ⟨h0, h1⟩ => ⟨(Ag.tr (Ag.rf (f := I)) (Ag.mo rfl h0)), (Ag.tr (Ag.rf (f := J)) (Ag.mo rfl h1))⟩)
      · exact Ok_m (aX12_vote_b121 hq12) (fun _ ⟨h0, h1⟩ => ⟨(Ag.tr (Ag.rf (f := I)) (Ag.mo rfl h0)), (Ag.tr (Ag.rf (f := J)) (Ag.mo rfl h1))⟩)
    · exact Ok_m (aX12_vote_b121 hq12) (fun _ ⟨h0, h1⟩ => ⟨(Ag.tr (Ag.rf (f := I)) (Ag.mo rfl h0)), (Ag.tr (Ag.rf (f := J)) (Ag.mo rfl h1))⟩)
  · exact Ok_m (aX12_vote_b121 hq12) (fun _ ⟨h0, h1⟩ => ⟨(Ag.tr (Ag.rf (f := I)) (Ag.mo rfl h0)), (Ag.tr (Ag.rf (f := J)) (Ag.mo rfl h1))⟩)
theorem aX12_vote_l23 {q12 : (Nat → Nat → Int32) → (Nat → Nat → Int64) → (Int32) → (Int32) → (Option ((Nat → Nat → Int32) × (Nat → Nat → Int64)))} {σ : Shp} {D : Nat → Nat → UInt64} {R : Nat → Nat → Option Nat} (hq12 : ∀ (I : Nat → Nat → Int32) (J : Nat → Nat → Int64) (x1 : Int32) (x2 : Int32), Ok (q12 I J x1 x2) (fun r => Ag FwX12_vote_l12 I r.1 ∧ Ag FwX12_vote_l12 J r.2)) : ∀ (n : Nat) (I : Nat → Nat → Int32) (J : Nat → Nat → Int64) (x1 : Int32) (x2 : Int32) (x3 : Int32) (x4 : Int32), Ok (gX12_vote_l23 q12 σ D R n I J x1 x2 x3 x4) (fun r => Ag FwX12_vote_l23 I r.1 ∧ Ag FwX12_vote_l23 J r.2) := by
  intro n
  induction n with
  | zero => intro I J x1 x2 x3 x4; exact Ok_e rfl
  | succ n ih =>
    intro I J x1 x2 x3 x4
    rw [gX12_vote_l23]
    refine Ok_i (fun g_1 => ?_) (fun _ => ?_)
    · refine Ok_t ?_
      intro r9
      refine Ok_i (fun g_2 => ?_) (fun _ => ?_)
      · exact Ok_m (aX12_vote_b90 hq12) (fun _ ⟨h0, h1⟩ => ⟨(Ag.tr (Ag.rf (f := I)) (Ag.mo rfl h0)), (Ag.tr (Ag.rf (f := J)) (Ag.mo rfl h1))⟩)
      · refine Ok_g (fun g_3 => ?_)
        refine Ok_i (fun g_4 => ?_) (fun _ => ?_)
        · exact Ok_m (aX12_vote_b90 hq12) (fun _ ⟨h0, h1⟩ => ⟨(Ag.tr (Ag.rf (f := I)) (Ag.mo rfl h0)), (Ag.tr (Ag.rf (f := J)) (Ag.mo rfl h1))⟩)
        · refine Ok_i (fun g_5 => ?_) (fun _ => ?_)
          · exact Ok_m (aX12_vote_b90 hq12) (fun _ ⟨h0, h1⟩ => ⟨(Ag.tr (Ag.rf (f := I)) (Ag.mo rfl h0)), (Ag.tr (Ag.rf (f := J)) (Ag.mo rfl h1))⟩)
          · exact Ok_m (aX12_vote_b90 hq12) (fun _ ⟨h0, h1⟩ => ⟨(Ag.tr (Ag.rf (f := I)) (Ag.mo rfl h0)), (Ag.tr (Ag.rf (f := J)) (Ag.mo rfl h1))⟩)
    · refine Ok_i (fun g_6 => ?_) (fun _ => ?_)
      · refine Ok_i (fun g_7 => ?_) (fun _ => ?_)
        · exact Ok_m (ih _ _ _ _ _ _) (fun _ ⟨h0, h1⟩ => ⟨(Ag.tr (Ag.rf (f := I)) (Ag.mo rfl h0)), (Ag.tr (Ag.rf (f := J)) (Ag.mo rfl h1))⟩)
        · refine Ok_g (fun g_8 => ?_)
          refine Ok_i (fun g_9 => ?_) (fun _ => ?_)
          · exact Ok_m (ih _ _ _ _ _ _) (fun _ ⟨h0, h1⟩ => ⟨(Ag.tr (Ag.rf (f := I)) (Ag.mo rfl h0)), (Ag.tr (Ag.rf (f := J)) (Ag.mo rfl h1))⟩)
          · exact Ok_m (ih _ _ _ _ _ _) (fun _ ⟨h0, h1⟩ => ⟨(Ag.tr (Ag.rf (f := I)) (Ag.mo rfl h0)), (Ag.tr (Ag.rf (f := J)) (Ag.mo rfl h1))⟩)
      · exact Ok_m (ih _ _ _ _ _ _) (fun _ ⟨h0, h1⟩ => ⟨(Ag.tr (Ag.rf (f := I)) (Ag.mo rfl h0)), (Ag.tr (Ag.rf (f := J)) (Ag.mo rfl h1))⟩)
theorem aX12_vote_l12 {σ : Shp} {D : Nat → Nat → UInt64} {R : Nat → Nat → Option Nat} : ∀ (n : Nat) (I : Nat → Nat → Int32) (J : Nat → Nat → Int64) (x1 : Int32) (x2 : Int32), Ok (gX12_vote_l12 σ D R n I J x1 x2) (fun r => Ag FwX12_vote_l12 I r.1 ∧ Ag FwX12_vote_l12 J r.2) := by
  intro n
  induction n with
  | zero => intro I J x1 x2; exact Ok_e rfl
  | succ n ih =>
    intro I J x1 x2
    rw [gX12_vote_l12]
    refine Ok_i (fun g_1 => ?_) (fun _ => ?_)
    · exact Ok_m (aX12_vote_l219  _ _ _ _) (fun _ ⟨h0, h1⟩ => ⟨(Ag.tr (Ag.rf (f := I)) (Ag.mo rfl h0)), (Ag.tr (Ag.rf (f := J)) (Ag.mo rfl h1))⟩)
    · exact Ok_m (aX12_vote_l23 ih _ _ _ _ _ _ _) (fun _ ⟨h0, h1⟩ => ⟨(Ag.tr (Ag.rf (f := I)) (Ag.mo rfl h0)), (Ag.tr (Ag.rf (f := J)) (Ag.mo rfl h1))⟩)
theorem aX12_vote {σ : Shp} {I : Nat → Nat → Int32} {J : Nat → Nat → Int64} {D : Nat → Nat → UInt64} {R : Nat → Nat → Option Nat} {x1 : Int32} : Ok (gX12_vote σ I J D R x1) (fun r => Ag FwX12_vote I r.1 ∧ Ag FwX12_vote J r.2) := by
  unfold gX12_vote
  refine Ok_b (aX12_find) ?_
  intro J1 hr
  have h_1 := hr
  have m_2 : Ag FwX12_vote J J1 := Ag.tr (Ag.rf (f := J)) (Ag.mo rfl h_1)
  refine Ok_b (aX12_countIn) ?_
  intro I3 hr
  have h_3 := hr
  have m_4 : Ag FwX12_vote I I3 := Ag.tr (Ag.rf (f := I)) (Ag.mo rfl h_3)
  exact Ok_m (aX12_vote_l12  _ _ _ _ _) (fun _ ⟨h0, h1⟩ => ⟨(Ag.tr m_4 (Ag.mo rfl h0)), (Ag.tr m_2 (Ag.mo rfl h1))⟩)
theorem aX12_weather_b59 {σ : Shp} {R : Nat → Nat → Option Nat} {I : Nat → Nat → Int32} {x1 : Int32} {x2 : Int32} {x3 : Int32} {s0 : Int32} : Ok (gX12_weather_b59 σ R I x1 x2 x3 s0) (fun r => Ag FwX12_weather_b59 I r.1) := by
  unfold gX12_weather_b59
  refine Ok_i (fun g_1 => ?_) (fun _ => ?_)
  · exact Ok_s (Ag.rf (f := I))
  · refine Ok_g (fun g_2 => ?_)
    exact Ok_s (Ag.st (Ag.rf (f := I)) (keyo (L := [(174, 175)]) (M := FwX12_weather_b59) rfl rfl (show inW [(174, 175)] 174 = true from rfl)))
theorem aX12_weather_b25 {σ : Shp} {R : Nat → Nat → Option Nat} {I : Nat → Nat → Int32} {x1 : Int32} {x2 : Int32} {s0 : Int32} : Ok (gX12_weather_b25 σ R I x1 x2 s0) (fun r => Ag FwX12_weather_b25 I r.1) := by
  unfold gX12_weather_b25
  refine Ok_i (fun g_1 => ?_) (fun _ => ?_)
  · exact Ok_m (aX12_weather_b59) (fun _ hr => (Ag.tr (Ag.rf (f := I)) (Ag.mo rfl hr)))
  · refine Ok_i (fun g_2 => ?_) (fun _ => ?_)
    · exact Ok_m (aX12_weather_b59) (fun _ hr => (Ag.tr (Ag.rf (f := I)) (Ag.mo rfl hr)))
    · refine Ok_i (fun g_3 => ?_) (fun _ => ?_)
      · exact Ok_m (aX12_weather_b59) (fun _ hr => (Ag.tr (Ag.rf (f := I)) (Ag.mo rfl hr)))
      · exact Ok_m (aX12_weather_b59) (fun _ hr => (Ag.tr (Ag.rf (f := I)) (Ag.mo rfl hr)))
theorem aX12_weather {σ : Shp} {I : Nat → Nat → Int32} {R : Nat → Nat → Option Nat} {x1 : Int32} {x2 : Int32} : Ok (gX12_weather σ I R x1 x2) (fun r => Ag FwX12_weather I r.1) := by
  unfold gX12_weather
  refine Ok_i (fun g_1 => ?_) (fun _ => ?_)
  · exact Ok_s (Ag.rf (f := I))
  · refine Ok_i (fun g_2 => ?_) (fun _ => ?_)
    · exact Ok_m (aX12_weather_b25) (fun _ hr => (Ag.tr (Ag.rf (f := I)) (Ag.mo rfl hr)))
    · exact Ok_m (aX12_weather_b25) (fun _ hr => (Ag.tr (Ag.rf (f := I)) (Ag.mo rfl hr)))
theorem aX12_mark_b67 {σ : Shp} {R : Nat → Nat → Option Nat} {I : Nat → Nat → Int32} {x1 : Int32} {x2 : Int32} {x3 : Int32} : Ok (gX12_mark_b67 σ R I x1 x2 x3) (fun r => Ag FwX12_mark_b67 I r.1) := by
  unfold gX12_mark_b67
  refine Ok_g (fun g_1 => ?_)
  refine Ok_i (fun g_2 => ?_) (fun _ => ?_)
  · exact Ok_s (Ag.rf (f := I))
  · refine Ok_g (fun g_3 => ?_)
    refine Ok_g (fun g_5 => ?_)
    exact Ok_s (Ag.st (Ag.st (Ag.st (Ag.rf (f := I)) (keyo (L := [(182, 183)]) (M := FwX12_mark_b67) rfl rfl (show inW [(182, 183)] 182 = true from rfl))) (keyo (L := [(183, 184)]) (M := FwX12_mark_b67) rfl rfl (show inW [(183, 184)] 183 = true from rfl))) (keyo (L := [(181, 182)]) (M := FwX12_mark_b67) rfl rfl (show inW [(181, 182)] 181 = true from rfl)))
theorem aX12_mark {σ : Shp} {I : Nat → Nat → Int32} {R : Nat → Nat → Option Nat} {x1 : Int32} {x2 : Int32} {x3 : Int32} : Ok (gX12_mark σ I R x1 x2 x3) (fun r => Ag FwX12_mark I r.1) := by
  unfold gX12_mark
  refine Ok_i (fun g_1 => ?_) (fun _ => ?_)
  · exact Ok_s (Ag.rf (f := I))
  · refine Ok_i (fun g_2 => ?_) (fun _ => ?_)
    · exact Ok_s (Ag.rf (f := I))
    · refine Ok_i (fun g_3 => ?_) (fun _ => ?_)
      · exact Ok_s (Ag.rf (f := I))
      · refine Ok_g (fun g_4 => ?_)
        refine Ok_i (fun g_5 => ?_) (fun _ => ?_)
        · exact Ok_m (aX12_mark_b67) (fun _ hr => (Ag.tr (Ag.rf (f := I)) (Ag.mo rfl hr)))
        · refine Ok_g (fun g_6 => ?_)
          refine Ok_i (fun g_7 => ?_) (fun _ => ?_)
          · exact Ok_m (aX12_mark_b67) (fun _ hr => (Ag.tr (Ag.rf (f := I)) (Ag.mo rfl hr)))
          · exact Ok_s (Ag.rf (f := I))
theorem aX12_unmark {I : Nat → Nat → Int32} {x1 : Int32} : Ok (gX12_unmark I x1) (fun r => Ag FwX12_unmark I r.1) := by
  unfold gX12_unmark
  refine Ok_i (fun g_1 => ?_) (fun _ => ?_)
  · exact Ok_s (Ag.rf (f := I))
  · refine Ok_g (fun g_2 => ?_)
    exact Ok_s (Ag.st (Ag.rf (f := I)) (keyo (L := [(181, 182)]) (M := FwX12_unmark) rfl rfl (show inW [(181, 182)] 181 = true from rfl)))
theorem aX12_steer_b340 {σ : Shp} {J : Nat → Nat → Int64} {R : Nat → Nat → Option Nat} {I : Nat → Nat → Int32} {x1 : Int32} {x2 : Int32} : Ok (gX12_steer_b340 σ J R I x1 x2) (fun r => Ag FwX12_steer_b340 I r) := by
  unfold gX12_steer_b340
  refine Ok_g (fun g_1 => ?_)
  refine Ok_i (fun g_2 => ?_) (fun _ => ?_)
  · refine Ok_g (fun g_3 => ?_)
    refine Ok_i (fun g_4 => ?_) (fun _ => ?_)
    · exact Ok_s (Ag.rf (f := I))
    · refine Ok_i (fun g_5 => ?_) (fun _ => ?_)
      · exact Ok_s (Ag.st (Ag.rf (f := I)) (keyo (L := [(177, 178)]) (M := FwX12_steer_b340) rfl rfl (show inW [(177, 178)] 177 = true from rfl)))
      · exact Ok_s (Ag.st (Ag.rf (f := I)) (keyo (L := [(177, 178)]) (M := FwX12_steer_b340) rfl rfl (show inW [(177, 178)] 177 = true from rfl)))
  · exact Ok_s (Ag.rf (f := I))
theorem aX12_steer_b51 {σ : Shp} {J : Nat → Nat → Int64} {R : Nat → Nat → Option Nat} {I : Nat → Nat → Int32} {x1 : Int32} {x2 : Int32} : Ok (gX12_steer_b51 σ J R I x1 x2) (fun r => Ag FwX12_steer_b51 I r) := by
  unfold gX12_steer_b51
  refine Ok_g (fun g_1 => ?_)
  refine Ok_g (fun g_3 => ?_)
  exact Ok_m (aX12_steer_b340) (fun _ hr => (Ag.tr (Ag.st (Ag.st (Ag.rf (f := I)) (keyo (L := [(177, 178)]) (M := FwX12_steer_b51) rfl rfl (show inW [(177, 178)] 177 = true from rfl))) (keyo (L := [(178, 179)]) (M := FwX12_steer_b51) rfl rfl (show inW [(178, 179)] 178 = true from rfl))) (Ag.mo rfl hr)))
theorem aX12_steer_b233 {σ : Shp} {J : Nat → Nat → Int64} {R : Nat → Nat → Option Nat} {I : Nat → Nat → Int32} {x1 : Int32} {x2 : Int32} {x7 : Int32} {x8 : Int32} {s0 : Int32} : Ok (gX12_steer_b233 σ J R I x1 x2 x7 x8 s0) (fun r => Ag FwX12_steer_b233 I r) := by
  unfold gX12_steer_b233
  refine Ok_i (fun g_1 => ?_) (fun _ => ?_)
  · refine Ok_g (fun g_2 => ?_)
    refine Ok_g (fun g_4 => ?_)
    refine Ok_i (fun g_5 => ?_) (fun _ => ?_)
    · exact Ok_m (aX12_steer_b340) (fun _ hr => (Ag.tr (Ag.st (Ag.st (Ag.rf (f := I)) (keyo (L := [(177, 178)]) (M := FwX12_steer_b233) rfl rfl (show inW [(177, 178)] 177 = true from rfl))) (keyo (L := [(178, 179)]) (M := FwX12_steer_b233) rfl rfl (show inW [(178, 179)] 178 = true from rfl))) (Ag.mo rfl hr)))
    · exact Ok_m (aX12_steer_b340) (fun _ hr => (Ag.tr (Ag.st (Ag.st (Ag.rf (f := I)) (keyo (L := [(177, 178)]) (M := FwX12_steer_b233) rfl rfl (show inW [(177, 178)] 177 = true from rfl))) (keyo (L := [(178, 179)]) (M := FwX12_steer_b233) rfl rfl (show inW [(178, 179)] 178 = true from rfl))) (Ag.mo rfl hr)))
  · refine Ok_g (fun g_8 => ?_)
    refine Ok_g (fun g_10 => ?_)
    refine Ok_i (fun g_11 => ?_) (fun _ => ?_)
    · exact Ok_m (aX12_steer_b340) (fun _ hr => (Ag.tr (Ag.st (Ag.st (Ag.rf (f := I)) (keyo (L := [(178, 179)]) (M := FwX12_steer_b233) rfl rfl (show inW [(178, 179)] 178 = true from rfl))) (keyo (L := [(177, 178)]) (M := FwX12_steer_b233) rfl rfl (show inW [(177, 178)] 177 = true from rfl))) (Ag.mo rfl hr)))
    · exact Ok_m (aX12_steer_b340) (fun _ hr => (Ag.tr (Ag.st (Ag.st (Ag.rf (f := I)) (keyo (L := [(178, 179)]) (M := FwX12_steer_b233) rfl rfl (show inW [(178, 179)] 178 = true from rfl))) (keyo (L := [(177, 178)]) (M := FwX12_steer_b233) rfl rfl (show inW [(177, 178)] 177 = true from rfl))) (Ag.mo rfl hr)))
theorem aX12_steer_b195 {σ : Shp} {J : Nat → Nat → Int64} {R : Nat → Nat → Option Nat} {I : Nat → Nat → Int32} {x1 : Int32} {x2 : Int32} {x7 : Int32} {s0 : Int32} : Ok (gX12_steer_b195 σ J R I x1 x2 x7 s0) (fun r => Ag FwX12_steer_b195 I r) := by
  unfold gX12_steer_b195
  refine Ok_i (fun g_1 => ?_) (fun _ => ?_)
  · refine Ok_g (fun g_2 => ?_)
    refine Ok_i (fun g_3 => ?_) (fun _ => ?_)
    · exact Ok_m (aX12_steer_b233) (fun _ hr => (Ag.tr (Ag.rf (f := I)) (Ag.mo rfl hr)))
    · exact Ok_m (aX12_steer_b233) (fun _ hr => (Ag.tr (Ag.rf (f := I)) (Ag.mo rfl hr)))
  · refine Ok_g (fun g_4 => ?_)
    refine Ok_i (fun g_5 => ?_) (fun _ => ?_)
    · exact Ok_m (aX12_steer_b233) (fun _ hr => (Ag.tr (Ag.rf (f := I)) (Ag.mo rfl hr)))
    · exact Ok_m (aX12_steer_b233) (fun _ hr => (Ag.tr (Ag.rf (f := I)) (Ag.mo rfl hr)))
theorem aX12_steer {σ : Shp} {I : Nat → Nat → Int32} {J : Nat → Nat → Int64} {R : Nat → Nat → Option Nat} {x1 : Int32} : Ok (gX12_steer σ I J R x1) (fun r => Ag FwX12_steer I r) := by
  unfold gX12_steer
  refine Ok_g (fun g_1 => ?_)
  refine Ok_g (fun g_2 => ?_)
  refine Ok_i (fun g_3 => ?_) (fun _ => ?_)
  · exact Ok_s (Ag.st (Ag.rf (f := I)) (keyo (L := [(177, 178)]) (M := FwX12_steer) rfl rfl (show inW [(177, 178)] 177 = true from rfl)))
  · refine Ok_g (fun g_5 => ?_)
    refine Ok_i (fun g_6 => ?_) (fun _ => ?_)
    · exact Ok_m (aX12_steer_b51) (fun _ hr => (Ag.tr (Ag.rf (f := I)) (Ag.mo rfl hr)))
    · refine Ok_g (fun g_7 => ?_)
      refine Ok_i (fun g_8 => ?_) (fun _ => ?_)
      · exact Ok_m (aX12_steer_b51) (fun _ hr => (Ag.tr (Ag.rf (f := I)) (Ag.mo rfl hr)))
      · refine Ok_bc (fun r14 e_9 => ?_)
        refine Ok_g (fun g_10 => ?_)
        refine Ok_t ?_
        intro r18
        refine Ok_g (fun g_11 => ?_)
        refine Ok_i (fun g_13 => ?_) (fun _ => ?_)
        · exact Ok_m (aX12_steer_b195) (fun _ hr => (Ag.tr (Ag.st (Ag.rf (f := I)) (keyo (L := [(179, 180)]) (M := FwX12_steer) rfl rfl (show inW [(179, 180)] 179 = true from rfl))) (Ag.mo rfl hr)))
        · exact Ok_m (aX12_steer_b195) (fun _ hr => (Ag.tr (Ag.st (Ag.rf (f := I)) (keyo (L := [(179, 180)]) (M := FwX12_steer) rfl rfl (show inW [(179, 180)] 179 = true from rfl))) (Ag.mo rfl hr)))
theorem aX12_breathe_b229 {σ : Shp} {R : Nat → Nat → Option Nat} {I : Nat → Nat → Int32} {J : Nat → Nat → Int64} {x1 : Int32} {x2 : Int64} {x4 : Int64} {x6 : Int64} {x8 : Int64} {x10 : Int64} {s0 : Int64} : Ok (gX12_breathe_b229 σ R I J x1 x2 x4 x6 x8 x10 s0) (fun r => Ag FwX12_breathe_b229 I r.1 ∧ Ag FwX12_breathe_b229 J r.2) := by
  unfold gX12_breathe_b229
  refine Ok_g (fun g_1 => ?_)
  refine Ok_g (fun g_3 => ?_)
  refine Ok_g (fun g_5 => ?_)
  refine Ok_g (fun g_7 => ?_)
  refine Ok_g (fun g_9 => ?_)
  refine Ok_g (fun g_11 => ?_)
  refine Ok_g (fun g_13 => ?_)
  exact Ok_s ⟨(Ag.rf (f := I)), (Ag.st (Ag.st (Ag.st (Ag.st (Ag.st (Ag.st (Ag.st (Ag.rf (f := J)) (keyo (L := [(176, 177)]) (M := FwX12_breathe_b229) rfl rfl (show inW [(176, 177)] 176 = true from rfl))) (keyo (L := [(180, 181)]) (M := FwX12_breathe_b229) rfl rfl (show inW [(180, 181)] 180 = true from rfl))) (keyo (L := [(180, 181)]) (M := FwX12_breathe_b229) rfl rfl (show inW [(180, 181)] 180 = true from rfl))) (keyo (L := [(180, 181)]) (M := FwX12_breathe_b229) rfl rfl (show inW [(180, 181)] 180 = true from rfl))) (keyo (L := [(180, 181)]) (M := FwX12_breathe_b229) rfl rfl (show inW [(180, 181)] 180 = true from rfl))) (keyo (L := [(180, 181)]) (M := FwX12_breathe_b229) rfl rfl (show inW [(180, 181)] 180 = true from rfl))) (keyo (L := [(180, 181)]) (M := FwX12_breathe_b229) rfl rfl (show inW [(180, 181)] 180 = true from rfl)))⟩
theorem aX12_breathe_b202 {σ : Shp} {R : Nat → Nat → Option Nat} {I : Nat → Nat → Int32} {J : Nat → Nat → Int64} {x1 : Int32} {x2 : Int64} {x4 : Int64} {x6 : Int64} {x8 : Int64} {x10 : Int64} {s0 : Int64} : Ok (gX12_breathe_b202 σ R I J x1 x2 x4 x6 x8 x10 s0) (fun r => Ag FwX12_breathe_b202 I r.1 ∧ Ag FwX12_breathe_b202 J r.2) := by
  unfold gX12_breathe_b202
  refine Ok_g (fun g_1 => ?_)
  refine Ok_i (fun g_2 => ?_) (fun _ => ?_)
  · exact Ok_m (aX12_breathe_b229) (fun _ ⟨h0, h1⟩ => ⟨(Ag.tr (Ag.rf (f := I)) (Ag.mo rfl h0)), (Ag.tr (Ag.rf (f := J)) (Ag.mo rfl h1))⟩)
  · exact Ok_m (aX12_breathe_b229) (fun _ ⟨h0, h1⟩ => ⟨(Ag.tr (Ag.rf (f := I)) (Ag.mo rfl h0)), (Ag.tr (Ag.rf (f := J)) (Ag.mo rfl h1))⟩)
theorem aX12_breathe_b142 {σ : Shp} {R : Nat → Nat → Option Nat} {I : Nat → Nat → Int32} {J : Nat → Nat → Int64} {x1 : Int32} {x2 : Int64} {x4 : Int64} {x6 : Int64} {x8 : Int64} {s0 : Int64} : Ok (gX12_breathe_b142 σ R I J x1 x2 x4 x6 x8 s0) (fun r => Ag FwX12_breathe_b142 I r.1 ∧ Ag FwX12_breathe_b142 J r.2) := by
  unfold gX12_breathe_b142
  refine Ok_g (fun g_1 => ?_)
  refine Ok_g (fun g_3 => ?_)
  refine Ok_i (fun g_4 => ?_) (fun _ => ?_)
  · refine Ok_i (fun g_5 => ?_) (fun _ => ?_)
    · exact Ok_m (aX12_breathe_b202) (fun _ ⟨h0, h1⟩ => ⟨(Ag.tr (Ag.rf (f := I)) (Ag.mo rfl h0)), (Ag.tr (Ag.st (Ag.rf (f := J)) (keyo (L := [(176, 177)]) (M := FwX12_breathe_b142) rfl rfl (show inW [(176, 177)] 176 = true from rfl))) (Ag.mo rfl h1))⟩)
    · exact Ok_m (aX12_breathe_b202) (fun _ ⟨h0, h1⟩ => ⟨(Ag.tr (Ag.rf (f := I)) (Ag.mo rfl h0)), (Ag.tr (Ag.st (Ag.rf (f := J)) (keyo (L := [(176, 177)]) (M := FwX12_breathe_b142) rfl rfl (show inW [(176, 177)] 176 = true from rfl))) (Ag.mo rfl h1))⟩)
  · refine Ok_g (fun g_6 => ?_)
    refine Ok_b (aX12_valueOf) ?_
    intro rr hr
    obtain ⟨I18, r19⟩ := rr
    have h_7 := hr
    have m_8 : Ag FwX12_breathe_b142 I I18 := Ag.tr (Ag.rf (f := I)) (Ag.mo rfl h_7)
    refine Ok_i (fun g_9 => ?_) (fun _ => ?_)
    · exact Ok_m (aX12_breathe_b202) (fun _ ⟨h0, h1⟩ => ⟨(Ag.tr m_8 (Ag.mo rfl h0)), (Ag.tr (Ag.st (Ag.rf (f := J)) (keyo (L := [(176, 177)]) (M := FwX12_breathe_b142) rfl rfl (show inW [(176, 177)] 176 = true from rfl))) (Ag.mo rfl h1))⟩)
    · exact Ok_m (aX12_breathe_b202) (fun _ ⟨h0, h1⟩ => ⟨(Ag.tr m_8 (Ag.mo rfl h0)), (Ag.tr (Ag.st (Ag.rf (f := J)) (keyo (L := [(176, 177)]) (M := FwX12_breathe_b142) rfl rfl (show inW [(176, 177)] 176 = true from rfl))) (Ag.mo rfl h1))⟩)
theorem aX12_breathe {σ : Shp} {I : Nat → Nat → Int32} {J : Nat → Nat → Int64} {R : Nat → Nat → Option Nat} {x1 : Int32} : Ok (gX12_breathe σ I J R x1) (fun r => Ag FwX12_breathe I r.1 ∧ Ag FwX12_breathe J r.2) := by
  unfold gX12_breathe
  refine Ok_g (fun g_1 => ?_)
  refine Ok_g (fun g_2 => ?_)
  refine Ok_g (fun g_3 => ?_)
  refine Ok_g (fun g_4 => ?_)
  refine Ok_g (fun g_5 => ?_)
  refine Ok_g (fun g_7 => ?_)
  refine Ok_g (fun g_8 => ?_)
  refine Ok_i (fun g_10 => ?_) (fun _ => ?_)
  · exact Ok_m (aX12_breathe_b142) (fun _ ⟨h0, h1⟩ => ⟨(Ag.tr (Ag.rf (f := I)) (Ag.mo rfl h0)), (Ag.tr (Ag.st (Ag.st (Ag.rf (f := J)) (keyo (L := [(175, 176)]) (M := FwX12_breathe) rfl rfl (show inW [(175, 176)] 175 = true from rfl))) (keyo (L := [(176, 177)]) (M := FwX12_breathe) rfl rfl (show inW [(176, 177)] 176 = true from rfl))) (Ag.mo rfl h1))⟩)
  · exact Ok_m (aX12_breathe_b142) (fun _ ⟨h0, h1⟩ => ⟨(Ag.tr (Ag.rf (f := I)) (Ag.mo rfl h0)), (Ag.tr (Ag.st (Ag.st (Ag.rf (f := J)) (keyo (L := [(175, 176)]) (M := FwX12_breathe) rfl rfl (show inW [(175, 176)] 175 = true from rfl))) (keyo (L := [(176, 177)]) (M := FwX12_breathe) rfl rfl (show inW [(176, 177)] 176 = true from rfl))) (Ag.mo rfl h1))⟩)
theorem aX12_minute_l47 {q30 : (Nat → Nat → Int32) → (Nat → Nat → Int64) → (Int32) → (Int32) → (Option ((Nat → Nat → Int32) × (Nat → Nat → Int64) × (Int32)))} {σ : Shp} {D : Nat → Nat → UInt64} {R : Nat → Nat → Option Nat} (hq30 : ∀ (I : Nat → Nat → Int32) (J : Nat → Nat → Int64) (x1 : Int32) (x2 : Int32), Ok (q30 I J x1 x2) (fun r => Ag FwX12_minute_l30 I r.1 ∧ Ag FwX12_minute_l30 J r.2.1)) : ∀ (n : Nat) (I : Nat → Nat → Int32) (J : Nat → Nat → Int64) (x1 : Int32) (x2 : Int32) (x3 : Int32), Ok (gX12_minute_l47 q30 σ D R n I J x1 x2 x3) (fun r => Ag FwX12_minute_l47 I r.1 ∧ Ag FwX12_minute_l47 J r.2.1) := by
  intro n
  induction n with
  | zero => intro I J x1 x2 x3; exact Ok_e rfl
  | succ n ih =>
    intro I J x1 x2 x3
    rw [gX12_minute_l47]
    refine Ok_i (fun g_1 => ?_) (fun _ => ?_)
    · exact Ok_m (hq30 _ _ _ _) (fun _ ⟨h0, h1⟩ => ⟨(Ag.tr (Ag.rf (f := I)) (Ag.mo rfl h0)), (Ag.tr (Ag.rf (f := J)) (Ag.mo rfl h1))⟩)
    · refine Ok_b (aX12_vote) ?_
      intro rr hr
      obtain ⟨I3, J4⟩ := rr
      obtain ⟨h_2, h_3⟩ := hr
      have m_4 : Ag FwX12_minute_l47 I I3 := Ag.tr (Ag.rf (f := I)) (Ag.mo rfl h_2)
      have m_5 : Ag FwX12_minute_l47 J J4 := Ag.tr (Ag.rf (f := J)) (Ag.mo rfl h_3)
      refine Ok_b (aX12_steer) ?_
      intro I6 hr
      have h_6 := hr
      have m_7 : Ag FwX12_minute_l47 I I6 := Ag.tr m_4 (Ag.mo rfl h_6)
      refine Ok_b (aX12_breathe) ?_
      intro rr hr
      obtain ⟨I8, J9⟩ := rr
      obtain ⟨h_8, h_9⟩ := hr
      have m_10 : Ag FwX12_minute_l47 I I8 := Ag.tr m_7 (Ag.mo rfl h_8)
      have m_11 : Ag FwX12_minute_l47 J J9 := Ag.tr m_5 (Ag.mo rfl h_9)
      exact Ok_m (ih _ _ _ _ _) (fun _ ⟨h0, h1⟩ => ⟨(Ag.tr m_10 (Ag.mo rfl h0)), (Ag.tr m_11 (Ag.mo rfl h1))⟩)
theorem aX12_minute_l30 {σ : Shp} {D : Nat → Nat → UInt64} {R : Nat → Nat → Option Nat} : ∀ (n : Nat) (I : Nat → Nat → Int32) (J : Nat → Nat → Int64) (x1 : Int32) (x2 : Int32), Ok (gX12_minute_l30 σ D R n I J x1 x2) (fun r => Ag FwX12_minute_l30 I r.1 ∧ Ag FwX12_minute_l30 J r.2.1) := by
  intro n
  induction n with
  | zero => intro I J x1 x2; exact Ok_e rfl
  | succ n ih =>
    intro I J x1 x2
    rw [gX12_minute_l30]
    refine Ok_i (fun g_1 => ?_) (fun _ => ?_)
    · exact Ok_s ⟨(Ag.rf (f := I)), (Ag.rf (f := J))⟩
    · exact Ok_m (aX12_minute_l47 ih _ _ _ _ _ _) (fun _ ⟨h0, h1⟩ => ⟨(Ag.tr (Ag.st (Ag.rf (f := I)) (show inW FwX12_minute_l30 (key 114 85) = true from rfl)) (Ag.mo rfl h0)), (Ag.tr (Ag.rf (f := J)) (Ag.mo rfl h1))⟩)
theorem aX12_minute {σ : Shp} {I : Nat → Nat → Int32} {J : Nat → Nat → Int64} {D : Nat → Nat → UInt64} {R : Nat → Nat → Option Nat} {x1 : Int32} : Ok (gX12_minute σ I J D R x1) (fun r => Ag FwX12_minute I r.1 ∧ Ag FwX12_minute J r.2.1) := by
  unfold gX12_minute
  refine Ok_i (fun g_1 => ?_) (fun _ => ?_)
  · exact Ok_s ⟨(Ag.rf (f := I)), (Ag.rf (f := J))⟩
  · refine Ok_i (fun g_2 => ?_) (fun _ => ?_)
    · exact Ok_m (aX12_minute_l30  _ _ _ _ _) (fun _ ⟨h0, h1⟩ => ⟨(Ag.tr (Ag.rf (f := I)) (Ag.mo rfl h0)), (Ag.tr (Ag.rf (f := J)) (Ag.mo rfl h1))⟩)
    · exact Ok_s ⟨(Ag.rf (f := I)), (Ag.rf (f := J))⟩
theorem aX12_partWhole_l111 {q98 : (Nat → Nat → Int64) → (Int32) → (Int64) → (Option ((Nat → Nat → Int64)))} {σ : Shp} {R : Nat → Nat → Option Nat} (hq98 : ∀ (J : Nat → Nat → Int64) (x3 : Int32) (x6 : Int64), Ok (q98 J x3 x6) (fun r => Ag FwX12_partWhole_l98 J r)) : ∀ (n : Nat) (J : Nat → Nat → Int64) (x3 : Int32) (x6 : Int64) (x8 : Int32) (x9 : Int32), Ok (gX12_partWhole_l111 q98 σ R n J x3 x6 x8 x9) (fun r => Ag FwX12_partWhole_l111 J r) := by
  intro n
  induction n with
  | zero => intro J x3 x6 x8 x9; exact Ok_e rfl
  | succ n ih =>
    intro J x3 x6 x8 x9
    rw [gX12_partWhole_l111]
    refine Ok_i (fun g_1 => ?_) (fun _ => ?_)
    · refine Ok_g (fun g_2 => ?_)
      refine Ok_g (fun g_4 => ?_)
      exact Ok_m (hq98 _ _ _) (fun _ hr => (Ag.tr (Ag.st (Ag.st (Ag.rf (f := J)) (keyo (L := [(184, 185)]) (M := FwX12_partWhole_l111) rfl rfl (show inW [(184, 185)] 184 = true from rfl))) (keyo (L := [(185, 186)]) (M := FwX12_partWhole_l111) rfl rfl (show inW [(185, 186)] 185 = true from rfl))) (Ag.mo rfl hr)))
    · refine Ok_g (fun g_6 => ?_)
      refine Ok_g (fun g_7 => ?_)
      refine Ok_i (fun g_8 => ?_) (fun _ => ?_)
      · exact Ok_m (ih _ _ _ _ _) (fun _ hr => (Ag.tr (Ag.rf (f := J)) (Ag.mo rfl hr)))
      · exact Ok_m (ih _ _ _ _ _) (fun _ hr => (Ag.tr (Ag.rf (f := J)) (Ag.mo rfl hr)))
theorem aX12_partWhole_l98 {σ : Shp} {R : Nat → Nat → Option Nat} : ∀ (n : Nat) (J : Nat → Nat → Int64) (x3 : Int32) (x6 : Int64), Ok (gX12_partWhole_l98 σ R n J x3 x6) (fun r => Ag FwX12_partWhole_l98 J r) := by
  intro n
  induction n with
  | zero => intro J x3 x6; exact Ok_e rfl
  | succ n ih =>
    intro J x3 x6
    rw [gX12_partWhole_l98]
    refine Ok_i (fun g_1 => ?_) (fun _ => ?_)
    · exact Ok_s (Ag.rf (f := J))
    · exact Ok_m (aX12_partWhole_l111 ih _ _ _ _ _ _) (fun _ hr => (Ag.tr (Ag.rf (f := J)) (Ag.mo rfl hr)))
theorem aX12_partWhole_l36 {σ : Shp} {R : Nat → Nat → Option Nat} : ∀ (n : Nat) (J : Nat → Nat → Int64) (x1 : Int64) (x3 : Int32) (x4 : Int64) (x6 : Int64) (x8 : Int32), Ok (gX12_partWhole_l36 σ R n J x1 x3 x4 x6 x8) (fun r => Ag FwX12_partWhole_l36 J r) := by
  intro n
  induction n with
  | zero => intro J x1 x3 x4 x6 x8; exact Ok_e rfl
  | succ n ih =>
    intro J x1 x3 x4 x6 x8
    rw [gX12_partWhole_l36]
    refine Ok_i (fun g_1 => ?_) (fun _ => ?_)
    · exact Ok_m (aX12_partWhole_l98  _ _ _ _) (fun _ hr => (Ag.tr (Ag.rf (f := J)) (Ag.mo rfl hr)))
    · refine Ok_g (fun g_2 => ?_)
      refine Ok_g (fun g_3 => ?_)
      refine Ok_g (fun g_4 => ?_)
      refine Ok_g (fun g_6 => ?_)
      exact Ok_m (ih _ _ _ _ _ _) (fun _ hr => (Ag.tr (Ag.st (Ag.st (Ag.rf (f := J)) (keyo (L := [(184, 185)]) (M := FwX12_partWhole_l36) rfl rfl (show inW [(184, 185)] 184 = true from rfl))) (keyo (L := [(185, 186)]) (M := FwX12_partWhole_l36) rfl rfl (show inW [(185, 186)] 185 = true from rfl))) (Ag.mo rfl hr)))
theorem aX12_partWhole_l6 {σ : Shp} {R : Nat → Nat → Option Nat} : ∀ (n : Nat) (J : Nat → Nat → Int64) (x1 : Int64) (x3 : Int32) (x4 : Int64) (x6 : Int32), Ok (gX12_partWhole_l6 σ R n J x1 x3 x4 x6) (fun r => Ag FwX12_partWhole_l6 J r) := by
  intro n
  induction n with
  | zero => intro J x1 x3 x4 x6; exact Ok_e rfl
  | succ n ih =>
    intro J x1 x3 x4 x6
    rw [gX12_partWhole_l6]
    refine Ok_i (fun g_1 => ?_) (fun _ => ?_)
    · exact Ok_m (aX12_partWhole_l36  _ _ _ _ _ _ _) (fun _ hr => (Ag.tr (Ag.rf (f := J)) (Ag.mo rfl hr)))
    · refine Ok_g (fun g_2 => ?_)
      exact Ok_m (ih _ _ _ _ _) (fun _ hr => (Ag.tr (Ag.rf (f := J)) (Ag.mo rfl hr)))
theorem aX12_partWhole {σ : Shp} {J : Nat → Nat → Int64} {R : Nat → Nat → Option Nat} {x1 : Int64} {x3 : Int32} : Ok (gX12_partWhole σ J R x1 x3) (fun r => Ag FwX12_partWhole J r) := by
  unfold gX12_partWhole
  exact Ok_m (aX12_partWhole_l6  _ _ _ _ _ _) (fun _ hr => (Ag.tr (Ag.rf (f := J)) (Ag.mo rfl hr)))
theorem aX12_shares_l207 {σ : Shp} {R : Nat → Nat → Option Nat} : ∀ (n : Nat) (I : Nat → Nat → Int32) (J : Nat → Nat → Int64) (x3 : Int32) (x4 : Int32) (x8 : Int32) (x9 : Int32), Ok (gX12_shares_l207 σ R n I J x3 x4 x8 x9) (fun r => Ag FwX12_shares_l207 I r.1 ∧ Ag FwX12_shares_l207 J r.2.1) := by
  intro n
  induction n with
  | zero => intro I J x3 x4 x8 x9; exact Ok_e rfl
  | succ n ih =>
    intro I J x3 x4 x8 x9
    rw [gX12_shares_l207]
    refine Ok_g (fun g_1 => ?_)
    refine Ok_i (fun g_2 => ?_) (fun _ => ?_)
    · refine Ok_g (fun g_3 => ?_)
      exact Ok_s ⟨(Ag.st (Ag.rf (f := I)) (keyo (L := [(115, 116)]) (M := FwX12_shares_l207) rfl rfl (show inW [(115, 116)] 115 = true from rfl))), (Ag.rf (f := J))⟩
    · refine Ok_g (fun g_5 => ?_)
      refine Ok_g (fun g_6 => ?_)
      refine Ok_g (fun g_7 => ?_)
      exact Ok_m (ih _ _ _ _ _ _) (fun _ ⟨h0, h1⟩ => ⟨(Ag.tr (Ag.rf (f := I)) (Ag.mo rfl h0)), (Ag.tr (Ag.st (Ag.rf (f := J)) (keyo (L := [(119, 120)]) (M := FwX12_shares_l207) rfl rfl (show inW [(119, 120)] 119 = true from rfl))) (Ag.mo rfl h1))⟩)
theorem aX12_shares_l76 {σ : Shp} {R : Nat → Nat → Option Nat} : ∀ (n : Nat) (I : Nat → Nat → Int32) (J : Nat → Nat → Int64) (x2 : Int32) (x3 : Int32) (x4 : Int32) (x5 : Int32) (x6 : Int64) (x8 : Int32), Ok (gX12_shares_l76 σ R n I J x2 x3 x4 x5 x6 x8) (fun r => Ag FwX12_shares_l76 I r.1 ∧ Ag FwX12_shares_l76 J r.2.1) := by
  intro n
  induction n with
  | zero => intro I J x2 x3 x4 x5 x6 x8; exact Ok_e rfl
  | succ n ih =>
    intro I J x2 x3 x4 x5 x6 x8
    rw [gX12_shares_l76]
    refine Ok_g (fun g_1 => ?_)
    refine Ok_i (fun g_2 => ?_) (fun _ => ?_)
    · refine Ok_i (fun g_3 => ?_) (fun _ => ?_)
      · exact Ok_s ⟨(Ag.rf (f := I)), (Ag.rf (f := J))⟩
      · refine Ok_i (fun g_4 => ?_) (fun _ => ?_)
        · exact Ok_s ⟨(Ag.rf (f := I)), (Ag.rf (f := J))⟩
        · refine Ok_t ?_
          intro r11
          refine Ok_i (fun g_5 => ?_) (fun _ => ?_)
          · refine Ok_b (aX12_partWhole) ?_
            intro J13 hr
            have h_6 := hr
            have m_7 : Ag FwX12_shares_l76 J J13 := Ag.tr (Ag.rf (f := J)) (Ag.mo rfl h_6)
            refine Ok_b (aX12_newRow) ?_
            intro rr hr
            obtain ⟨I15, r16⟩ := rr
            have h_8 := hr
            have m_9 : Ag FwX12_shares_l76 I I15 := Ag.tr (Ag.rf (f := I)) (Ag.mo rfl h_8)
            exact Ok_m (aX12_shares_l207  _ _ _ _ _ _ _) (fun _ ⟨h0, h1⟩ => ⟨(Ag.tr m_9 (Ag.mo rfl h0)), (Ag.tr m_7 (Ag.mo rfl h1))⟩)
          · exact Ok_s ⟨(Ag.rf (f := I)), (Ag.rf (f := J))⟩
    · refine Ok_g (fun g_10 => ?_)
      refine Ok_g (fun g_11 => ?_)
      refine Ok_g (fun g_12 => ?_)
      refine Ok_i (fun g_14 => ?_) (fun _ => ?_)
      · exact Ok_m (ih _ _ _ _ _ _ _ _) (fun _ ⟨h0, h1⟩ => ⟨(Ag.tr (Ag.rf (f := I)) (Ag.mo rfl h0)), (Ag.tr (Ag.st (Ag.rf (f := J)) (keyo (L := [(186, 187)]) (M := FwX12_shares_l76) rfl rfl (show inW [(186, 187)] 186 = true from rfl))) (Ag.mo rfl h1))⟩)
      · refine Ok_i (fun g_15 => ?_) (fun _ => ?_)
        · exact Ok_m (ih _ _ _ _ _ _ _ _) (fun _ ⟨h0, h1⟩ => ⟨(Ag.tr (Ag.rf (f := I)) (Ag.mo rfl h0)), (Ag.tr (Ag.st (Ag.rf (f := J)) (keyo (L := [(186, 187)]) (M := FwX12_shares_l76) rfl rfl (show inW [(186, 187)] 186 = true from rfl))) (Ag.mo rfl h1))⟩)
        · exact Ok_m (ih _ _ _ _ _ _ _ _) (fun _ ⟨h0, h1⟩ => ⟨(Ag.tr (Ag.rf (f := I)) (Ag.mo rfl h0)), (Ag.tr (Ag.st (Ag.rf (f := J)) (keyo (L := [(186, 187)]) (M := FwX12_shares_l76) rfl rfl (show inW [(186, 187)] 186 = true from rfl))) (Ag.mo rfl h1))⟩)
theorem aX12_shares {σ : Shp} {I : Nat → Nat → Int32} {J : Nat → Nat → Int64} {R : Nat → Nat → Option Nat} {x1 : Int32} {x2 : Int32} {x3 : Int32} : Ok (gX12_shares σ I J R x1 x2 x3) (fun r => Ag FwX12_shares I r.1 ∧ Ag FwX12_shares J r.2.1) := by
  unfold gX12_shares
  refine Ok_i (fun g_1 => ?_) (fun _ => ?_)
  · exact Ok_s ⟨(Ag.rf (f := I)), (Ag.rf (f := J))⟩
  · refine Ok_i (fun g_2 => ?_) (fun _ => ?_)
    · exact Ok_s ⟨(Ag.rf (f := I)), (Ag.rf (f := J))⟩
    · refine Ok_i (fun g_3 => ?_) (fun _ => ?_)
      · exact Ok_s ⟨(Ag.rf (f := I)), (Ag.rf (f := J))⟩
      · refine Ok_g (fun g_4 => ?_)
        refine Ok_i (fun g_5 => ?_) (fun _ => ?_)
        · refine Ok_i (fun g_6 => ?_) (fun _ => ?_)
          · refine Ok_b (aX12_no) ?_
            intro rr hr
            obtain ⟨I6, r7⟩ := rr
            have h_7 := hr
            have m_8 : Ag FwX12_shares I I6 := Ag.tr (Ag.rf (f := I)) (Ag.mo rfl h_7)
            exact Ok_s ⟨m_8, (Ag.rf (f := J))⟩
          · refine Ok_b (aX12_no) ?_
            intro rr hr
            obtain ⟨I3, r4⟩ := rr
            have h_9 := hr
            have m_10 : Ag FwX12_shares I I3 := Ag.tr (Ag.rf (f := I)) (Ag.mo rfl h_9)
            exact Ok_s ⟨m_10, (Ag.rf (f := J))⟩
        · refine Ok_g (fun g_11 => ?_)
          refine Ok_i (fun g_12 => ?_) (fun _ => ?_)
          · exact Ok_m (aX12_shares_l76  _ _ _ _ _ _ _ _ _) (fun _ ⟨h0, h1⟩ => ⟨(Ag.tr (Ag.rf (f := I)) (Ag.mo rfl h0)), (Ag.tr (Ag.rf (f := J)) (Ag.mo rfl h1))⟩)
          · refine Ok_i (fun g_13 => ?_) (fun _ => ?_)
            · refine Ok_b (aX12_no) ?_
              intro rr hr
              obtain ⟨I39, r40⟩ := rr
              have h_14 := hr
              have m_15 : Ag FwX12_shares I I39 := Ag.tr (Ag.rf (f := I)) (Ag.mo rfl h_14)
              exact Ok_s ⟨m_15, (Ag.rf (f := J))⟩
            · refine Ok_b (aX12_no) ?_
              intro rr hr
              obtain ⟨I36, r37⟩ := rr
              have h_16 := hr
              have m_17 : Ag FwX12_shares I I36 := Ag.tr (Ag.rf (f := I)) (Ag.mo rfl h_16)
              exact Ok_s ⟨m_17, (Ag.rf (f := J))⟩
theorem aX12_quotient {I : Nat → Nat → Int32} {x1 : Int32} {x2 : Int64} {x4 : Int64} {x6 : Int32} : Ok (gX12_quotient I x1 x2 x4 x6) (fun r => Ag FwX12_quotient I r.1) := by
  unfold gX12_quotient
  refine Ok_i (fun g_1 => ?_) (fun _ => ?_)
  · exact Ok_s (Ag.rf (f := I))
  · refine Ok_i (fun g_2 => ?_) (fun _ => ?_)
    · exact Ok_s (Ag.rf (f := I))
    · refine Ok_i (fun g_3 => ?_) (fun _ => ?_)
      · refine Ok_i (fun g_4 => ?_) (fun _ => ?_)
        · refine Ok_b (aX12_noBits) ?_
          intro rr hr
          obtain ⟨I10, r11⟩ := rr
          have h_5 := hr
          have m_6 : Ag FwX12_quotient I I10 := Ag.tr (Ag.rf (f := I)) (Ag.mo rfl h_5)
          exact Ok_s m_6
        · refine Ok_i (fun g_7 => ?_) (fun _ => ?_)
          · refine Ok_g (fun g_8 => ?_)
            exact Ok_s (Ag.rf (f := I))
          · refine Ok_g (fun g_9 => ?_)
            exact Ok_s (Ag.rf (f := I))
      · refine Ok_i (fun g_10 => ?_) (fun _ => ?_)
        · refine Ok_b (aX12_noBits) ?_
          intro rr hr
          obtain ⟨I3, r4⟩ := rr
          have h_11 := hr
          have m_12 : Ag FwX12_quotient I I3 := Ag.tr (Ag.rf (f := I)) (Ag.mo rfl h_11)
          exact Ok_s m_12
        · refine Ok_i (fun g_13 => ?_) (fun _ => ?_)
          · refine Ok_g (fun g_14 => ?_)
            exact Ok_s (Ag.rf (f := I))
          · refine Ok_g (fun g_15 => ?_)
            exact Ok_s (Ag.rf (f := I))
theorem aX12_compare_b97 {σ : Shp} {J : Nat → Nat → Int64} {R : Nat → Nat → Option Nat} {I : Nat → Nat → Int32} {x1 : Int32} {x3 : Int32} {x5 : Int32} {x6 : Int32} {x7 : Int32} {s0 : Int32} : Ok (gX12_compare_b97 σ J R I x1 x3 x5 x6 x7 s0) (fun r => Ag FwX12_compare_b97 I r.1) := by
  unfold gX12_compare_b97
  refine Ok_i (fun g_1 => ?_) (fun _ => ?_)
  · refine Ok_g (fun g_2 => ?_)
    refine Ok_g (fun g_3 => ?_)
    refine Ok_bc (fun r9 e_4 => ?_)
    refine Ok_g (fun g_5 => ?_)
    refine Ok_g (fun g_6 => ?_)
    refine Ok_bc (fun r13 e_7 => ?_)
    refine Ok_i (fun g_8 => ?_) (fun _ => ?_)
    · refine Ok_i (fun g_9 => ?_) (fun _ => ?_)
      · refine Ok_i (fun g_10 => ?_) (fun _ => ?_)
        · exact Ok_s (Ag.rf (f := I))
        · exact Ok_s (Ag.rf (f := I))
      · exact Ok_s (Ag.rf (f := I))
    · exact Ok_s (Ag.rf (f := I))
  · refine Ok_b (aX12_no) ?_
    intro rr hr
    obtain ⟨I15, r16⟩ := rr
    have h_11 := hr
    have m_12 : Ag FwX12_compare_b97 I I15 := Ag.tr (Ag.rf (f := I)) (Ag.mo rfl h_11)
    exact Ok_s m_12
theorem aX12_compare {σ : Shp} {I : Nat → Nat → Int32} {J : Nat → Nat → Int64} {R : Nat → Nat → Option Nat} {x1 : Int32} {x2 : Int32} {x3 : Int32} {x4 : Int32} {x5 : Int32} : Ok (gX12_compare σ I J R x1 x2 x3 x4 x5) (fun r => Ag FwX12_compare I r.1) := by
  unfold gX12_compare
  refine Ok_i (fun g_1 => ?_) (fun _ => ?_)
  · exact Ok_s (Ag.rf (f := I))
  · refine Ok_i (fun g_2 => ?_) (fun _ => ?_)
    · exact Ok_s (Ag.rf (f := I))
    · refine Ok_i (fun g_3 => ?_) (fun _ => ?_)
      · exact Ok_s (Ag.rf (f := I))
      · refine Ok_g (fun g_4 => ?_)
        refine Ok_g (fun g_5 => ?_)
        refine Ok_t ?_
        intro r5
        refine Ok_i (fun g_6 => ?_) (fun _ => ?_)
        · refine Ok_i (fun g_7 => ?_) (fun _ => ?_)
          · refine Ok_t ?_
            intro r18
            exact Ok_m (aX12_compare_b97) (fun _ hr => (Ag.tr (Ag.rf (f := I)) (Ag.mo rfl hr)))
          · exact Ok_m (aX12_compare_b97) (fun _ hr => (Ag.tr (Ag.rf (f := I)) (Ag.mo rfl hr)))
        · refine Ok_t ?_
          intro r20
          refine Ok_i (fun g_8 => ?_) (fun _ => ?_)
          · refine Ok_i (fun g_9 => ?_) (fun _ => ?_)
            · refine Ok_t ?_
              intro r22
              exact Ok_m (aX12_compare_b97) (fun _ hr => (Ag.tr (Ag.rf (f := I)) (Ag.mo rfl hr)))
            · exact Ok_m (aX12_compare_b97) (fun _ hr => (Ag.tr (Ag.rf (f := I)) (Ag.mo rfl hr)))
          · refine Ok_t ?_
            intro r24
            refine Ok_i (fun g_10 => ?_) (fun _ => ?_)
            · refine Ok_t ?_
              intro r26
              exact Ok_m (aX12_compare_b97) (fun _ hr => (Ag.tr (Ag.rf (f := I)) (Ag.mo rfl hr)))
            · exact Ok_m (aX12_compare_b97) (fun _ hr => (Ag.tr (Ag.rf (f := I)) (Ag.mo rfl hr)))
theorem aX12_parted_l38 {σ : Shp} : ∀ (n : Nat) (I : Nat → Nat → Int32) (J : Nat → Nat → Int64) (x3 : Int32) (x4 : UInt64), Ok (gX12_parted_l38 σ n I J x3 x4) (fun r => Ag FwX12_parted_l38 I r.1 ∧ Ag FwX12_parted_l38 J r.2) := by
  intro n
  induction n with
  | zero => intro I J x3 x4; exact Ok_e rfl
  | succ n ih =>
    intro I J x3 x4
    rw [gX12_parted_l38]
    refine Ok_i (fun g_1 => ?_) (fun _ => ?_)
    · exact Ok_s ⟨(Ag.rf (f := I)), (Ag.st (Ag.rf (f := J)) (show inW FwX12_parted_l38 (key 114 133) = true from rfl))⟩
    · refine Ok_i (fun g_3 => ?_) (fun _ => ?_)
      · exact Ok_s ⟨(Ag.rf (f := I)), (Ag.st (Ag.rf (f := J)) (show inW FwX12_parted_l38 (key 114 133) = true from rfl))⟩
      · refine Ok_g (fun g_5 => ?_)
        exact Ok_m (ih _ _ _ _) (fun _ ⟨h0, h1⟩ => ⟨(Ag.tr (Ag.st (Ag.rf (f := I)) (show inW FwX12_parted_l38 (key 114 134) = true from rfl)) (Ag.mo rfl h0)), (Ag.tr (Ag.rf (f := J)) (Ag.mo rfl h1))⟩)
theorem aX12_parted_l8 {σ : Shp} : ∀ (n : Nat) (I : Nat → Nat → Int32) (J : Nat → Nat → Int64) (x3 : Int32) (x4 : UInt64), Ok (gX12_parted_l8 σ n I J x3 x4) (fun r => Ag FwX12_parted_l8 I r.1 ∧ Ag FwX12_parted_l8 J r.2) := by
  intro n
  induction n with
  | zero => intro I J x3 x4; exact Ok_e rfl
  | succ n ih =>
    intro I J x3 x4
    rw [gX12_parted_l8]
    refine Ok_i (fun g_1 => ?_) (fun _ => ?_)
    · exact Ok_m (aX12_parted_l38  _ _ _ _ _) (fun _ ⟨h0, h1⟩ => ⟨(Ag.tr (Ag.rf (f := I)) (Ag.mo rfl h0)), (Ag.tr (Ag.rf (f := J)) (Ag.mo rfl h1))⟩)
    · refine Ok_g (fun g_2 => ?_)
      exact Ok_m (ih _ _ _ _) (fun _ ⟨h0, h1⟩ => ⟨(Ag.tr (Ag.st (Ag.rf (f := I)) (show inW FwX12_parted_l8 (key 114 134) = true from rfl)) (Ag.mo rfl h0)), (Ag.tr (Ag.rf (f := J)) (Ag.mo rfl h1))⟩)
theorem aX12_parted {σ : Shp} {I : Nat → Nat → Int32} {J : Nat → Nat → Int64} {x1 : UInt64} {x3 : Int32} : Ok (gX12_parted σ I J x1 x3) (fun r => Ag FwX12_parted I r.1 ∧ Ag FwX12_parted J r.2) := by
  unfold gX12_parted
  exact Ok_m (aX12_parted_l8  _ _ _ _ _) (fun _ ⟨h0, h1⟩ => ⟨(Ag.tr (Ag.st (Ag.rf (f := I)) (show inW FwX12_parted (key 114 134) = true from rfl)) (Ag.mo rfl h0)), (Ag.tr (Ag.rf (f := J)) (Ag.mo rfl h1))⟩)
theorem aX12_bits_b57 {σ : Shp} {I : Nat → Nat → Int32} {J : Nat → Nat → Int64} {x3 : Int32} {x4 : UInt64} {x6 : Int64} : Ok (gX12_bits_b57 σ I J x3 x4 x6) (fun r => Ag FwX12_bits_b57 I r.1 ∧ Ag FwX12_bits_b57 J r.2.1) := by
  unfold gX12_bits_b57
  refine Ok_i (fun g_1 => ?_) (fun _ => ?_)
  · refine Ok_i (fun g_2 => ?_) (fun _ => ?_)
    · exact Ok_s ⟨(Ag.rf (f := I)), (Ag.rf (f := J))⟩
    · exact Ok_s ⟨(Ag.rf (f := I)), (Ag.rf (f := J))⟩
  · refine Ok_b (aX12_parted) ?_
    intro rr hr
    obtain ⟨I3, J4⟩ := rr
    obtain ⟨h_3, h_4⟩ := hr
    have m_5 : Ag FwX12_bits_b57 I I3 := Ag.tr (Ag.rf (f := I)) (Ag.mo rfl h_3)
    have m_6 : Ag FwX12_bits_b57 J J4 := Ag.tr (Ag.rf (f := J)) (Ag.mo rfl h_4)
    refine Ok_i (fun g_7 => ?_) (fun _ => ?_)
    · refine Ok_i (fun g_8 => ?_) (fun _ => ?_)
      · exact Ok_s ⟨m_5, m_6⟩
      · exact Ok_s ⟨m_5, m_6⟩
    · refine Ok_i (fun g_9 => ?_) (fun _ => ?_)
      · exact Ok_s ⟨m_5, m_6⟩
      · exact Ok_s ⟨m_5, m_6⟩
theorem aX12_bits_b25 {σ : Shp} {I : Nat → Nat → Int32} {J : Nat → Nat → Int64} {x3 : Int32} {s0 : UInt64} : Ok (gX12_bits_b25 σ I J x3 s0) (fun r => Ag FwX12_bits_b25 I r.1 ∧ Ag FwX12_bits_b25 J r.2.1) := by
  unfold gX12_bits_b25
  refine Ok_i (fun g_1 => ?_) (fun _ => ?_)
  · exact Ok_m (aX12_bits_b57) (fun _ ⟨h0, h1⟩ => ⟨(Ag.tr (Ag.rf (f := I)) (Ag.mo rfl h0)), (Ag.tr (Ag.rf (f := J)) (Ag.mo rfl h1))⟩)
  · refine Ok_g (fun g_2 => ?_)
    refine Ok_i (fun g_3 => ?_) (fun _ => ?_)
    · refine Ok_i (fun g_4 => ?_) (fun _ => ?_)
      · exact Ok_s ⟨(Ag.rf (f := I)), (Ag.rf (f := J))⟩
      · exact Ok_s ⟨(Ag.rf (f := I)), (Ag.rf (f := J))⟩
    · exact Ok_m (aX12_bits_b57) (fun _ ⟨h0, h1⟩ => ⟨(Ag.tr (Ag.rf (f := I)) (Ag.mo rfl h0)), (Ag.tr (Ag.rf (f := J)) (Ag.mo rfl h1))⟩)
theorem aX12_bits {σ : Shp} {I : Nat → Nat → Int32} {J : Nat → Nat → Int64} {x1 : UInt64} : Ok (gX12_bits σ I J x1) (fun r => Ag FwX12_bits I r.1 ∧ Ag FwX12_bits J r.2.1) := by
  unfold gX12_bits
  refine Ok_i (fun g_1 => ?_) (fun _ => ?_)
  · refine Ok_bc (fun r1 e_2 => ?_)
    refine Ok_i (fun g_3 => ?_) (fun _ => ?_)
    · exact Ok_m (aX12_bits_b25) (fun _ ⟨h0, h1⟩ => ⟨(Ag.tr (Ag.rf (f := I)) (Ag.mo rfl h0)), (Ag.tr (Ag.rf (f := J)) (Ag.mo rfl h1))⟩)
    · exact Ok_m (aX12_bits_b25) (fun _ ⟨h0, h1⟩ => ⟨(Ag.tr (Ag.rf (f := I)) (Ag.mo rfl h0)), (Ag.tr (Ag.rf (f := J)) (Ag.mo rfl h1))⟩)
  · exact Ok_s ⟨(Ag.rf (f := I)), (Ag.rf (f := J))⟩
theorem aX12_real_l131 {q77 : (Nat → Nat → Int32) → (Nat → Nat → Int64) → (Nat → Nat → UInt64) → (Int32) → (Int32) → (Int32) → (Int32) → (UInt64) → (Int32) → (Option ((Nat → Nat → Int32) × (Nat → Nat → Int64) × (Nat → Nat → UInt64) × (Int64)))} {σ : Shp} {R : Nat → Nat → Option Nat} (hq77 : ∀ (I : Nat → Nat → Int32) (J : Nat → Nat → Int64) (D : Nat → Nat → UInt64) (x1 : Int32) (x3 : Int32) (x4 : Int32) (x5 : Int32) (x6 : UInt64) (x8 : Int32), Ok (q77 I J D x1 x3 x4 x5 x6 x8) (fun r => Ag FwX12_real_l77 I r.1 ∧ Ag FwX12_real_l77 J r.2.1 ∧ Ag FwX12_real_l77 D r.2.2.1)) : ∀ (n : Nat) (I : Nat → Nat → Int32) (J : Nat → Nat → Int64) (D : Nat → Nat → UInt64) (x1 : Int32) (x3 : Int32) (x4 : Int32) (x5 : Int32) (x6 : UInt64) (x8 : Int32) (x9 : UInt64) (x11 : Int32), Ok (gX12_real_l131 q77 σ R n I J D x1 x3 x4 x5 x6 x8 x9 x11) (fun r => Ag FwX12_real_l131 I r.1 ∧ Ag FwX12_real_l131 J r.2.1 ∧ Ag FwX12_real_l131 D r.2.2.1) := by
  intro n
  induction n with
  | zero => intro I J D x1 x3 x4 x5 x6 x8 x9 x11; exact Ok_e rfl
  | succ n ih =>
    intro I J D x1 x3 x4 x5 x6 x8 x9 x11
    rw [gX12_real_l131]
    refine Ok_i (fun g_1 => ?_) (fun _ => ?_)
    · refine Ok_g (fun g_2 => ?_)
      exact Ok_m (hq77 _ _ _ _ _ _ _ _ _) (fun _ ⟨h0, h1, h2⟩ => ⟨(Ag.tr (Ag.rf (f := I)) (Ag.mo rfl h0)), (Ag.tr (Ag.rf (f := J)) (Ag.mo rfl h1)), (Ag.tr (Ag.st (Ag.rf (f := D)) (keyo (L := [(187, 188)]) (M := FwX12_real_l131) rfl rfl (show inW [(187, 188)] 187 = true from rfl))) (Ag.mo rfl h2))⟩)
    · refine Ok_g (fun g_4 => ?_)
      refine Ok_bc (fun r45 e_5 => ?_)
      refine Ok_i (fun g_6 => ?_) (fun _ => ?_)
      · refine Ok_g (fun g_7 => ?_)
        exact Ok_m (hq77 _ _ _ _ _ _ _ _ _) (fun _ ⟨h0, h1, h2⟩ => ⟨(Ag.tr (Ag.rf (f := I)) (Ag.mo rfl h0)), (Ag.tr (Ag.rf (f := J)) (Ag.mo rfl h1)), (Ag.tr (Ag.st (Ag.rf (f := D)) (keyo (L := [(187, 188)]) (M := FwX12_real_l131) rfl rfl (show inW [(187, 188)] 187 = true from rfl))) (Ag.mo rfl h2))⟩)
      · refine Ok_g (fun g_9 => ?_)
        exact Ok_m (ih _ _ _ _ _ _ _ _ _ _ _) (fun _ ⟨h0, h1, h2⟩ => ⟨(Ag.tr (Ag.rf (f := I)) (Ag.mo rfl h0)), (Ag.tr (Ag.rf (f := J)) (Ag.mo rfl h1)), (Ag.tr (Ag.st (Ag.rf (f := D)) (keyo (L := [(187, 188)]) (M := FwX12_real_l131) rfl rfl (show inW [(187, 188)] 187 = true from rfl))) (Ag.mo rfl h2))⟩)
theorem aX12_real_l77 {σ : Shp} {R : Nat → Nat → Option Nat} : ∀ (n : Nat) (I : Nat → Nat → Int32) (J : Nat → Nat → Int64) (D : Nat → Nat → UInt64) (x1 : Int32) (x3 : Int32) (x4 : Int32) (x5 : Int32) (x6 : UInt64) (x8 : Int32), Ok (gX12_real_l77 σ R n I J D x1 x3 x4 x5 x6 x8) (fun r => Ag FwX12_real_l77 I r.1 ∧ Ag FwX12_real_l77 J r.2.1 ∧ Ag FwX12_real_l77 D r.2.2.1) := by
  intro n
  induction n with
  | zero => intro I J D x1 x3 x4 x5 x6 x8; exact Ok_e rfl
  | succ n ih =>
    intro I J D x1 x3 x4 x5 x6 x8
    rw [gX12_real_l77]
    refine Ok_g (fun g_1 => ?_)
    refine Ok_i (fun g_2 => ?_) (fun _ => ?_)
    · refine Ok_i (fun g_3 => ?_) (fun _ => ?_)
      · exact Ok_s ⟨(Ag.rf (f := I)), (Ag.rf (f := J)), (Ag.rf (f := D))⟩
      · refine Ok_i (fun g_4 => ?_) (fun _ => ?_)
        · refine Ok_g (fun g_5 => ?_)
          refine Ok_b (aX12_bits) ?_
          intro rr hr
          obtain ⟨I29, J30, r31⟩ := rr
          obtain ⟨h_6, h_7⟩ := hr
          have m_8 : Ag FwX12_real_l77 I I29 := Ag.tr (Ag.rf (f := I)) (Ag.mo rfl h_6)
          have m_9 : Ag FwX12_real_l77 J J30 := Ag.tr (Ag.rf (f := J)) (Ag.mo rfl h_7)
          exact Ok_s ⟨m_8, m_9, (Ag.rf (f := D))⟩
        · refine Ok_i (fun g_10 => ?_) (fun _ => ?_)
          · refine Ok_g (fun g_11 => ?_)
            refine Ok_b (aX12_bits) ?_
            intro rr hr
            obtain ⟨I24, J25, r26⟩ := rr
            obtain ⟨h_12, h_13⟩ := hr
            have m_14 : Ag FwX12_real_l77 I I24 := Ag.tr (Ag.rf (f := I)) (Ag.mo rfl h_12)
            have m_15 : Ag FwX12_real_l77 J J25 := Ag.tr (Ag.rf (f := J)) (Ag.mo rfl h_13)
            exact Ok_s ⟨m_14, m_15, (Ag.rf (f := D))⟩
          · refine Ok_i (fun g_16 => ?_) (fun _ => ?_)
            · refine Ok_bc (fun r17 e_17 => ?_)
              refine Ok_b (aX12_bits) ?_
              intro rr hr
              obtain ⟨I19, J20, r21⟩ := rr
              obtain ⟨h_18, h_19⟩ := hr
              have m_20 : Ag FwX12_real_l77 I I19 := Ag.tr (Ag.rf (f := I)) (Ag.mo rfl h_18)
              have m_21 : Ag FwX12_real_l77 J J20 := Ag.tr (Ag.rf (f := J)) (Ag.mo rfl h_19)
              exact Ok_s ⟨m_20, m_21, (Ag.rf (f := D))⟩
            · refine Ok_g (fun g_22 => ?_)
              refine Ok_b (aX12_bits) ?_
              intro rr hr
              obtain ⟨I13, J14, r15⟩ := rr
              obtain ⟨h_23, h_24⟩ := hr
              have m_25 : Ag FwX12_real_l77 I I13 := Ag.tr (Ag.rf (f := I)) (Ag.mo rfl h_23)
              have m_26 : Ag FwX12_real_l77 J J14 := Ag.tr (Ag.rf (f := J)) (Ag.mo rfl h_24)
              exact Ok_s ⟨m_25, m_26, (Ag.rf (f := D))⟩
    · refine Ok_g (fun g_27 => ?_)
      refine Ok_g (fun g_28 => ?_)
      refine Ok_bc (fun r35 e_29 => ?_)
      refine Ok_i (fun g_30 => ?_) (fun _ => ?_)
      · refine Ok_bc (fun r38 e_31 => ?_)
        exact Ok_m (aX12_real_l131 ih _ _ _ _ _ _ _ _ _ _ _ _) (fun _ ⟨h0, h1, h2⟩ => ⟨(Ag.tr (Ag.rf (f := I)) (Ag.mo rfl h0)), (Ag.tr (Ag.rf (f := J)) (Ag.mo rfl h1)), (Ag.tr (Ag.rf (f := D)) (Ag.mo rfl h2))⟩)
      · exact Ok_m (ih _ _ _ _ _ _ _ _ _) (fun _ ⟨h0, h1, h2⟩ => ⟨(Ag.tr (Ag.rf (f := I)) (Ag.mo rfl h0)), (Ag.tr (Ag.rf (f := J)) (Ag.mo rfl h1)), (Ag.tr (Ag.rf (f := D)) (Ag.mo rfl h2))⟩)
theorem aX12_real {σ : Shp} {I : Nat → Nat → Int32} {J : Nat → Nat → Int64} {D : Nat → Nat → UInt64} {R : Nat → Nat → Option Nat} {x1 : Int32} {x2 : Int32} {x3 : Int32} : Ok (gX12_real σ I J D R x1 x2 x3) (fun r => Ag FwX12_real I r.1 ∧ Ag FwX12_real J r.2.1 ∧ Ag FwX12_real D r.2.2.1) := by
  unfold gX12_real
  refine Ok_i (fun g_1 => ?_) (fun _ => ?_)
  · exact Ok_s ⟨(Ag.rf (f := I)), (Ag.rf (f := J)), (Ag.rf (f := D))⟩
  · refine Ok_i (fun g_2 => ?_) (fun _ => ?_)
    · exact Ok_s ⟨(Ag.rf (f := I)), (Ag.rf (f := J)), (Ag.rf (f := D))⟩
    · refine Ok_i (fun g_3 => ?_) (fun _ => ?_)
      · exact Ok_s ⟨(Ag.rf (f := I)), (Ag.rf (f := J)), (Ag.rf (f := D))⟩
      · refine Ok_g (fun g_4 => ?_)
        refine Ok_i (fun g_5 => ?_) (fun _ => ?_)
        · refine Ok_i (fun g_6 => ?_) (fun _ => ?_)
          · refine Ok_b (aX12_noBits) ?_
            intro rr hr
            obtain ⟨I6, r7⟩ := rr
            have h_7 := hr
            have m_8 : Ag FwX12_real I I6 := Ag.tr (Ag.rf (f := I)) (Ag.mo rfl h_7)
            exact Ok_s ⟨m_8, (Ag.rf (f := J)), (Ag.rf (f := D))⟩
          · refine Ok_b (aX12_noBits) ?_
            intro rr hr
            obtain ⟨I3, r4⟩ := rr
            have h_9 := hr
            have m_10 : Ag FwX12_real I I3 := Ag.tr (Ag.rf (f := I)) (Ag.mo rfl h_9)
            exact Ok_s ⟨m_10, (Ag.rf (f := J)), (Ag.rf (f := D))⟩
        · refine Ok_g (fun g_11 => ?_)
          refine Ok_i (fun g_12 => ?_) (fun _ => ?_)
          · exact Ok_m (aX12_real_l77  _ _ _ _ _ _ _ _ _ _) (fun _ ⟨h0, h1, h2⟩ => ⟨(Ag.tr (Ag.rf (f := I)) (Ag.mo rfl h0)), (Ag.tr (Ag.rf (f := J)) (Ag.mo rfl h1)), (Ag.tr (Ag.rf (f := D)) (Ag.mo rfl h2))⟩)
          · refine Ok_i (fun g_13 => ?_) (fun _ => ?_)
            · refine Ok_b (aX12_noBits) ?_
              intro rr hr
              obtain ⟨I57, r58⟩ := rr
              have h_14 := hr
              have m_15 : Ag FwX12_real I I57 := Ag.tr (Ag.rf (f := I)) (Ag.mo rfl h_14)
              exact Ok_s ⟨m_15, (Ag.rf (f := J)), (Ag.rf (f := D))⟩
            · refine Ok_b (aX12_noBits) ?_
              intro rr hr
              obtain ⟨I54, r55⟩ := rr
              have h_16 := hr
              have m_17 : Ag FwX12_real I I54 := Ag.tr (Ag.rf (f := I)) (Ag.mo rfl h_16)
              exact Ok_s ⟨m_17, (Ag.rf (f := J)), (Ag.rf (f := D))⟩
theorem aX12_wholeMean_l70 {σ : Shp} {J : Nat → Nat → Int64} {R : Nat → Nat → Option Nat} : ∀ (n : Nat) (I : Nat → Nat → Int32) (x2 : Int32) (x4 : Int64) (x6 : Int32), Ok (gX12_wholeMean_l70 σ J R n I x2 x4 x6) (fun r => Ag FwX12_wholeMean_l70 I r.1) := by
  intro n
  induction n with
  | zero => intro I x2 x4 x6; exact Ok_e rfl
  | succ n ih =>
    intro I x2 x4 x6
    rw [gX12_wholeMean_l70]
    refine Ok_g (fun g_1 => ?_)
    refine Ok_i (fun g_2 => ?_) (fun _ => ?_)
    · refine Ok_g (fun g_3 => ?_)
      exact Ok_s (Ag.st (Ag.rf (f := I)) (show inW FwX12_wholeMean_l70 (key 114 25) = true from rfl))
    · refine Ok_g (fun g_5 => ?_)
      refine Ok_g (fun g_6 => ?_)
      exact Ok_m (ih _ _ _ _) (fun _ hr => (Ag.tr (Ag.rf (f := I)) (Ag.mo rfl hr)))
theorem aX12_wholeMean {σ : Shp} {I : Nat → Nat → Int32} {J : Nat → Nat → Int64} {R : Nat → Nat → Option Nat} {x1 : Int32} : Ok (gX12_wholeMean σ I J R x1) (fun r => Ag FwX12_wholeMean I r.1) := by
  unfold gX12_wholeMean
  refine Ok_i (fun g_1 => ?_) (fun _ => ?_)
  · exact Ok_s (Ag.rf (f := I))
  · refine Ok_g (fun g_2 => ?_)
    refine Ok_t ?_
    intro r3
    refine Ok_i (fun g_3 => ?_) (fun _ => ?_)
    · refine Ok_i (fun g_4 => ?_) (fun _ => ?_)
      · exact Ok_m (aX12_wholeMean_l70  _ _ _ _ _) (fun _ hr => (Ag.tr (Ag.rf (f := I)) (Ag.mo rfl hr)))
      · refine Ok_b (aX12_no) ?_
        intro rr hr
        obtain ⟨I22, r23⟩ := rr
        have h_5 := hr
        have m_6 : Ag FwX12_wholeMean I I22 := Ag.tr (Ag.rf (f := I)) (Ag.mo rfl h_5)
        exact Ok_s m_6
    · refine Ok_i (fun g_7 => ?_) (fun _ => ?_)
      · refine Ok_i (fun g_8 => ?_) (fun _ => ?_)
        · exact Ok_m (aX12_wholeMean_l70  _ _ _ _ _) (fun _ hr => (Ag.tr (Ag.rf (f := I)) (Ag.mo rfl hr)))
        · refine Ok_b (aX12_no) ?_
          intro rr hr
          obtain ⟨I19, r20⟩ := rr
          have h_9 := hr
          have m_10 : Ag FwX12_wholeMean I I19 := Ag.tr (Ag.rf (f := I)) (Ag.mo rfl h_9)
          exact Ok_s m_10
      · refine Ok_g (fun g_11 => ?_)
        refine Ok_i (fun g_12 => ?_) (fun _ => ?_)
        · refine Ok_i (fun g_13 => ?_) (fun _ => ?_)
          · exact Ok_m (aX12_wholeMean_l70  _ _ _ _ _) (fun _ hr => (Ag.tr (Ag.rf (f := I)) (Ag.mo rfl hr)))
          · refine Ok_b (aX12_no) ?_
            intro rr hr
            obtain ⟨I16, r17⟩ := rr
            have h_14 := hr
            have m_15 : Ag FwX12_wholeMean I I16 := Ag.tr (Ag.rf (f := I)) (Ag.mo rfl h_14)
            exact Ok_s m_15
        · refine Ok_i (fun g_16 => ?_) (fun _ => ?_)
          · exact Ok_m (aX12_wholeMean_l70  _ _ _ _ _) (fun _ hr => (Ag.tr (Ag.rf (f := I)) (Ag.mo rfl hr)))
          · refine Ok_b (aX12_no) ?_
            intro rr hr
            obtain ⟨I13, r14⟩ := rr
            have h_17 := hr
            have m_18 : Ag FwX12_wholeMean I I13 := Ag.tr (Ag.rf (f := I)) (Ag.mo rfl h_17)
            exact Ok_s m_18
theorem aX12_salt_b33 {σ : Shp} {R : Nat → Nat → Option Nat} {I : Nat → Nat → Int32} {x1 : Int32} {x2 : Int32} {x3 : Int32} {s0 : Int32} {s1 : Int32} {s2 : Int32} : Ok (gX12_salt_b33 σ R I x1 x2 x3 s0 s1 s2) (fun r => Ag FwX12_salt_b33 I r.1) := by
  unfold gX12_salt_b33
  refine Ok_i (fun g_1 => ?_) (fun _ => ?_)
  · exact Ok_s (Ag.rf (f := I))
  · refine Ok_g (fun g_2 => ?_)
    exact Ok_s (Ag.st (Ag.rf (f := I)) (keyo (L := [(188, 189)]) (M := FwX12_salt_b33) rfl rfl (show inW [(188, 189)] 188 = true from rfl)))
theorem aX12_salt {σ : Shp} {I : Nat → Nat → Int32} {R : Nat → Nat → Option Nat} {x1 : Int32} {x2 : Int32} {x3 : Int32} : Ok (gX12_salt σ I R x1 x2 x3) (fun r => Ag FwX12_salt I r.1) := by
  unfold gX12_salt
  refine Ok_i (fun g_1 => ?_) (fun _ => ?_)
  · exact Ok_s (Ag.rf (f := I))
  · refine Ok_i (fun g_2 => ?_) (fun _ => ?_)
    · exact Ok_s (Ag.rf (f := I))
    · refine Ok_i (fun g_3 => ?_) (fun _ => ?_)
      · exact Ok_m (aX12_salt_b33) (fun _ hr => (Ag.tr (Ag.rf (f := I)) (Ag.mo rfl hr)))
      · exact Ok_m (aX12_salt_b33) (fun _ hr => (Ag.tr (Ag.rf (f := I)) (Ag.mo rfl hr)))
theorem aX12_fraction_b23 {σ : Shp} {R : Nat → Nat → Option Nat} {J : Nat → Nat → Int64} {x1 : Int32} {x2 : Int64} {x4 : Int64} {s0 : Int64} : Ok (gX12_fraction_b23 σ R J x1 x2 x4 s0) (fun r => Ag FwX12_fraction_b23 J r) := by
  unfold gX12_fraction_b23
  refine Ok_g (fun g_1 => ?_)
  refine Ok_g (fun g_2 => ?_)
  refine Ok_g (fun g_4 => ?_)
  exact Ok_s (Ag.st (Ag.st (Ag.rf (f := J)) (keyo (L := [(189, 190)]) (M := FwX12_fraction_b23) rfl rfl (show inW [(189, 190)] 189 = true from rfl))) (keyo (L := [(190, 191)]) (M := FwX12_fraction_b23) rfl rfl (show inW [(190, 191)] 190 = true from rfl)))
theorem aX12_fraction {σ : Shp} {J : Nat → Nat → Int64} {R : Nat → Nat → Option Nat} {x1 : Int32} {x2 : Int64} {x4 : Int64} : Ok (gX12_fraction σ J R x1 x2 x4) (fun r => Ag FwX12_fraction J r) := by
  unfold gX12_fraction
  refine Ok_bc (fun r1 e_1 => ?_)
  refine Ok_i (fun g_2 => ?_) (fun _ => ?_)
  · exact Ok_m (aX12_fraction_b23) (fun _ hr => (Ag.tr (Ag.rf (f := J)) (Ag.mo rfl hr)))
  · exact Ok_m (aX12_fraction_b23) (fun _ hr => (Ag.tr (Ag.rf (f := J)) (Ag.mo rfl hr)))
theorem aX12_less_b55 {σ : Shp} {R : Nat → Nat → Option Nat} {J : Nat → Nat → Int64} {x1 : Int32} {x2 : Int64} {x4 : Int64} {x6 : Int32} {x7 : Int64} {s0 : Int64} : Ok (gX12_less_b55 σ R J x1 x2 x4 x6 x7 s0) (fun r => Ag FwX12_less_b55 J r) := by
  unfold gX12_less_b55
  refine Ok_g (fun g_1 => ?_)
  refine Ok_g (fun g_2 => ?_)
  refine Ok_g (fun g_3 => ?_)
  refine Ok_g (fun g_4 => ?_)
  refine Ok_g (fun g_5 => ?_)
  refine Ok_bc (fun r14 e_6 => ?_)
  refine Ok_g (fun g_7 => ?_)
  refine Ok_g (fun g_8 => ?_)
  refine Ok_b (aX12_fraction) ?_
  intro J18 hr
  have h_9 := hr
  have m_10 : Ag FwX12_less_b55 J J18 := Ag.tr (Ag.rf (f := J)) (Ag.mo rfl h_9)
  exact Ok_s m_10
theorem aX12_less {σ : Shp} {J : Nat → Nat → Int64} {R : Nat → Nat → Option Nat} {x1 : Int32} {x2 : Int64} {x4 : Int64} {x6 : Int32} : Ok (gX12_less σ J R x1 x2 x4 x6) (fun r => Ag FwX12_less J r) := by
  unfold gX12_less
  refine Ok_g (fun g_1 => ?_)
  refine Ok_bc (fun r2 e_2 => ?_)
  refine Ok_g (fun g_3 => ?_)
  refine Ok_bc (fun r5 e_4 => ?_)
  refine Ok_i (fun g_5 => ?_) (fun _ => ?_)
  · refine Ok_i (fun g_6 => ?_) (fun _ => ?_)
    · exact Ok_m (aX12_less_b55) (fun _ hr => (Ag.tr (Ag.rf (f := J)) (Ag.mo rfl hr)))
    · exact Ok_m (aX12_less_b55) (fun _ hr => (Ag.tr (Ag.rf (f := J)) (Ag.mo rfl hr)))
  · refine Ok_i (fun g_7 => ?_) (fun _ => ?_)
    · exact Ok_m (aX12_less_b55) (fun _ hr => (Ag.tr (Ag.rf (f := J)) (Ag.mo rfl hr)))
    · exact Ok_m (aX12_less_b55) (fun _ hr => (Ag.tr (Ag.rf (f := J)) (Ag.mo rfl hr)))
theorem aX12_liftRow_l2 {σ : Shp} {I : Nat → Nat → Int32} {R : Nat → Nat → Option Nat} : ∀ (n : Nat) (J : Nat → Nat → Int64) (x1 : Int32) (x2 : Int32), Ok (gX12_liftRow_l2 σ I R n J x1 x2) (fun r => Ag FwX12_liftRow_l2 J r) := by
  intro n
  induction n with
  | zero => intro J x1 x2; exact Ok_e rfl
  | succ n ih =>
    intro J x1 x2
    rw [gX12_liftRow_l2]
    refine Ok_i (fun g_1 => ?_) (fun _ => ?_)
    · exact Ok_s (Ag.rf (f := J))
    · refine Ok_g (fun g_2 => ?_)
      refine Ok_g (fun g_3 => ?_)
      refine Ok_g (fun g_4 => ?_)
      refine Ok_g (fun g_6 => ?_)
      exact Ok_m (ih _ _ _) (fun _ hr => (Ag.tr (Ag.st (Ag.st (Ag.st (Ag.st (Ag.rf (f := J)) (keyo (L := [(189, 190)]) (M := FwX12_liftRow_l2) rfl rfl (show inW [(189, 190)] 189 = true from rfl))) (keyo (L := [(190, 191)]) (M := FwX12_liftRow_l2) rfl rfl (show inW [(190, 191)] 190 = true from rfl))) (keyo (L := [(189, 190)]) (M := FwX12_liftRow_l2) rfl rfl (show inW [(189, 190)] 189 = true from rfl))) (keyo (L := [(190, 191)]) (M := FwX12_liftRow_l2) rfl rfl (show inW [(190, 191)] 190 = true from rfl))) (Ag.mo rfl hr)))
theorem aX12_liftRow {σ : Shp} {I : Nat → Nat → Int32} {J : Nat → Nat → Int64} {R : Nat → Nat → Option Nat} {x1 : Int32} : Ok (gX12_liftRow σ I J R x1) (fun r => Ag FwX12_liftRow J r) := by
  unfold gX12_liftRow
  exact Ok_m (aX12_liftRow_l2  _ _ _ _) (fun _ hr => (Ag.tr (Ag.rf (f := J)) (Ag.mo rfl hr)))
theorem aX12_clear_l191 {q154 : (Nat → Nat → Int32) → (Nat → Nat → Int64) → (Int32) → (Int32) → (Option ((Nat → Nat → Int32) × (Nat → Nat → Int64)))} {σ : Shp} {R : Nat → Nat → Option Nat} (hq154 : ∀ (I : Nat → Nat → Int32) (J : Nat → Nat → Int64) (x1 : Int32) (x6 : Int32), Ok (q154 I J x1 x6) (fun r => Ag FwX12_clear_l154 I r.1 ∧ Ag FwX12_clear_l154 J r.2)) : ∀ (n : Nat) (I : Nat → Nat → Int32) (J : Nat → Nat → Int64) (x1 : Int32) (x6 : Int32) (x7 : Int64) (x9 : Int64) (x11 : Int32), Ok (gX12_clear_l191 q154 σ R n I J x1 x6 x7 x9 x11) (fun r => Ag FwX12_clear_l191 I r.1 ∧ Ag FwX12_clear_l191 J r.2) := by
  intro n
  induction n with
  | zero => intro I J x1 x6 x7 x9 x11; exact Ok_e rfl
  | succ n ih =>
    intro I J x1 x6 x7 x9 x11
    rw [gX12_clear_l191]
    refine Ok_i (fun g_1 => ?_) (fun _ => ?_)
    · exact Ok_m (hq154 _ _ _ _) (fun _ ⟨h0, h1⟩ => ⟨(Ag.tr (Ag.rf (f := I)) (Ag.mo rfl h0)), (Ag.tr (Ag.rf (f := J)) (Ag.mo rfl h1))⟩)
    · refine Ok_i (fun g_2 => ?_) (fun _ => ?_)
      · exact Ok_m (hq154 _ _ _ _) (fun _ ⟨h0, h1⟩ => ⟨(Ag.tr (Ag.rf (f := I)) (Ag.mo rfl h0)), (Ag.tr (Ag.rf (f := J)) (Ag.mo rfl h1))⟩)
      · refine Ok_i (fun g_3 => ?_) (fun _ => ?_)
        · exact Ok_m (hq154 _ _ _ _) (fun _ ⟨h0, h1⟩ => ⟨(Ag.tr (Ag.rf (f := I)) (Ag.mo rfl h0)), (Ag.tr (Ag.rf (f := J)) (Ag.mo rfl h1))⟩)
        · refine Ok_b (aX12_less) ?_
          intro J15 hr
          have h_4 := hr
          have m_5 : Ag FwX12_clear_l191 J J15 := Ag.tr (Ag.rf (f := J)) (Ag.mo rfl h_4)
          exact Ok_m (ih _ _ _ _ _ _ _) (fun _ ⟨h0, h1⟩ => ⟨(Ag.tr (Ag.rf (f := I)) (Ag.mo rfl h0)), (Ag.tr m_5 (Ag.mo rfl h1))⟩)
theorem aX12_clear_l154 {σ : Shp} {R : Nat → Nat → Option Nat} : ∀ (n : Nat) (I : Nat → Nat → Int32) (J : Nat → Nat → Int64) (x1 : Int32) (x6 : Int32), Ok (gX12_clear_l154 σ R n I J x1 x6) (fun r => Ag FwX12_clear_l154 I r.1 ∧ Ag FwX12_clear_l154 J r.2) := by
  intro n
  induction n with
  | zero => intro I J x1 x6; exact Ok_e rfl
  | succ n ih =>
    intro I J x1 x6
    rw [gX12_clear_l154]
    refine Ok_i (fun g_1 => ?_) (fun _ => ?_)
    · refine Ok_g (fun g_2 => ?_)
      exact Ok_s ⟨(Ag.st (Ag.st (Ag.rf (f := I)) (keyo (L := [(191, 192)]) (M := FwX12_clear_l154) rfl rfl (show inW [(191, 192)] 191 = true from rfl))) (show inW FwX12_clear_l154 (key 114 114) = true from rfl)), (Ag.rf (f := J))⟩
    · refine Ok_g (fun g_5 => ?_)
      refine Ok_g (fun g_6 => ?_)
      exact Ok_m (aX12_clear_l191 ih _ _ _ _ _ _ _ _) (fun _ ⟨h0, h1⟩ => ⟨(Ag.tr (Ag.rf (f := I)) (Ag.mo rfl h0)), (Ag.tr (Ag.rf (f := J)) (Ag.mo rfl h1))⟩)
theorem aX12_clear_l34 {σ : Shp} {R : Nat → Nat → Option Nat} : ∀ (n : Nat) (I : Nat → Nat → Int32) (J : Nat → Nat → Int64) (x1 : Int32) (x2 : Int64) (x4 : Int64) (x6 : Int32), Ok (gX12_clear_l34 σ R n I J x1 x2 x4 x6) (fun r => Ag FwX12_clear_l34 I r.1 ∧ Ag FwX12_clear_l34 J r.2) := by
  intro n
  induction n with
  | zero => intro I J x1 x2 x4 x6; exact Ok_e rfl
  | succ n ih =>
    intro I J x1 x2 x4 x6
    rw [gX12_clear_l34]
    refine Ok_i (fun g_1 => ?_) (fun _ => ?_)
    · exact Ok_m (aX12_clear_l154  _ _ _ _ _) (fun _ ⟨h0, h1⟩ => ⟨(Ag.tr (Ag.rf (f := I)) (Ag.mo rfl h0)), (Ag.tr (Ag.rf (f := J)) (Ag.mo rfl h1))⟩)
    · refine Ok_g (fun g_2 => ?_)
      refine Ok_bc (fun r19 e_3 => ?_)
      refine Ok_g (fun g_4 => ?_)
      refine Ok_bc (fun r22 e_5 => ?_)
      refine Ok_g (fun g_6 => ?_)
      refine Ok_g (fun g_7 => ?_)
      refine Ok_b (aX12_fraction) ?_
      intro J26 hr
      have h_8 := hr
      have m_9 : Ag FwX12_clear_l34 J J26 := Ag.tr (Ag.rf (f := J)) (Ag.mo rfl h_8)
      exact Ok_m (ih _ _ _ _ _ _) (fun _ ⟨h0, h1⟩ => ⟨(Ag.tr (Ag.rf (f := I)) (Ag.mo rfl h0)), (Ag.tr m_9 (Ag.mo rfl h1))⟩)
theorem aX12_clear {σ : Shp} {I : Nat → Nat → Int32} {J : Nat → Nat → Int64} {R : Nat → Nat → Option Nat} {x1 : Int32} : Ok (gX12_clear σ I J R x1) (fun r => Ag FwX12_clear I r.1 ∧ Ag FwX12_clear J r.2) := by
  unfold gX12_clear
  refine Ok_g (fun g_1 => ?_)
  refine Ok_g (fun g_2 => ?_)
  exact Ok_m (aX12_clear_l34  _ _ _ _ _ _ _) (fun _ ⟨h0, h1⟩ => ⟨(Ag.tr (Ag.rf (f := I)) (Ag.mo rfl h0)), (Ag.tr (Ag.rf (f := J)) (Ag.mo rfl h1))⟩)
theorem aX12_makeWitness_l142 {σ : Shp} {R : Nat → Nat → Option Nat} : ∀ (n : Nat) (J : Nat → Nat → Int64) (x4 : Int64) (x6 : Int64) (x8 : Int32), Ok (gX12_makeWitness_l142 σ R n J x4 x6 x8) (fun r => Ag FwX12_makeWitness_l142 J r) := by
  intro n
  induction n with
  | zero => intro J x4 x6 x8; exact Ok_e rfl
  | succ n ih =>
    intro J x4 x6 x8
    rw [gX12_makeWitness_l142]
    refine Ok_i (fun g_1 => ?_) (fun _ => ?_)
    · exact Ok_s (Ag.rf (f := J))
    · refine Ok_g (fun g_2 => ?_)
      refine Ok_g (fun g_3 => ?_)
      refine Ok_i (fun g_4 => ?_) (fun _ => ?_)
      · exact Ok_m (ih _ _ _ _) (fun _ hr => (Ag.tr (Ag.st (Ag.rf (f := J)) (keyo (L := [(194, 195)]) (M := FwX12_makeWitness_l142) rfl rfl (show inW [(194, 195)] 194 = true from rfl))) (Ag.mo rfl hr)))
      · exact Ok_m (ih _ _ _ _) (fun _ hr => (Ag.tr (Ag.st (Ag.rf (f := J)) (keyo (L := [(194, 195)]) (M := FwX12_makeWitness_l142) rfl rfl (show inW [(194, 195)] 194 = true from rfl))) (Ag.mo rfl hr)))
theorem aX12_makeWitness_l54 {σ : Shp} {R : Nat → Nat → Option Nat} : ∀ (n : Nat) (J : Nat → Nat → Int64) (x1 : Int32) (x2 : Int64) (x4 : Int64) (x6 : Int64) (x8 : Int32), Ok (gX12_makeWitness_l54 σ R n J x1 x2 x4 x6 x8) (fun r => Ag FwX12_makeWitness_l54 J r) := by
  intro n
  induction n with
  | zero => intro J x1 x2 x4 x6 x8; exact Ok_e rfl
  | succ n ih =>
    intro J x1 x2 x4 x6 x8
    rw [gX12_makeWitness_l54]
    refine Ok_i (fun g_1 => ?_) (fun _ => ?_)
    · exact Ok_m (aX12_makeWitness_l142  _ _ _ _ _) (fun _ hr => (Ag.tr (Ag.rf (f := J)) (Ag.mo rfl hr)))
    · refine Ok_g (fun g_2 => ?_)
      refine Ok_g (fun g_3 => ?_)
      refine Ok_g (fun g_4 => ?_)
      refine Ok_g (fun g_5 => ?_)
      refine Ok_bc (fun r12 e_7 => ?_)
      refine Ok_i (fun g_8 => ?_) (fun _ => ?_)
      · exact Ok_m (ih _ _ _ _ _ _) (fun _ hr => (Ag.tr (Ag.st (Ag.rf (f := J)) (keyo (L := [(194, 195)]) (M := FwX12_makeWitness_l54) rfl rfl (show inW [(194, 195)] 194 = true from rfl))) (Ag.mo rfl hr)))
      · exact Ok_m (ih _ _ _ _ _ _) (fun _ hr => (Ag.tr (Ag.st (Ag.rf (f := J)) (keyo (L := [(194, 195)]) (M := FwX12_makeWitness_l54) rfl rfl (show inW [(194, 195)] 194 = true from rfl))) (Ag.mo rfl hr)))
theorem aX12_makeWitness_l5 {σ : Shp} {R : Nat → Nat → Option Nat} : ∀ (n : Nat) (J : Nat → Nat → Int64) (x1 : Int32) (x2 : Int64) (x4 : Int32), Ok (gX12_makeWitness_l5 σ R n J x1 x2 x4) (fun r => Ag FwX12_makeWitness_l5 J r) := by
  intro n
  induction n with
  | zero => intro J x1 x2 x4; exact Ok_e rfl
  | succ n ih =>
    intro J x1 x2 x4
    rw [gX12_makeWitness_l5]
    refine Ok_i (fun g_1 => ?_) (fun _ => ?_)
    · exact Ok_m (aX12_makeWitness_l54  _ _ _ _ _ _ _) (fun _ hr => (Ag.tr (Ag.rf (f := J)) (Ag.mo rfl hr)))
    · refine Ok_g (fun g_2 => ?_)
      refine Ok_bc (fun r19 e_3 => ?_)
      refine Ok_g (fun g_4 => ?_)
      exact Ok_m (ih _ _ _ _) (fun _ hr => (Ag.tr (Ag.rf (f := J)) (Ag.mo rfl hr)))
theorem aX12_makeWitness {σ : Shp} {J : Nat → Nat → Int64} {R : Nat → Nat → Option Nat} {x1 : Int32} : Ok (gX12_makeWitness σ J R x1) (fun r => Ag FwX12_makeWitness J r) := by
  unfold gX12_makeWitness
  exact Ok_m (aX12_makeWitness_l5  _ _ _ _ _) (fun _ hr => (Ag.tr (Ag.rf (f := J)) (Ag.mo rfl hr)))
theorem aX12_work_l273 {σ : Shp} {R : Nat → Nat → Option Nat} : ∀ (n : Nat) (I : Nat → Nat → Int32) (J : Nat → Nat → Int64) (x1 : Int32) (x2 : Int32), Ok (gX12_work_l273 σ R n I J x1 x2) (fun r => Ag FwX12_work_l273 I r.1 ∧ Ag FwX12_work_l273 J r.2.1) := by
  intro n
  induction n with
  | zero => intro I J x1 x2; exact Ok_e rfl
  | succ n ih =>
    intro I J x1 x2
    rw [gX12_work_l273]
    refine Ok_i (fun g_1 => ?_) (fun _ => ?_)
    · refine Ok_i (fun g_2 => ?_) (fun _ => ?_)
      · exact Ok_s ⟨(Ag.rf (f := I)), (Ag.rf (f := J))⟩
      · exact Ok_s ⟨(Ag.rf (f := I)), (Ag.rf (f := J))⟩
    · refine Ok_g (fun g_3 => ?_)
      refine Ok_g (fun g_4 => ?_)
      refine Ok_g (fun g_5 => ?_)
      refine Ok_g (fun g_7 => ?_)
      refine Ok_g (fun g_8 => ?_)
      refine Ok_i (fun g_10 => ?_) (fun _ => ?_)
      · refine Ok_i (fun g_11 => ?_) (fun _ => ?_)
        · exact Ok_m (ih _ _ _ _) (fun _ ⟨h0, h1⟩ => ⟨(Ag.tr (Ag.rf (f := I)) (Ag.mo rfl h0)), (Ag.tr (Ag.st (Ag.st (Ag.rf (f := J)) (keyo (L := [(192, 193)]) (M := FwX12_work_l273) rfl rfl (show inW [(192, 193)] 192 = true from rfl))) (keyo (L := [(193, 194)]) (M := FwX12_work_l273) rfl rfl (show inW [(193, 194)] 193 = true from rfl))) (Ag.mo rfl h1))⟩)
        · exact Ok_m (ih _ _ _ _) (fun _ ⟨h0, h1⟩ => ⟨(Ag.tr (Ag.rf (f := I)) (Ag.mo rfl h0)), (Ag.tr (Ag.st (Ag.st (Ag.rf (f := J)) (keyo (L := [(192, 193)]) (M := FwX12_work_l273) rfl rfl (show inW [(192, 193)] 192 = true from rfl))) (keyo (L := [(193, 194)]) (M := FwX12_work_l273) rfl rfl (show inW [(193, 194)] 193 = true from rfl))) (Ag.mo rfl h1))⟩)
      · exact Ok_m (ih _ _ _ _) (fun _ ⟨h0, h1⟩ => ⟨(Ag.tr (Ag.rf (f := I)) (Ag.mo rfl h0)), (Ag.tr (Ag.st (Ag.st (Ag.rf (f := J)) (keyo (L := [(192, 193)]) (M := FwX12_work_l273) rfl rfl (show inW [(192, 193)] 192 = true from rfl))) (keyo (L := [(193, 194)]) (M := FwX12_work_l273) rfl rfl (show inW [(193, 194)] 193 = true from rfl))) (Ag.mo rfl h1))⟩)
theorem aX12_work_l246 {σ : Shp} {R : Nat → Nat → Option Nat} : ∀ (n : Nat) (I : Nat → Nat → Int32) (J : Nat → Nat → Int64) (x1 : Int32) (x2 : Int32), Ok (gX12_work_l246 σ R n I J x1 x2) (fun r => Ag FwX12_work_l246 I r.1 ∧ Ag FwX12_work_l246 J r.2.1) := by
  intro n
  induction n with
  | zero => intro I J x1 x2; exact Ok_e rfl
  | succ n ih =>
    intro I J x1 x2
    rw [gX12_work_l246]
    refine Ok_i (fun g_1 => ?_) (fun _ => ?_)
    · exact Ok_m (aX12_work_l273  _ _ _ _ _) (fun _ ⟨h0, h1⟩ => ⟨(Ag.tr (Ag.rf (f := I)) (Ag.mo rfl h0)), (Ag.tr (Ag.rf (f := J)) (Ag.mo rfl h1))⟩)
    · refine Ok_g (fun g_2 => ?_)
      refine Ok_g (fun g_4 => ?_)
      exact Ok_m (ih _ _ _ _) (fun _ ⟨h0, h1⟩ => ⟨(Ag.tr (Ag.rf (f := I)) (Ag.mo rfl h0)), (Ag.tr (Ag.st (Ag.st (Ag.rf (f := J)) (keyo (L := [(192, 193)]) (M := FwX12_work_l246) rfl rfl (show inW [(192, 193)] 192 = true from rfl))) (keyo (L := [(193, 194)]) (M := FwX12_work_l246) rfl rfl (show inW [(193, 194)] 193 = true from rfl))) (Ag.mo rfl h1))⟩)
theorem aX12_work_l189 {σ : Shp} {R : Nat → Nat → Option Nat} : ∀ (n : Nat) (I : Nat → Nat → Int32) (J : Nat → Nat → Int64) (x1 : Int32), Ok (gX12_work_l189 σ R n I J x1) (fun r => Ag FwX12_work_l189 I r.1 ∧ Ag FwX12_work_l189 J r.2.1) := by
  intro n
  induction n with
  | zero => intro I J x1; exact Ok_e rfl
  | succ n ih =>
    intro I J x1
    rw [gX12_work_l189]
    refine Ok_i (fun g_1 => ?_) (fun _ => ?_)
    · refine Ok_i (fun g_2 => ?_) (fun _ => ?_)
      · exact Ok_m (aX12_work_l246  _ _ _ _ _) (fun _ ⟨h0, h1⟩ => ⟨(Ag.tr (Ag.rf (f := I)) (Ag.mo rfl h0)), (Ag.tr (Ag.rf (f := J)) (Ag.mo rfl h1))⟩)
      · exact Ok_s ⟨(Ag.rf (f := I)), (Ag.rf (f := J))⟩
    · refine Ok_i (fun g_3 => ?_) (fun _ => ?_)
      · refine Ok_g (fun g_4 => ?_)
        refine Ok_i (fun g_5 => ?_) (fun _ => ?_)
        · exact Ok_m (ih _ _ _) (fun _ ⟨h0, h1⟩ => ⟨(Ag.tr (Ag.rf (f := I)) (Ag.mo rfl h0)), (Ag.tr (Ag.rf (f := J)) (Ag.mo rfl h1))⟩)
        · refine Ok_b (aX12_makeWitness) ?_
          intro J23 hr
          have h_7 := hr
          have m_8 : Ag FwX12_work_l189 J J23 := Ag.tr (Ag.rf (f := J)) (Ag.mo rfl h_7)
          exact Ok_m (ih _ _ _) (fun _ ⟨h0, h1⟩ => ⟨(Ag.tr (Ag.st (Ag.rf (f := I)) (show inW FwX12_work_l189 (key 114 116) = true from rfl)) (Ag.mo rfl h0)), (Ag.tr m_8 (Ag.mo rfl h1))⟩)
      · refine Ok_i (fun g_9 => ?_) (fun _ => ?_)
        · exact Ok_m (aX12_work_l246  _ _ _ _ _) (fun _ ⟨h0, h1⟩ => ⟨(Ag.tr (Ag.rf (f := I)) (Ag.mo rfl h0)), (Ag.tr (Ag.rf (f := J)) (Ag.mo rfl h1))⟩)
        · exact Ok_s ⟨(Ag.rf (f := I)), (Ag.rf (f := J))⟩
theorem aX12_work_b153 {q116 : (Nat → Nat → Int32) → (Nat → Nat → Int64) → (Int32) → (Option ((Nat → Nat → Int32) × (Nat → Nat → Int64) × (Int32)))} {σ : Shp} {R : Nat → Nat → Option Nat} {I : Nat → Nat → Int32} {J : Nat → Nat → Int64} {x1 : Int32} {x2 : Int32} (hq116 : ∀ (I : Nat → Nat → Int32) (J : Nat → Nat → Int64) (x1 : Int32), Ok (q116 I J x1) (fun r => Ag FwX12_work_l116 I r.1 ∧ Ag FwX12_work_l116 J r.2.1)) : Ok (gX12_work_b153 q116 σ R I J x1 x2) (fun r => Ag FwX12_work_b153 I r.1 ∧ Ag FwX12_work_b153 J r.2.1) := by
  unfold gX12_work_b153
  refine Ok_i (fun g_1 => ?_) (fun _ => ?_)
  · exact Ok_m (hq116 _ _ _) (fun _ ⟨h0, h1⟩ => ⟨(Ag.tr (Ag.rf (f := I)) (Ag.mo rfl h0)), (Ag.tr (Ag.rf (f := J)) (Ag.mo rfl h1))⟩)
  · refine Ok_b (aX12_liftRow) ?_
    intro J28 hr
    have h_2 := hr
    have m_3 : Ag FwX12_work_b153 J J28 := Ag.tr (Ag.rf (f := J)) (Ag.mo rfl h_2)
    refine Ok_b (aX12_clear) ?_
    intro rr hr
    obtain ⟨I30, J31⟩ := rr
    obtain ⟨h_4, h_5⟩ := hr
    have m_6 : Ag FwX12_work_b153 I I30 := Ag.tr (Ag.rf (f := I)) (Ag.mo rfl h_4)
    have m_7 : Ag FwX12_work_b153 J J31 := Ag.tr m_3 (Ag.mo rfl h_5)
    exact Ok_m (hq116 _ _ _) (fun _ ⟨h0, h1⟩ => ⟨(Ag.tr m_6 (Ag.mo rfl h0)), (Ag.tr m_7 (Ag.mo rfl h1))⟩)
theorem aX12_work_l126 {q116 : (Nat → Nat → Int32) → (Nat → Nat → Int64) → (Int32) → (Option ((Nat → Nat → Int32) × (Nat → Nat → Int64) × (Int32)))} {σ : Shp} {R : Nat → Nat → Option Nat} (hq116 : ∀ (I : Nat → Nat → Int32) (J : Nat → Nat → Int64) (x1 : Int32), Ok (q116 I J x1) (fun r => Ag FwX12_work_l116 I r.1 ∧ Ag FwX12_work_l116 J r.2.1)) : ∀ (n : Nat) (I : Nat → Nat → Int32) (J : Nat → Nat → Int64) (x1 : Int32) (x2 : Int32), Ok (gX12_work_l126 q116 σ R n I J x1 x2) (fun r => Ag FwX12_work_l126 I r.1 ∧ Ag FwX12_work_l126 J r.2.1) := by
  intro n
  induction n with
  | zero => intro I J x1 x2; exact Ok_e rfl
  | succ n ih =>
    intro I J x1 x2
    rw [gX12_work_l126]
    refine Ok_i (fun g_1 => ?_) (fun _ => ?_)
    · exact Ok_m (aX12_work_b153 hq116) (fun _ ⟨h0, h1⟩ => ⟨(Ag.tr (Ag.rf (f := I)) (Ag.mo rfl h0)), (Ag.tr (Ag.rf (f := J)) (Ag.mo rfl h1))⟩)
    · refine Ok_g (fun g_2 => ?_)
      refine Ok_i (fun g_3 => ?_) (fun _ => ?_)
      · exact Ok_m (ih _ _ _ _) (fun _ ⟨h0, h1⟩ => ⟨(Ag.tr (Ag.rf (f := I)) (Ag.mo rfl h0)), (Ag.tr (Ag.rf (f := J)) (Ag.mo rfl h1))⟩)
      · exact Ok_m (aX12_work_b153 hq116) (fun _ ⟨h0, h1⟩ => ⟨(Ag.tr (Ag.rf (f := I)) (Ag.mo rfl h0)), (Ag.tr (Ag.rf (f := J)) (Ag.mo rfl h1))⟩)
theorem aX12_work_l116 {σ : Shp} {R : Nat → Nat → Option Nat} : ∀ (n : Nat) (I : Nat → Nat → Int32) (J : Nat → Nat → Int64) (x1 : Int32), Ok (gX12_work_l116 σ R n I J x1) (fun r => Ag FwX12_work_l116 I r.1 ∧ Ag FwX12_work_l116 J r.2.1) := by
  intro n
  induction n with
  | zero => intro I J x1; exact Ok_e rfl
  | succ n ih =>
    intro I J x1
    rw [gX12_work_l116]
    refine Ok_i (fun g_1 => ?_) (fun _ => ?_)
    · exact Ok_m (aX12_work_l189  _ _ _ _) (fun _ ⟨h0, h1⟩ => ⟨(Ag.tr (Ag.st (Ag.st (Ag.rf (f := I)) (show inW FwX12_work_l116 (key 114 115) = true from rfl)) (show inW FwX12_work_l116 (key 114 116) = true from rfl)) (Ag.mo rfl h0)), (Ag.tr (Ag.rf (f := J)) (Ag.mo rfl h1))⟩)
    · exact Ok_m (aX12_work_l126 ih _ _ _ _ _) (fun _ ⟨h0, h1⟩ => ⟨(Ag.tr (Ag.rf (f := I)) (Ag.mo rfl h0)), (Ag.tr (Ag.rf (f := J)) (Ag.mo rfl h1))⟩)
theorem aX12_work_l9 {q2 : (Nat → Nat → Int32) → (Nat → Nat → Int64) → (Int32) → (Option ((Nat → Nat → Int32) × (Nat → Nat → Int64) × (Int32)))} {σ : Shp} {R : Nat → Nat → Option Nat} (hq2 : ∀ (I : Nat → Nat → Int32) (J : Nat → Nat → Int64) (x1 : Int32), Ok (q2 I J x1) (fun r => Ag FwX12_work_l2 I r.1 ∧ Ag FwX12_work_l2 J r.2.1)) : ∀ (n : Nat) (I : Nat → Nat → Int32) (J : Nat → Nat → Int64) (x1 : Int32) (x2 : Int32), Ok (gX12_work_l9 q2 σ R n I J x1 x2) (fun r => Ag FwX12_work_l9 I r.1 ∧ Ag FwX12_work_l9 J r.2.1) := by
  intro n
  induction n with
  | zero => intro I J x1 x2; exact Ok_e rfl
  | succ n ih =>
    intro I J x1 x2
    rw [gX12_work_l9]
    refine Ok_i (fun g_1 => ?_) (fun _ => ?_)
    · exact Ok_m (hq2 _ _ _) (fun _ ⟨h0, h1⟩ => ⟨(Ag.tr (Ag.rf (f := I)) (Ag.mo rfl h0)), (Ag.tr (Ag.rf (f := J)) (Ag.mo rfl h1))⟩)
    · refine Ok_i (fun g_2 => ?_) (fun _ => ?_)
      · refine Ok_i (fun g_3 => ?_) (fun _ => ?_)
        · refine Ok_g (fun g_4 => ?_)
          refine Ok_g (fun g_5 => ?_)
          refine Ok_g (fun g_6 => ?_)
          refine Ok_g (fun g_8 => ?_)
          exact Ok_m (ih _ _ _ _) (fun _ ⟨h0, h1⟩ => ⟨(Ag.tr (Ag.rf (f := I)) (Ag.mo rfl h0)), (Ag.tr (Ag.st (Ag.st (Ag.rf (f := J)) (keyo (L := [(189, 190)]) (M := FwX12_work_l9) rfl rfl (show inW [(189, 190)] 189 = true from rfl))) (keyo (L := [(190, 191)]) (M := FwX12_work_l9) rfl rfl (show inW [(190, 191)] 190 = true from rfl))) (Ag.mo rfl h1))⟩)
        · refine Ok_i (fun g_10 => ?_) (fun _ => ?_)
          · refine Ok_g (fun g_11 => ?_)
            refine Ok_g (fun g_13 => ?_)
            exact Ok_m (ih _ _ _ _) (fun _ ⟨h0, h1⟩ => ⟨(Ag.tr (Ag.rf (f := I)) (Ag.mo rfl h0)), (Ag.tr (Ag.st (Ag.st (Ag.rf (f := J)) (keyo (L := [(189, 190)]) (M := FwX12_work_l9) rfl rfl (show inW [(189, 190)] 189 = true from rfl))) (keyo (L := [(190, 191)]) (M := FwX12_work_l9) rfl rfl (show inW [(190, 191)] 190 = true from rfl))) (Ag.mo rfl h1))⟩)
          · refine Ok_g (fun g_15 => ?_)
            refine Ok_g (fun g_17 => ?_)
            exact Ok_m (ih _ _ _ _) (fun _ ⟨h0, h1⟩ => ⟨(Ag.tr (Ag.rf (f := I)) (Ag.mo rfl h0)), (Ag.tr (Ag.st (Ag.st (Ag.rf (f := J)) (keyo (L := [(189, 190)]) (M := FwX12_work_l9) rfl rfl (show inW [(189, 190)] 189 = true from rfl))) (keyo (L := [(190, 191)]) (M := FwX12_work_l9) rfl rfl (show inW [(190, 191)] 190 = true from rfl))) (Ag.mo rfl h1))⟩)
      · refine Ok_g (fun g_19 => ?_)
        refine Ok_g (fun g_20 => ?_)
        refine Ok_g (fun g_22 => ?_)
        exact Ok_m (ih _ _ _ _) (fun _ ⟨h0, h1⟩ => ⟨(Ag.tr (Ag.rf (f := I)) (Ag.mo rfl h0)), (Ag.tr (Ag.st (Ag.st (Ag.rf (f := J)) (keyo (L := [(189, 190)]) (M := FwX12_work_l9) rfl rfl (show inW [(189, 190)] 189 = true from rfl))) (keyo (L := [(190, 191)]) (M := FwX12_work_l9) rfl rfl (show inW [(190, 191)] 190 = true from rfl))) (Ag.mo rfl h1))⟩)
theorem aX12_work_l2 {σ : Shp} {R : Nat → Nat → Option Nat} : ∀ (n : Nat) (I : Nat → Nat → Int32) (J : Nat → Nat → Int64) (x1 : Int32), Ok (gX12_work_l2 σ R n I J x1) (fun r => Ag FwX12_work_l2 I r.1 ∧ Ag FwX12_work_l2 J r.2.1) := by
  intro n
  induction n with
  | zero => intro I J x1; exact Ok_e rfl
  | succ n ih =>
    intro I J x1
    rw [gX12_work_l2]
    refine Ok_i (fun g_1 => ?_) (fun _ => ?_)
    · exact Ok_m (aX12_work_l116  _ _ _ _) (fun _ ⟨h0, h1⟩ => ⟨(Ag.tr (Ag.st (Ag.rf (f := I)) (show inW FwX12_work_l2 (key 114 114) = true from rfl)) (Ag.mo rfl h0)), (Ag.tr (Ag.rf (f := J)) (Ag.mo rfl h1))⟩)
    · exact Ok_m (aX12_work_l9 ih _ _ _ _ _) (fun _ ⟨h0, h1⟩ => ⟨(Ag.tr (Ag.rf (f := I)) (Ag.mo rfl h0)), (Ag.tr (Ag.rf (f := J)) (Ag.mo rfl h1))⟩)
theorem aX12_work {σ : Shp} {I : Nat → Nat → Int32} {J : Nat → Nat → Int64} {R : Nat → Nat → Option Nat} : Ok (gX12_work σ I J R) (fun r => Ag FwX12_work I r.1 ∧ Ag FwX12_work J r.2.1) := by
  unfold gX12_work
  exact Ok_m (aX12_work_l2  _ _ _ _) (fun _ ⟨h0, h1⟩ => ⟨(Ag.tr (Ag.rf (f := I)) (Ag.mo rfl h0)), (Ag.tr (Ag.rf (f := J)) (Ag.mo rfl h1))⟩)
theorem aX12_count {J : Nat → Nat → Int64} {x1 : Int32} {x2 : Int32} {x3 : Int32} : Ok (gX12_count J x1 x2 x3) (fun r => Ag FwX12_count J r.1) := by
  unfold gX12_count
  refine Ok_i (fun g_1 => ?_) (fun _ => ?_)
  · exact Ok_s (Ag.rf (f := J))
  · refine Ok_i (fun g_2 => ?_) (fun _ => ?_)
    · exact Ok_s (Ag.rf (f := J))
    · refine Ok_g (fun g_3 => ?_)
      exact Ok_s (Ag.st (Ag.rf (f := J)) (keyo (L := [(195, 196)]) (M := FwX12_count) rfl rfl (show inW [(195, 196)] 195 = true from rfl)))
theorem aX12_parts {I : Nat → Nat → Int32} {x1 : Int32} {x2 : Int32} {x3 : Int32} {x4 : Int32} {x5 : Int32} : Ok (gX12_parts I x1 x2 x3 x4 x5) (fun r => Ag FwX12_parts I r.1) := by
  unfold gX12_parts
  refine Ok_i (fun g_1 => ?_) (fun _ => ?_)
  · exact Ok_s (Ag.rf (f := I))
  · refine Ok_i (fun g_2 => ?_) (fun _ => ?_)
    · exact Ok_s (Ag.rf (f := I))
    · refine Ok_i (fun g_3 => ?_) (fun _ => ?_)
      · exact Ok_s (Ag.rf (f := I))
      · refine Ok_i (fun g_4 => ?_) (fun _ => ?_)
        · exact Ok_s (Ag.rf (f := I))
        · refine Ok_g (fun g_5 => ?_)
          refine Ok_g (fun g_7 => ?_)
          refine Ok_g (fun g_9 => ?_)
          exact Ok_s (Ag.st (Ag.st (Ag.st (Ag.rf (f := I)) (keyo (L := [(196, 197)]) (M := FwX12_parts) rfl rfl (show inW [(196, 197)] 196 = true from rfl))) (keyo (L := [(197, 198)]) (M := FwX12_parts) rfl rfl (show inW [(197, 198)] 197 = true from rfl))) (keyo (L := [(198, 199)]) (M := FwX12_parts) rfl rfl (show inW [(198, 199)] 198 = true from rfl)))
theorem aX12_oneDay_l180 {σ : Shp} {I : Nat → Nat → Int32} {R : Nat → Nat → Option Nat} : ∀ (n : Nat) (J : Nat → Nat → Int64) (x1 : Int32) (x2 : Int32), Ok (gX12_oneDay_l180 σ I R n J x1 x2) (fun r => Ag FwX12_oneDay_l180 J r) := by
  intro n
  induction n with
  | zero => intro J x1 x2; exact Ok_e rfl
  | succ n ih =>
    intro J x1 x2
    rw [gX12_oneDay_l180]
    refine Ok_i (fun g_1 => ?_) (fun _ => ?_)
    · exact Ok_s (Ag.rf (f := J))
    · refine Ok_g (fun g_2 => ?_)
      refine Ok_i (fun g_3 => ?_) (fun _ => ?_)
      · refine Ok_g (fun g_4 => ?_)
        exact Ok_m (ih _ _ _) (fun _ hr => (Ag.tr (Ag.st (Ag.rf (f := J)) (keyo (L := [(195, 196)]) (M := FwX12_oneDay_l180) rfl rfl (show inW [(195, 196)] 195 = true from rfl))) (Ag.mo rfl hr)))
      · refine Ok_g (fun g_6 => ?_)
        exact Ok_m (ih _ _ _) (fun _ hr => (Ag.tr (Ag.st (Ag.rf (f := J)) (keyo (L := [(195, 196)]) (M := FwX12_oneDay_l180) rfl rfl (show inW [(195, 196)] 195 = true from rfl))) (Ag.mo rfl hr)))
theorem aX12_oneDay_l26 {σ : Shp} {I : Nat → Nat → Int32} {R : Nat → Nat → Option Nat} : ∀ (n : Nat) (J : Nat → Nat → Int64) (x1 : Int32) (x2 : Int32), Ok (gX12_oneDay_l26 σ I R n J x1 x2) (fun r => Ag FwX12_oneDay_l26 J r) := by
  intro n
  induction n with
  | zero => intro J x1 x2; exact Ok_e rfl
  | succ n ih =>
    intro J x1 x2
    rw [gX12_oneDay_l26]
    refine Ok_i (fun g_1 => ?_) (fun _ => ?_)
    · refine Ok_g (fun g_2 => ?_)
      refine Ok_g (fun g_3 => ?_)
      refine Ok_g (fun g_4 => ?_)
      exact Ok_m (aX12_oneDay_l180  _ _ _ _) (fun _ hr => (Ag.tr (Ag.st (Ag.rf (f := J)) (keyo (L := [(199, 200)]) (M := FwX12_oneDay_l26) rfl rfl (show inW [(199, 200)] 199 = true from rfl))) (Ag.mo rfl hr)))
    · refine Ok_g (fun g_6 => ?_)
      refine Ok_g (fun g_7 => ?_)
      refine Ok_g (fun g_9 => ?_)
      refine Ok_g (fun g_10 => ?_)
      refine Ok_g (fun g_12 => ?_)
      refine Ok_g (fun g_14 => ?_)
      refine Ok_b (aX12_partWhole) ?_
      intro J22 hr
      have h_15 := hr
      have m_16 : Ag FwX12_oneDay_l26 J J22 := Ag.tr (Ag.st (Ag.st (Ag.st (Ag.rf (f := J)) (keyo (L := [(186, 187)]) (M := FwX12_oneDay_l26) rfl rfl (show inW [(186, 187)] 186 = true from rfl))) (keyo (L := [(186, 187)]) (M := FwX12_oneDay_l26) rfl rfl (show inW [(186, 187)] 186 = true from rfl))) (keyo (L := [(186, 187)]) (M := FwX12_oneDay_l26) rfl rfl (show inW [(186, 187)] 186 = true from rfl))) (Ag.mo rfl h_15)
      refine Ok_g (fun g_17 => ?_)
      refine Ok_g (fun g_18 => ?_)
      refine Ok_i (fun g_20 => ?_) (fun _ => ?_)
      · exact Ok_m (ih _ _ _) (fun _ hr => (Ag.tr (Ag.st m_16 (keyo (L := [(199, 200)]) (M := FwX12_oneDay_l26) rfl rfl (show inW [(199, 200)] 199 = true from rfl))) (Ag.mo rfl hr)))
      · refine Ok_g (fun g_21 => ?_)
        refine Ok_g (fun g_22 => ?_)
        exact Ok_m (ih _ _ _) (fun _ hr => (Ag.tr (Ag.st (Ag.st m_16 (keyo (L := [(199, 200)]) (M := FwX12_oneDay_l26) rfl rfl (show inW [(199, 200)] 199 = true from rfl))) (keyo (L := [(199, 200)]) (M := FwX12_oneDay_l26) rfl rfl (show inW [(199, 200)] 199 = true from rfl))) (Ag.mo rfl hr)))
theorem aX12_oneDay_l2 {σ : Shp} {I : Nat → Nat → Int32} {R : Nat → Nat → Option Nat} : ∀ (n : Nat) (J : Nat → Nat → Int64) (x1 : Int32) (x2 : Int32), Ok (gX12_oneDay_l2 σ I R n J x1 x2) (fun r => Ag FwX12_oneDay_l2 J r) := by
  intro n
  induction n with
  | zero => intro J x1 x2; exact Ok_e rfl
  | succ n ih =>
    intro J x1 x2
    rw [gX12_oneDay_l2]
    refine Ok_i (fun g_1 => ?_) (fun _ => ?_)
    · exact Ok_m (aX12_oneDay_l26  _ _ _ _) (fun _ hr => (Ag.tr (Ag.rf (f := J)) (Ag.mo rfl hr)))
    · refine Ok_g (fun g_2 => ?_)
      exact Ok_m (ih _ _ _) (fun _ hr => (Ag.tr (Ag.st (Ag.rf (f := J)) (keyo (L := [(199, 200)]) (M := FwX12_oneDay_l2) rfl rfl (show inW [(199, 200)] 199 = true from rfl))) (Ag.mo rfl hr)))
theorem aX12_oneDay {σ : Shp} {I : Nat → Nat → Int32} {J : Nat → Nat → Int64} {R : Nat → Nat → Option Nat} {x1 : Int32} : Ok (gX12_oneDay σ I J R x1) (fun r => Ag FwX12_oneDay J r) := by
  unfold gX12_oneDay
  exact Ok_m (aX12_oneDay_l2  _ _ _ _) (fun _ hr => (Ag.tr (Ag.rf (f := J)) (Ag.mo rfl hr)))
theorem aX12_day_l30 {σ : Shp} {R : Nat → Nat → Option Nat} : ∀ (n : Nat) (I : Nat → Nat → Int32) (J : Nat → Nat → Int64) (x1 : Int32) (x2 : Int32), Ok (gX12_day_l30 σ R n I J x1 x2) (fun r => Ag FwX12_day_l30 I r.1 ∧ Ag FwX12_day_l30 J r.2.1) := by
  intro n
  induction n with
  | zero => intro I J x1 x2; exact Ok_e rfl
  | succ n ih =>
    intro I J x1 x2
    rw [gX12_day_l30]
    refine Ok_i (fun g_1 => ?_) (fun _ => ?_)
    · exact Ok_s ⟨(Ag.rf (f := I)), (Ag.rf (f := J))⟩
    · refine Ok_b (aX12_oneDay) ?_
      intro J1 hr
      have h_2 := hr
      have m_3 : Ag FwX12_day_l30 J J1 := Ag.tr (Ag.rf (f := J)) (Ag.mo rfl h_2)
      refine Ok_b (aX12_oneDay) ?_
      intro J3 hr
      have h_4 := hr
      have m_5 : Ag FwX12_day_l30 J J3 := Ag.tr m_3 (Ag.mo rfl h_4)
      refine Ok_i (fun g_7 => ?_) (fun _ => ?_)
      · exact Ok_m (ih _ _ _ _) (fun _ ⟨h0, h1⟩ => ⟨(Ag.tr (Ag.st (Ag.st (Ag.rf (f := I)) (show inW FwX12_day_l30 (key 114 125) = true from rfl)) (show inW FwX12_day_l30 (key 114 126) = true from rfl)) (Ag.mo rfl h0)), (Ag.tr m_5 (Ag.mo rfl h1))⟩)
      · exact Ok_m (ih _ _ _ _) (fun _ ⟨h0, h1⟩ => ⟨(Ag.tr (Ag.st (Ag.st (Ag.rf (f := I)) (show inW FwX12_day_l30 (key 114 125) = true from rfl)) (show inW FwX12_day_l30 (key 114 126) = true from rfl)) (Ag.mo rfl h0)), (Ag.tr m_5 (Ag.mo rfl h1))⟩)
theorem aX12_day {σ : Shp} {I : Nat → Nat → Int32} {J : Nat → Nat → Int64} {R : Nat → Nat → Option Nat} {x1 : Int32} : Ok (gX12_day σ I J R x1) (fun r => Ag FwX12_day I r.1 ∧ Ag FwX12_day J r.2.1) := by
  unfold gX12_day
  refine Ok_i (fun g_1 => ?_) (fun _ => ?_)
  · exact Ok_s ⟨(Ag.rf (f := I)), (Ag.rf (f := J))⟩
  · refine Ok_i (fun g_2 => ?_) (fun _ => ?_)
    · exact Ok_m (aX12_day_l30  _ _ _ _ _) (fun _ ⟨h0, h1⟩ => ⟨(Ag.tr (Ag.rf (f := I)) (Ag.mo rfl h0)), (Ag.tr (Ag.rf (f := J)) (Ag.mo rfl h1))⟩)
    · exact Ok_s ⟨(Ag.rf (f := I)), (Ag.rf (f := J))⟩
theorem aX12_spray_l14 {σ : Shp} {R : Nat → Nat → Option Nat} : ∀ (n : Nat) (I : Nat → Nat → Int32) (J : Nat → Nat → Int64) (x1 : Int32) (x2 : Int32), Ok (gX12_spray_l14 σ R n I J x1 x2) (fun r => Ag FwX12_spray_l14 I r.1 ∧ Ag FwX12_spray_l14 J r.2.1) := by
  intro n
  induction n with
  | zero => intro I J x1 x2; exact Ok_e rfl
  | succ n ih =>
    intro I J x1 x2
    rw [gX12_spray_l14]
    refine Ok_i (fun g_1 => ?_) (fun _ => ?_)
    · exact Ok_s ⟨(Ag.st (Ag.rf (f := I)) (show inW FwX12_spray_l14 (key 114 126) = true from rfl)), (Ag.rf (f := J))⟩
    · refine Ok_g (fun g_3 => ?_)
      exact Ok_m (ih _ _ _ _) (fun _ ⟨h0, h1⟩ => ⟨(Ag.tr (Ag.rf (f := I)) (Ag.mo rfl h0)), (Ag.tr (Ag.st (Ag.rf (f := J)) (keyo (L := [(195, 196)]) (M := FwX12_spray_l14) rfl rfl (show inW [(195, 196)] 195 = true from rfl))) (Ag.mo rfl h1))⟩)
theorem aX12_spray {σ : Shp} {I : Nat → Nat → Int32} {J : Nat → Nat → Int64} {R : Nat → Nat → Option Nat} {x1 : Int32} : Ok (gX12_spray σ I J R x1) (fun r => Ag FwX12_spray I r.1 ∧ Ag FwX12_spray J r.2.1) := by
  unfold gX12_spray
  refine Ok_i (fun g_1 => ?_) (fun _ => ?_)
  · exact Ok_s ⟨(Ag.rf (f := I)), (Ag.rf (f := J))⟩
  · exact Ok_m (aX12_spray_l14  _ _ _ _ _) (fun _ ⟨h0, h1⟩ => ⟨(Ag.tr (Ag.rf (f := I)) (Ag.mo rfl h0)), (Ag.tr (Ag.rf (f := J)) (Ag.mo rfl h1))⟩)
theorem aX12_layWide_l3 {σ : Shp} {R : Nat → Nat → Option Nat} : ∀ (n : Nat) (I : Nat → Nat → Int32) (x1 : Int32) (x2 : Int32) (x3 : Int64) (x5 : Int32), Ok (gX12_layWide_l3 σ R n I x1 x2 x3 x5) (fun r => Ag FwX12_layWide_l3 I r) := by
  intro n
  induction n with
  | zero => intro I x1 x2 x3 x5; exact Ok_e rfl
  | succ n ih =>
    intro I x1 x2 x3 x5
    rw [gX12_layWide_l3]
    refine Ok_i (fun g_1 => ?_) (fun _ => ?_)
    · exact Ok_s (Ag.rf (f := I))
    · refine Ok_g (fun g_2 => ?_)
      exact Ok_m (ih _ _ _ _ _) (fun _ hr => (Ag.tr (Ag.st (Ag.rf (f := I)) (keyo (L := [(201, 202)]) (M := FwX12_layWide_l3) rfl rfl (show inW [(201, 202)] 201 = true from rfl))) (Ag.mo rfl hr)))
theorem aX12_layWide {σ : Shp} {I : Nat → Nat → Int32} {R : Nat → Nat → Option Nat} {x1 : Int32} {x2 : Int32} {x3 : Int64} : Ok (gX12_layWide σ I R x1 x2 x3) (fun r => Ag FwX12_layWide I r) := by
  unfold gX12_layWide
  exact Ok_m (aX12_layWide_l3  _ _ _ _ _ _) (fun _ hr => (Ag.tr (Ag.rf (f := I)) (Ag.mo rfl hr)))
theorem aX12_write_b282 {q219 : (Nat → Nat → Int32) → (Int32) → (Int32) → (Option ((Nat → Nat → Int32) × (Int32)))} {σ : Shp} {J : Nat → Nat → Int64} {R : Nat → Nat → Option Nat} {I : Nat → Nat → Int32} {x3 : Int32} {x4 : Int32} {s0 : Option Nat} {s1 : Int32} {s2 : Int32} (hq219 : ∀ (I : Nat → Nat → Int32) (x3 : Int32) (x4 : Int32), Ok (q219 I x3 x4) (fun r => Ag FwX12_write_l219 I r.1)) (hs_s0 : Cin [(114, 115)] s0) : Ok (gX12_write_b282 q219 σ J R I x3 x4 s0 s1 s2) (fun r => Ag FwX12_write_b282 I r.1) := by
  unfold gX12_write_b282
  refine Ok_bc (fun a27 e_1 => ?_)
  refine Ok_g (fun g_2 => ?_)
  refine Ok_g (fun g_4 => ?_)
  refine Ok_g (fun g_5 => ?_)
  exact Ok_m (hq219 _ _ _) (fun _ hr => (Ag.tr (Ag.st (Ag.st (Ag.rf (f := I)) (keyv (a := a27) (c := 114) (inW_1 (inW_mo (L := [(114, 115)]) (M := [(114, 115)]) rfl (Cin.get hs_s0 e_1))) (show inW FwX12_write_b282 (key 114 132) = true from rfl))) (keyo (L := [(200, 201)]) (M := FwX12_write_b282) rfl rfl (show inW [(200, 201)] 200 = true from rfl))) (Ag.mo rfl hr)))
theorem aX12_write_l219 {σ : Shp} {J : Nat → Nat → Int64} {R : Nat → Nat → Option Nat} : ∀ (n : Nat) (I : Nat → Nat → Int32) (x3 : Int32) (x4 : Int32), Ok (gX12_write_l219 σ J R n I x3 x4) (fun r => Ag FwX12_write_l219 I r.1) := by
  intro n
  induction n with
  | zero => intro I x3 x4; exact Ok_e rfl
  | succ n ih =>
    intro I x3 x4
    rw [gX12_write_l219]
    refine Ok_i (fun g_1 => ?_) (fun _ => ?_)
    · exact Ok_s (Ag.st (Ag.st (Ag.rf (f := I)) (show inW FwX12_write_l219 (key 114 130) = true from rfl)) (show inW FwX12_write_l219 (key 114 129) = true from rfl))
    · refine Ok_i (fun g_4 => ?_) (fun _ => ?_)
      · refine Ok_i (fun g_7 => ?_) (fun _ => ?_)
        · exact Ok_s (Ag.st (Ag.st (Ag.st (Ag.rf (f := I)) (show inW FwX12_write_l219 (key 114 131) = true from rfl)) (show inW FwX12_write_l219 (key 114 132) = true from rfl)) (show inW FwX12_write_l219 (key 114 130) = true from rfl))
        · exact Ok_s (Ag.st (Ag.st (Ag.st (Ag.rf (f := I)) (show inW FwX12_write_l219 (key 114 131) = true from rfl)) (show inW FwX12_write_l219 (key 114 132) = true from rfl)) (show inW FwX12_write_l219 (key 114 130) = true from rfl))
      · refine Ok_i (fun g_10 => ?_) (fun _ => ?_)
        · exact Ok_m (aX12_write_b282 ih ⟨_, rfl, (show inW [(114, 115)] 114 = true from rfl)⟩) (fun _ hr => (Ag.tr (Ag.rf (f := I)) (Ag.mo rfl hr)))
        · exact Ok_m (aX12_write_b282 ih ⟨_, rfl, (show inW [(114, 115)] 114 = true from rfl)⟩) (fun _ hr => (Ag.tr (Ag.rf (f := I)) (Ag.mo rfl hr)))
theorem aX12_write_l150 {σ : Shp} {J : Nat → Nat → Int64} {R : Nat → Nat → Option Nat} : ∀ (n : Nat) (I : Nat → Nat → Int32) (x2 : Int32) (x3 : Int32), Ok (gX12_write_l150 σ J R n I x2 x3) (fun r => Ag FwX12_write_l150 I r.1) := by
  intro n
  induction n with
  | zero => intro I x2 x3; exact Ok_e rfl
  | succ n ih =>
    intro I x2 x3
    rw [gX12_write_l150]
    refine Ok_g (fun g_1 => ?_)
    refine Ok_i (fun g_2 => ?_) (fun _ => ?_)
    · refine Ok_t ?_
      intro r20
      refine Ok_b (aX12_layWide) ?_
      intro I22 hr
      have h_3 := hr
      have m_4 : Ag FwX12_write_l150 I I22 := Ag.tr (Ag.rf (f := I)) (Ag.mo rfl h_3)
      exact Ok_m (aX12_write_l219  _ _ _ _) (fun _ hr => (Ag.tr m_4 (Ag.mo rfl hr)))
    · refine Ok_g (fun g_5 => ?_)
      refine Ok_g (fun g_6 => ?_)
      refine Ok_b (aX12_layWide) ?_
      intro I40 hr
      have h_7 := hr
      have m_8 : Ag FwX12_write_l150 I I40 := Ag.tr (Ag.rf (f := I)) (Ag.mo rfl h_7)
      exact Ok_m (ih _ _ _) (fun _ hr => (Ag.tr m_8 (Ag.mo rfl hr)))
theorem aX12_write_l92 {σ : Shp} {J : Nat → Nat → Int64} {R : Nat → Nat → Option Nat} : ∀ (n : Nat) (I : Nat → Nat → Int32) (x2 : Int32) (x3 : Int32), Ok (gX12_write_l92 σ J R n I x2 x3) (fun r => Ag FwX12_write_l92 I r.1) := by
  intro n
  induction n with
  | zero => intro I x2 x3; exact Ok_e rfl
  | succ n ih =>
    intro I x2 x3
    rw [gX12_write_l92]
    refine Ok_i (fun g_1 => ?_) (fun _ => ?_)
    · refine Ok_b (aX12_layWide) ?_
      intro I11 hr
      have h_2 := hr
      have m_3 : Ag FwX12_write_l92 I I11 := Ag.tr (Ag.rf (f := I)) (Ag.mo rfl h_2)
      refine Ok_g (fun g_4 => ?_)
      refine Ok_g (fun g_5 => ?_)
      refine Ok_g (fun g_7 => ?_)
      refine Ok_g (fun g_8 => ?_)
      exact Ok_m (aX12_write_l150  _ _ _ _) (fun _ hr => (Ag.tr (Ag.st (Ag.st m_3 (keyo (L := [(201, 202)]) (M := FwX12_write_l92) rfl rfl (show inW [(201, 202)] 201 = true from rfl))) (keyo (L := [(201, 202)]) (M := FwX12_write_l92) rfl rfl (show inW [(201, 202)] 201 = true from rfl))) (Ag.mo rfl hr)))
    · refine Ok_g (fun g_10 => ?_)
      exact Ok_m (ih _ _ _) (fun _ hr => (Ag.tr (Ag.st (Ag.rf (f := I)) (keyo (L := [(201, 202)]) (M := FwX12_write_l92) rfl rfl (show inW [(201, 202)] 201 = true from rfl))) (Ag.mo rfl hr)))
theorem aX12_write {σ : Shp} {I : Nat → Nat → Int32} {J : Nat → Nat → Int64} {R : Nat → Nat → Option Nat} {x1 : Int32} : Ok (gX12_write σ I J R x1) (fun r => Ag FwX12_write I r.1) := by
  unfold gX12_write
  refine Ok_i (fun g_1 => ?_) (fun _ => ?_)
  · exact Ok_s (Ag.rf (f := I))
  · refine Ok_g (fun g_2 => ?_)
    refine Ok_i (fun g_3 => ?_) (fun _ => ?_)
    · refine Ok_i (fun g_4 => ?_) (fun _ => ?_)
      · refine Ok_b (aX12_no) ?_
        intro rr hr
        obtain ⟨I6, r7⟩ := rr
        have h_5 := hr
        have m_6 : Ag FwX12_write I I6 := Ag.tr (Ag.rf (f := I)) (Ag.mo rfl h_5)
        exact Ok_s m_6
      · refine Ok_b (aX12_no) ?_
        intro rr hr
        obtain ⟨I3, r4⟩ := rr
        have h_7 := hr
        have m_8 : Ag FwX12_write I I3 := Ag.tr (Ag.rf (f := I)) (Ag.mo rfl h_7)
        exact Ok_s m_8
    · refine Ok_g (fun g_9 => ?_)
      refine Ok_i (fun g_10 => ?_) (fun _ => ?_)
      · refine Ok_i (fun g_11 => ?_) (fun _ => ?_)
        · refine Ok_b (aX12_no) ?_
          intro rr hr
          obtain ⟨I49, r50⟩ := rr
          have h_12 := hr
          have m_13 : Ag FwX12_write I I49 := Ag.tr (Ag.rf (f := I)) (Ag.mo rfl h_12)
          exact Ok_s m_13
        · refine Ok_b (aX12_no) ?_
          intro rr hr
          obtain ⟨I46, r47⟩ := rr
          have h_14 := hr
          have m_15 : Ag FwX12_write I I46 := Ag.tr (Ag.rf (f := I)) (Ag.mo rfl h_14)
          exact Ok_s m_15
      · refine Ok_i (fun g_16 => ?_) (fun _ => ?_)
        · refine Ok_g (fun g_17 => ?_)
          refine Ok_i (fun g_18 => ?_) (fun _ => ?_)
          · exact Ok_s (Ag.rf (f := I))
          · refine Ok_i (fun g_19 => ?_) (fun _ => ?_)
            · exact Ok_s (Ag.rf (f := I))
            · refine Ok_i (fun g_20 => ?_) (fun _ => ?_)
              · exact Ok_s (Ag.rf (f := I))
              · exact Ok_m (aX12_write_l92  _ _ _ _) (fun _ hr => (Ag.tr (Ag.rf (f := I)) (Ag.mo rfl hr)))
        · exact Ok_s (Ag.rf (f := I))
theorem aX12_power {I : Nat → Nat → Int32} {x1 : Int32} : Ok (gX12_power I x1) (fun r => Ag FwX12_power I r.1) := by
  unfold gX12_power
  refine Ok_i (fun g_1 => ?_) (fun _ => ?_)
  · exact Ok_s (Ag.rf (f := I))
  · refine Ok_i (fun g_2 => ?_) (fun _ => ?_)
    · exact Ok_s (Ag.st (Ag.rf (f := I)) (show inW FwX12_power (key 114 132) = true from rfl))
    · exact Ok_s (Ag.rf (f := I))
theorem aX12_open1_b83 {q22 : (Nat → Nat → Int32) → (Int32) → (Option ((Nat → Nat → Int32) × (Int32)))} {σ : Shp} {R : Nat → Nat → Option Nat} {I : Nat → Nat → Int32} {x1 : Int32} {s0 : Option Nat} {s1 : Int32} (hq22 : ∀ (I : Nat → Nat → Int32) (x1 : Int32), Ok (q22 I x1) (fun r => Ag FwX12_open1_l22 I r.1)) (hs_s0 : Cin [(114, 115)] s0) : Ok (gX12_open1_b83 q22 σ R I x1 s0 s1) (fun r => Ag FwX12_open1_b83 I r.1) := by
  unfold gX12_open1_b83
  refine Ok_bc (fun a7 e_1 => ?_)
  refine Ok_g (fun g_2 => ?_)
  refine Ok_t ?_
  intro r10
  refine Ok_i (fun g_4 => ?_) (fun _ => ?_)
  · exact Ok_m (hq22 _ _) (fun _ hr => (Ag.tr (Ag.st (Ag.st (Ag.rf (f := I)) (keyv (a := a7) (c := 114) (inW_1 (inW_mo (L := [(114, 115)]) (M := [(114, 115)]) rfl (Cin.get hs_s0 e_1))) (show inW FwX12_open1_b83 (key 114 130) = true from rfl))) (show inW FwX12_open1_b83 (key 114 129) = true from rfl)) (Ag.mo rfl hr)))
  · refine Ok_t ?_
    intro r14
    refine Ok_i (fun g_6 => ?_) (fun _ => ?_)
    · exact Ok_m (hq22 _ _) (fun _ hr => (Ag.tr (Ag.st (Ag.st (Ag.rf (f := I)) (keyv (a := a7) (c := 114) (inW_1 (inW_mo (L := [(114, 115)]) (M := [(114, 115)]) rfl (Cin.get hs_s0 e_1))) (show inW FwX12_open1_b83 (key 114 130) = true from rfl))) (show inW FwX12_open1_b83 (key 114 129) = true from rfl)) (Ag.mo rfl hr)))
    · refine Ok_t ?_
      intro r18
      exact Ok_m (hq22 _ _) (fun _ hr => (Ag.tr (Ag.st (Ag.st (Ag.rf (f := I)) (keyv (a := a7) (c := 114) (inW_1 (inW_mo (L := [(114, 115)]) (M := [(114, 115)]) rfl (Cin.get hs_s0 e_1))) (show inW FwX12_open1_b83 (key 114 130) = true from rfl))) (show inW FwX12_open1_b83 (key 114 129) = true from rfl)) (Ag.mo rfl hr)))
theorem aX12_open1_l32 {q22 : (Nat → Nat → Int32) → (Int32) → (Option ((Nat → Nat → Int32) × (Int32)))} {σ : Shp} {R : Nat → Nat → Option Nat} (hq22 : ∀ (I : Nat → Nat → Int32) (x1 : Int32), Ok (q22 I x1) (fun r => Ag FwX12_open1_l22 I r.1)) : ∀ (n : Nat) (I : Nat → Nat → Int32) (x1 : Int32) (x2 : Int32) (x3 : Int32), Ok (gX12_open1_l32 q22 σ R n I x1 x2 x3) (fun r => Ag FwX12_open1_l32 I r.1) := by
  intro n
  induction n with
  | zero => intro I x1 x2 x3; exact Ok_e rfl
  | succ n ih =>
    intro I x1 x2 x3
    rw [gX12_open1_l32]
    refine Ok_i (fun g_1 => ?_) (fun _ => ?_)
    · refine Ok_i (fun g_2 => ?_) (fun _ => ?_)
      · exact Ok_m (aX12_open1_b83 hq22 ⟨_, rfl, (show inW [(114, 115)] 114 = true from rfl)⟩) (fun _ hr => (Ag.tr (Ag.rf (f := I)) (Ag.mo rfl hr)))
      · exact Ok_m (aX12_open1_b83 hq22 ⟨_, rfl, (show inW [(114, 115)] 114 = true from rfl)⟩) (fun _ hr => (Ag.tr (Ag.rf (f := I)) (Ag.mo rfl hr)))
    · refine Ok_i (fun g_3 => ?_) (fun _ => ?_)
      · refine Ok_g (fun g_4 => ?_)
        refine Ok_i (fun g_5 => ?_) (fun _ => ?_)
        · exact Ok_m (ih _ _ _ _) (fun _ hr => (Ag.tr (Ag.rf (f := I)) (Ag.mo rfl hr)))
        · exact Ok_m (ih _ _ _ _) (fun _ hr => (Ag.tr (Ag.rf (f := I)) (Ag.mo rfl hr)))
      · exact Ok_m (ih _ _ _ _) (fun _ hr => (Ag.tr (Ag.rf (f := I)) (Ag.mo rfl hr)))
theorem aX12_open1_l22 {σ : Shp} {R : Nat → Nat → Option Nat} : ∀ (n : Nat) (I : Nat → Nat → Int32) (x1 : Int32), Ok (gX12_open1_l22 σ R n I x1) (fun r => Ag FwX12_open1_l22 I r.1) := by
  intro n
  induction n with
  | zero => intro I x1; exact Ok_e rfl
  | succ n ih =>
    intro I x1
    rw [gX12_open1_l22]
    refine Ok_i (fun g_1 => ?_) (fun _ => ?_)
    · refine Ok_t ?_
      intro r5
      exact Ok_s (Ag.rf (f := I))
    · exact Ok_m (aX12_open1_l32 ih _ _ _ _ _) (fun _ hr => (Ag.tr (Ag.rf (f := I)) (Ag.mo rfl hr)))
theorem aX12_open1 {σ : Shp} {I : Nat → Nat → Int32} {R : Nat → Nat → Option Nat} : Ok (gX12_open1 σ I R) (fun r => Ag FwX12_open1 I r.1) := by
  unfold gX12_open1
  exact Ok_m (aX12_open1_l22  _ _ _) (fun _ hr => (Ag.tr (Ag.st (Ag.st (Ag.st (Ag.st (Ag.rf (f := I)) (show inW FwX12_open1 (key 114 131) = true from rfl)) (show inW FwX12_open1 (key 114 132) = true from rfl)) (show inW FwX12_open1 (key 114 129) = true from rfl)) (show inW FwX12_open1 (key 114 130) = true from rfl)) (Ag.mo rfl hr)))
theorem aX12_damage {I : Nat → Nat → Int32} {x1 : Int32} {x2 : Int32} {x3 : Int32} : Ok (gX12_damage I x1 x2 x3) (fun r => Ag FwX12_damage I r.1) := by
  unfold gX12_damage
  refine Ok_i (fun g_1 => ?_) (fun _ => ?_)
  · exact Ok_s (Ag.rf (f := I))
  · refine Ok_i (fun g_2 => ?_) (fun _ => ?_)
    · exact Ok_s (Ag.rf (f := I))
    · refine Ok_i (fun g_3 => ?_) (fun _ => ?_)
      · exact Ok_s (Ag.rf (f := I))
      · refine Ok_g (fun g_4 => ?_)
        exact Ok_s (Ag.st (Ag.rf (f := I)) (keyo (L := [(200, 201)]) (M := FwX12_damage) rfl rfl (show inW [(200, 201)] 200 = true from rfl)))
