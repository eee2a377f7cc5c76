def gX7_divideStock (σ : Shp) (I : Nat → Nat → Int32) (J : Nat → Nat → Int64) (R : Nat → Nat → Option Nat) (x1 : Int32) (x2 : Int32) : Option ((Nat → Nat → Int32) × (Nat → Nat → Int64) × (Nat → Nat → Option Nat)) :=
  if x2 = 0 then
    (gX7_arise I (6 : Int32) (0 : Int32)).bind fun I7 =>
    some (I7, J, R)
  else
    if ¬ (x1 < 0 ∨ 6 ≤ Int32.toNatClampNeg x1) then
    if ¬ (Int32.toInt64 x2) = 0 then
    (gX8_changeStock σ I J R x1 ((J 18 (Int32.toNatClampNeg x1)) / (Int32.toInt64 x2))).bind fun (I3, J4, R5) =>
    some (I3, J4, R5)
    else none
    else none
theorem pX7_divideStock {σ : Shp} {I : Nat → Nat → Int32} {J : Nat → Nat → Int64} {R : Nat → Nat → Option Nat} {x1 : Int32} {x2 : Int32} {I9 : Nat → Nat → Int32} {J9 : Nat → Nat → Int64} {R9 : Nat → Nat → Option Nat} (hS : Skel σ R) (h : gX7_divideStock σ I J R x1 x2 = some (I9, J9, R9)) : Skel σ R9 := by
  unfold gX7_divideStock at h
  rcases itc h with ⟨c, h⟩ | ⟨c, h⟩
  · obtain ⟨I7, hc8, h⟩ := ob h
    cases h
    exact hS
  · obtain ⟨g1, h⟩ := gd h
    obtain ⟨g2, h⟩ := gd h
    obtain ⟨⟨I3, J4, R5⟩, hc6, h⟩ := ob h
    have hS := pX8_changeStock hS hc6
    cases h
    exact hS
theorem eX7_divideStock {σ : Shp} {I : Nat → Nat → Int32} {J : Nat → Nat → Int64} {R : Nat → Nat → Option Nat} {x1 : Int32} {x2 : Int32} (hS : Skel σ R) : fX7_divideStock σ I J R 5 x1 x2 = gX7_divideStock σ I J R x1 x2 := by
  unfold fX7_divideStock gX7_divideStock
  refine bi (fun c => ?_) (fun c => ?_)
  · refine sg (kq5 hS) ?_
    refine bc (eX7_arise hS) (fun I7 hc8 => ?_)
    rfl
  · refine sg (kq5 hS) ?_
    refine sb (rq5_3 hS) ?_
    try with_reducible refine sg (kq5 hS) ?_
    refine sg (kq17 hS) ?_
    refine sb (rq17_0 hS) ?_
    refine sg (kq18 hS) ?_
    refine bgr (by rw [lq18 hS]) (fun g1 => ?_)
    refine bg (fun g2 => ?_)
    try with_reducible refine sg (kq17 hS) ?_
    refine bc (eX8_changeStock hS) (fun pp hc6 => ?_)
    obtain ⟨I3, J4, R5⟩ := pp
    have hS := pX8_changeStock hS hc6
    rfl
def gX7_doPlan_b60  (σ : Shp) (I : Nat → Nat → Int32) (R : Nat → Nat → Option Nat) : Option ((Shp) × (Nat → Nat → Int32) × (Nat → Nat → Option Nat)) :=
  some (σ, I, R)
theorem eX7_doPlan_b60 {σ : Shp} {I : Nat → Nat → Int32} {R : Nat → Nat → Option Nat}  (hS : Skel σ R) : fX7_doPlan_b60 σ I R = gX7_doPlan_b60 σ I R := by
  unfold fX7_doPlan_b60 gX7_doPlan_b60
  rfl
theorem pX7_doPlan_b60 {σ : Shp} {I : Nat → Nat → Int32} {R : Nat → Nat → Option Nat}  {σ9 : Shp} {I9 : Nat → Nat → Int32} {R9 : Nat → Nat → Option Nat} (hS : Skel σ R) (h : gX7_doPlan_b60 σ I R = some (σ9, I9, R9)) : Skel σ9 R9 := by
  unfold gX7_doPlan_b60 at h
  cases h
  exact hS
def gX7_doPlan (σ : Shp) (I : Nat → Nat → Int32) (R : Nat → Nat → Option Nat) (x1 : Int32) : Option ((Shp) × (Nat → Nat → Int32) × (Nat → Nat → Option Nat)) :=
  (gX6_firstWrong σ I R x1).bind fun (I1, r2) =>
  if r2 = (-1 : Int32) then
    if (I1 5 8) < (6 : Int32) then
      let I4 := u2 I1 5 8 ((I1 5 8) + (1 : Int32))
      (gX7_enterPlan σ I4 R (10 : Int32) x1).bind fun (σ5, I6, R7) =>
      gX7_doPlan_b60 σ5 I6 R7
    else
      (gX7_arise I1 (8 : Int32) (99 : Int32)).bind fun I9 =>
      gX7_doPlan_b60 σ I9 R
  else
    (gX7_arise I1 (8 : Int32) (98 : Int32)).bind fun I11 =>
    gX7_doPlan_b60 σ I11 R
theorem pX7_doPlan {σ : Shp} {I : Nat → Nat → Int32} {R : Nat → Nat → Option Nat} {x1 : Int32} {σ9 : Shp} {I9 : Nat → Nat → Int32} {R9 : Nat → Nat → Option Nat} (hS : Skel σ R) (h : gX7_doPlan σ I R x1 = some (σ9, I9, R9)) : Skel σ9 R9 := by
  unfold gX7_doPlan at h
  obtain ⟨⟨I1, r2⟩, hc3, h⟩ := ob h
  rcases itc h with ⟨c, h⟩ | ⟨c, h⟩
  · rcases itc h with ⟨c, h⟩ | ⟨c, h⟩
    · let I4 := u2 I1 5 8 ((I1 5 8) + (1 : Int32))
      obtain ⟨⟨σ5, I6, R7⟩, hc8, h⟩ := ob h
      have hS := pX7_enterPlan hS hc8
      exact pX7_doPlan_b60 hS h
    · obtain ⟨I9, hc10, h⟩ := ob h
      exact pX7_doPlan_b60 hS h
  · obtain ⟨I11, hc12, h⟩ := ob h
    exact pX7_doPlan_b60 hS h
theorem eX7_doPlan {σ : Shp} {I : Nat → Nat → Int32} {R : Nat → Nat → Option Nat} {x1 : Int32} (hS : Skel σ R) : fX7_doPlan σ I R 5 x1 = gX7_doPlan σ I R x1 := by
  unfold fX7_doPlan gX7_doPlan
  refine sg (kq5 hS) ?_
  refine sb (rq5_2 hS) ?_
  refine sg (kq9 hS) ?_
  refine bc (eX6_firstWrong hS) (fun pp hc3 => ?_)
  obtain ⟨I1, r2⟩ := pp
  refine bi (fun c => ?_) (fun c => ?_)
  · try with_reducible refine sg (kq5 hS) ?_
    refine bi (fun c => ?_) (fun c => ?_)
    · try with_reducible refine sg (kq5 hS) ?_
      try with_reducible refine sg (kq5 hS) ?_
      let I4 := u2 I1 5 8 ((I1 5 8) + (1 : Int32))
      try with_reducible refine sg (kq5 hS) ?_
      refine bc (eX7_enterPlan hS) (fun pp hc8 => ?_)
      obtain ⟨σ5, I6, R7⟩ := pp
      have hS := pX7_enterPlan hS hc8
      exact eX7_doPlan_b60 hS
    · try with_reducible refine sg (kq5 hS) ?_
      refine bc (eX7_arise hS) (fun I9 hc10 => ?_)
      exact eX7_doPlan_b60 hS
  · try with_reducible refine sg (kq5 hS) ?_
    refine bc (eX7_arise hS) (fun I11 hc12 => ?_)
    exact eX7_doPlan_b60 hS
def gX11_goesFor (σ : Shp) (I : Nat → Nat → Int32) (x0 : Option Nat) (x1 : Int32) : Option ((Int32)) :=
  onl x0
    (
      some (1 : Int32))
    (fun a1 =>
      if kdx σ a1 = 11 then
      if (I a1 0) = x1 then
        some (1 : Int32)
      else
        some (0 : Int32)
      else none)
theorem eX11_goesFor {σ : Shp} {I : Nat → Nat → Int32} {R : Nat → Nat → Option Nat} {x0 : Option Nat} {x1 : Int32} (hS : Skel σ R) : fX11_goesFor σ I x0 x1 = gX11_goesFor σ I x0 x1 := by
  unfold fX11_goesFor gX11_goesFor
  refine bo (fun ea1 => ?_) (fun a1 ha1 => ?_)
  · rfl
  · refine bg (fun g2 => ?_)
    refine bi (fun c => ?_) (fun c => ?_)
    · rfl
    · rfl
def gX11_takenFault (σ : Shp) (I : Nat → Nat → Int32) (x0 : Option Nat) (x1 : Int32) : Option ((Int32)) :=
  (gX11_goesFor σ I x0 x1).bind fun r1 =>
  if r1 = 0 then
    some (4 : Int32)
  else
    onl x0
      (
        some (1 : Int32))
      (fun a3 =>
        some (0 : Int32))
theorem eX11_takenFault {σ : Shp} {I : Nat → Nat → Int32} {R : Nat → Nat → Option Nat} {x0 : Option Nat} {x1 : Int32} (hS : Skel σ R) : fX11_takenFault σ I x0 x1 = gX11_takenFault σ I x0 x1 := by
  unfold fX11_takenFault gX11_takenFault
  refine bc (eX11_goesFor hS) (fun r1 hc2 => ?_)
  refine bi (fun c => ?_) (fun c => ?_)
  · rfl
  · refine bo (fun ea3 => ?_) (fun a3 ha3 => ?_)
    · rfl
    · rfl
def gX11_cellFault (σ : Shp) (I : Nat → Nat → Int32) (R : Nat → Nat → Option Nat) (x0 : Option Nat) (x1 : Int32) (x2 : Int32) : Option ((Int32)) :=
  (gX11_takenFault σ I x0 x1).bind fun r1 =>
  if r1 = 0 then
    onl x0
      (
        some r1)
      (fun a3 =>
        if x2 < 0 then
          some (2 : Int32)
        else
          if kdx σ a3 = 11 then
          ((R a3 1) : Option Nat).bind fun a5 =>
          if kdx σ a5 = 21 then
          if x2 < (Int32.ofNat (lnx σ a5)) then
            some (0 : Int32)
          else
            some (2 : Int32)
          else none
          else none)
  else
    some r1
theorem eX11_cellFault {σ : Shp} {I : Nat → Nat → Int32} {R : Nat → Nat → Option Nat} {x0 : Option Nat} {x1 : Int32} {x2 : Int32} (hS : Skel σ R) : fX11_cellFault σ I R x0 x1 x2 = gX11_cellFault σ I R x0 x1 x2 := by
  unfold fX11_cellFault gX11_cellFault
  refine bc (eX11_takenFault hS) (fun r1 hc2 => ?_)
  refine bi (fun c => ?_) (fun c => ?_)
  · refine bo (fun ea3 => ?_) (fun a3 ha3 => ?_)
    · rfl
    · refine bi (fun c => ?_) (fun c => ?_)
      · rfl
      · refine bg (fun g4 => ?_)
        refine bb (fun a5 ha5 => ?_)
        refine bg (fun g6 => ?_)
        refine bi (fun c => ?_) (fun c => ?_)
        · rfl
        · rfl
  · rfl
def gX8_changeCell (σ : Shp) (I : Nat → Nat → Int32) (J : Nat → Nat → Int64) (R : Nat → Nat → Option Nat) (x1 : Option Nat) (x2 : Int32) (x3 : Int64) : Option ((Nat → Nat → Int32) × (Nat → Nat → Int64) × (Nat → Nat → Option Nat)) :=
  onl x1
    (
      some (I, J, R))
    (fun a1 =>
      if x2 < 0 then
        some (I, J, R)
      else
        if kdx σ a1 = 11 then
        ((R a1 1) : Option Nat).bind fun a3 =>
        if kdx σ a3 = 21 then
        if x2 < (Int32.ofNat (lnx σ a3)) then
          if ¬ (x2 < 0 ∨ lnx σ a3 ≤ Int32.toNatClampNeg x2) then
          (gX8_noteChange σ I J R (some a1) x2 (J a3 (Int32.toNatClampNeg x2))).bind fun (I6, J7, R8) =>
          ((R8 a1 1) : Option Nat).bind fun a10 =>
          if kdx σ a10 = 21 then
          if ¬ (x2 < 0 ∨ lnx σ a10 ≤ Int32.toNatClampNeg x2) then
          let J13 := u2 J7 a10 (Int32.toNatClampNeg x2) x3
          some (I6, J13, R8)
          else none
          else none
          else none
        else
          some (I, J, R)
        else none
        else none)
theorem pX8_changeCell {σ : Shp} {I : Nat → Nat → Int32} {J : Nat → Nat → Int64} {R : Nat → Nat → Option Nat} {x1 : Option Nat} {x2 : Int32} {x3 : Int64} {I9 : Nat → Nat → Int32} {J9 : Nat → Nat → Int64} {R9 : Nat → Nat → Option Nat} (hS : Skel σ R) (h : gX8_changeCell σ I J R x1 x2 x3 = some (I9, J9, R9)) : Skel σ R9 := by
  unfold gX8_changeCell at h
  rcases onl_c h with ⟨ea1, h⟩ | ⟨a1, ha1, h⟩
  · cases h
    exact hS
  · rcases itc h with ⟨c, h⟩ | ⟨c, h⟩
    · cases h
      exact hS
    · obtain ⟨g2, h⟩ := gd h
      obtain ⟨a3, ha3, h⟩ := ob h
      obtain ⟨g4, h⟩ := gd h
      rcases itc h with ⟨c, h⟩ | ⟨c, h⟩
      · obtain ⟨g5, h⟩ := gd h
        obtain ⟨⟨I6, J7, R8⟩, hc9, h⟩ := ob h
        have hS := pX8_noteChange hS hc9
        obtain ⟨a10, ha10, h⟩ := ob h
        obtain ⟨g11, h⟩ := gd h
        obtain ⟨g12, h⟩ := gd h
        let J13 := u2 J7 a10 (Int32.toNatClampNeg x2) x3
        cases h
        exact hS
      · cases h
        exact hS
theorem eX8_changeCell {σ : Shp} {I : Nat → Nat → Int32} {J : Nat → Nat → Int64} {R : Nat → Nat → Option Nat} {x1 : Option Nat} {x2 : Int32} {x3 : Int64} (hS : Skel σ R) : fX8_changeCell σ I J R 17 x1 x2 x3 = gX8_changeCell σ I J R x1 x2 x3 := by
  unfold fX8_changeCell gX8_changeCell
  refine bo (fun ea1 => ?_) (fun a1 ha1 => ?_)
  · rfl
  · refine bi (fun c => ?_) (fun c => ?_)
    · rfl
    · refine bg (fun g2 => ?_)
      refine bb (fun a3 ha3 => ?_)
      refine bg (fun g4 => ?_)
      refine bi (fun c => ?_) (fun c => ?_)
      · refine bg (fun g5 => ?_)
        refine sg (kq17 hS) ?_
        refine bc (eX8_noteChange hS) (fun pp hc9 => ?_)
        obtain ⟨I6, J7, R8⟩ := pp
        have hS := pX8_noteChange hS hc9
        refine bb (fun a10 ha10 => ?_)
        refine bg (fun g11 => ?_)
        refine bg (fun g12 => ?_)
        let J13 := u2 J7 a10 (Int32.toNatClampNeg x2) x3
        rfl
      · rfl
def gX7_layCell (σ : Shp) (I : Nat → Nat → Int32) (J : Nat → Nat → Int64) (R : Nat → Nat → Option Nat) (x1 : Int32) (x2 : Int32) (x3 : Int32) : Option ((Nat → Nat → Int32) × (Nat → Nat → Int64) × (Nat → Nat → Option Nat)) :=
  if ¬ (x1 < 0 ∨ 16 ≤ Int32.toNatClampNeg x1) then
  (gX11_cellFault σ I R (R 6 (Int32.toNatClampNeg x1)) (4 : Int32) x2).bind fun r2 =>
  if r2 = 0 then
    (gX8_changeCell σ I J R (R 6 (Int32.toNatClampNeg x1)) x2 (Int32.toInt64 x3)).bind fun (I4, J5, R6) =>
    some (I4, J5, R6)
  else
    (gX7_arise I r2 (0 : Int32)).bind fun I8 =>
    some (I8, J, R)
  else none
theorem pX7_layCell {σ : Shp} {I : Nat → Nat → Int32} {J : Nat → Nat → Int64} {R : Nat → Nat → Option Nat} {x1 : Int32} {x2 : Int32} {x3 : Int32} {I9 : Nat → Nat → Int32} {J9 : Nat → Nat → Int64} {R9 : Nat → Nat → Option Nat} (hS : Skel σ R) (h : gX7_layCell σ I J R x1 x2 x3 = some (I9, J9, R9)) : Skel σ R9 := by
  unfold gX7_layCell at h
  obtain ⟨g1, h⟩ := gd h
  obtain ⟨r2, hc3, h⟩ := ob h
  rcases itc h with ⟨c, h⟩ | ⟨c, h⟩
  · obtain ⟨⟨I4, J5, R6⟩, hc7, h⟩ := ob h
    have hS := pX8_changeCell hS hc7
    cases h
    exact hS
  · obtain ⟨I8, hc9, h⟩ := ob h
    cases h
    exact hS
theorem eX7_layCell {σ : Shp} {I : Nat → Nat → Int32} {J : Nat → Nat → Int64} {R : Nat → Nat → Option Nat} {x1 : Int32} {x2 : Int32} {x3 : Int32} (hS : Skel σ R) : fX7_layCell σ I J R 5 x1 x2 x3 = gX7_layCell σ I J R x1 x2 x3 := by
  unfold fX7_layCell gX7_layCell
  refine sg (kq5 hS) ?_
  refine sb (rq5_0 hS) ?_
  refine sg (kq6 hS) ?_
  refine bgr (by rw [lq6 hS]) (fun g1 => ?_)
  refine bc (eX11_cellFault hS) (fun r2 hc3 => ?_)
  refine bi (fun c => ?_) (fun c => ?_)
  · try with_reducible refine sg (kq5 hS) ?_
    refine sb (rq5_3 hS) ?_
    try with_reducible refine sg (kq5 hS) ?_
    try with_reducible refine sg (kq6 hS) ?_
    try with_reducible refine sg (by rw [lq6 hS]; exact g1) ?_
    refine sg (kq17 hS) ?_
    refine bc (eX8_changeCell hS) (fun pp hc7 => ?_)
    obtain ⟨I4, J5, R6⟩ := pp
    have hS := pX8_changeCell hS hc7
    rfl
  · try with_reducible refine sg (kq5 hS) ?_
    refine bc (eX7_arise hS) (fun I8 hc9 => ?_)
    rfl
def gX7_readCell_b26  (σ : Shp) (I : Nat → Nat → Int32) (J : Nat → Nat → Int64) (R : Nat → Nat → Option Nat) (x2 : Int32) (x3 : Int32) (x4 : Option Nat) (s0 : Int32) : Option ((Nat → Nat → Int32) × (Nat → Nat → Int64) × (Nat → Nat → Option Nat)) :=
  if s0 = 0 then
    onl x4
      (
        (gX7_arise I s0 (0 : Int32)).bind fun I6 =>
        some (I6, J, R))
      (fun a5 =>
        if kdx σ a5 = 11 then
        ((R a5 1) : Option Nat).bind fun a9 =>
        if kdx σ a9 = 21 then
        if ¬ (x2 < 0 ∨ lnx σ a9 ≤ Int32.toNatClampNeg x2) then
        (gX8_changeStock σ I J R x3 (J a9 (Int32.toNatClampNeg x2))).bind fun (I12, J13, R14) =>
        some (I12, J13, R14)
        else none
        else none
        else none)
  else
    (gX7_arise I s0 (0 : Int32)).bind fun I3 =>
    some (I3, J, R)
theorem eX7_readCell_b26 {σ : Shp} {I : Nat → Nat → Int32} {J : Nat → Nat → Int64} {R : Nat → Nat → Option Nat} {x2 : Int32} {x3 : Int32} {x4 : Option Nat} {s0 : Int32} (hS : Skel σ R) : fX7_readCell_b26 σ 5 I J R x2 x3 x4 s0 = gX7_readCell_b26 σ I J R x2 x3 x4 s0 := by
  unfold fX7_readCell_b26 gX7_readCell_b26
  refine bi (fun c => ?_) (fun c => ?_)
  · refine bo (fun ea5 => ?_) (fun a5 ha5 => ?_)
    · refine sg (kq5 hS) ?_
      refine bc (eX7_arise hS) (fun I6 hc7 => ?_)
      rfl
    · refine sg (kq5 hS) ?_
      refine sb (rq5_3 hS) ?_
      refine bg (fun g8 => ?_)
      refine bb (fun a9 ha9 => ?_)
      refine bg (fun g10 => ?_)
      refine bg (fun g11 => ?_)
      refine sg (kq17 hS) ?_
      refine bc (eX8_changeStock hS) (fun pp hc15 => ?_)
      obtain ⟨I12, J13, R14⟩ := pp
      have hS := pX8_changeStock hS hc15
      rfl
  · refine sg (kq5 hS) ?_
    refine bc (eX7_arise hS) (fun I3 hc4 => ?_)
    rfl
theorem pX7_readCell_b26 {σ : Shp} {I : Nat → Nat → Int32} {J : Nat → Nat → Int64} {R : Nat → Nat → Option Nat} {x2 : Int32} {x3 : Int32} {x4 : Option Nat} {s0 : Int32} {I9 : Nat → Nat → Int32} {J9 : Nat → Nat → Int64} {R9 : Nat → Nat → Option Nat} (hS : Skel σ R) (h : gX7_readCell_b26 σ I J R x2 x3 x4 s0 = some (I9, J9, R9)) : Skel σ R9 := by
  unfold gX7_readCell_b26 at h
  rcases itc h with ⟨c, h⟩ | ⟨c, h⟩
  · rcases onl_c h with ⟨ea5, h⟩ | ⟨a5, ha5, h⟩
    · obtain ⟨I6, hc7, h⟩ := ob h
      cases h
      exact hS
    · obtain ⟨g8, h⟩ := gd h
      obtain ⟨a9, ha9, h⟩ := ob h
      obtain ⟨g10, h⟩ := gd h
      obtain ⟨g11, h⟩ := gd h
      obtain ⟨⟨I12, J13, R14⟩, hc15, h⟩ := ob h
      have hS := pX8_changeStock hS hc15
      cases h
      exact hS
  · obtain ⟨I3, hc4, h⟩ := ob h
    cases h
    exact hS
def gX7_readCell (σ : Shp) (I : Nat → Nat → Int32) (J : Nat → Nat → Int64) (R : Nat → Nat → Option Nat) (x1 : Int32) (x2 : Int32) (x3 : Int32) : Option ((Nat → Nat → Int32) × (Nat → Nat → Int64) × (Nat → Nat → Option Nat)) :=
  if ¬ (x1 < 0 ∨ 16 ≤ Int32.toNatClampNeg x1) then
  let v2 := (R 6 (Int32.toNatClampNeg x1))
  if (fX11_isStock x3) = 0 then
    gX7_readCell_b26 σ I J R x2 x3 v2 (2 : Int32)
  else
    (gX11_cellFault σ I R v2 (4 : Int32) x2).bind fun r16 =>
    gX7_readCell_b26 σ I J R x2 x3 v2 r16
  else none
theorem pX7_readCell {σ : Shp} {I : Nat → Nat → Int32} {J : Nat → Nat → Int64} {R : Nat → Nat → Option Nat} {x1 : Int32} {x2 : Int32} {x3 : Int32} {I9 : Nat → Nat → Int32} {J9 : Nat → Nat → Int64} {R9 : Nat → Nat → Option Nat} (hS : Skel σ R) (h : gX7_readCell σ I J R x1 x2 x3 = some (I9, J9, R9)) : Skel σ R9 := by
  unfold gX7_readCell at h
  obtain ⟨g1, h⟩ := gd h
  let v2 := (R 6 (Int32.toNatClampNeg x1))
  rcases itc h with ⟨c, h⟩ | ⟨c, h⟩
  · exact pX7_readCell_b26 hS h
  · obtain ⟨r16, hc17, h⟩ := ob h
    exact pX7_readCell_b26 hS h
theorem eX7_readCell {σ : Shp} {I : Nat → Nat → Int32} {J : Nat → Nat → Int64} {R : Nat → Nat → Option Nat} {x1 : Int32} {x2 : Int32} {x3 : Int32} (hS : Skel σ R) : fX7_readCell σ I J R 5 x1 x2 x3 = gX7_readCell σ I J R x1 x2 x3 := by
  unfold fX7_readCell gX7_readCell
  refine sg (kq5 hS) ?_
  refine sb (rq5_0 hS) ?_
  refine sg (kq6 hS) ?_
  refine bgr (by rw [lq6 hS]) (fun g1 => ?_)
  let v2 := (R 6 (Int32.toNatClampNeg x1))
  refine bi (fun c => ?_) (fun c => ?_)
  · exact eX7_readCell_b26 hS
  · refine bc (eX11_cellFault hS) (fun r16 hc17 => ?_)
    exact eX7_readCell_b26 hS
def gX7_writeCard (σ : Shp) (I : Nat → Nat → Int32) (J : Nat → Nat → Int64) (R : Nat → Nat → Option Nat) (x1 : Int32) (x2 : Int32) : Option ((Nat → Nat → Int32) × (Nat → Nat → Int64) × (Nat → Nat → Option Nat)) :=
  if ¬ (x1 < 0 ∨ 16 ≤ Int32.toNatClampNeg x1) then
  (gX11_takenFault σ I (R 6 (Int32.toNatClampNeg x1)) (17 : Int32)).bind fun r2 =>
  if r2 = 0 then
    (gX8_changeCell σ I J R (R 6 (Int32.toNatClampNeg x1)) (4 : Int32) (Int32.toInt64 x2)).bind fun (I4, J5, R6) =>
    some (I4, J5, R6)
  else
    (gX7_arise I r2 (0 : Int32)).bind fun I8 =>
    some (I8, J, R)
  else none
theorem pX7_writeCard {σ : Shp} {I : Nat → Nat → Int32} {J : Nat → Nat → Int64} {R : Nat → Nat → Option Nat} {x1 : Int32} {x2 : Int32} {I9 : Nat → Nat → Int32} {J9 : Nat → Nat → Int64} {R9 : Nat → Nat → Option Nat} (hS : Skel σ R) (h : gX7_writeCard σ I J R x1 x2 = some (I9, J9, R9)) : Skel σ R9 := by
  unfold gX7_writeCard at h
  obtain ⟨g1, h⟩ := gd h
  obtain ⟨r2, hc3, h⟩ := ob h
  rcases itc h with ⟨c, h⟩ | ⟨c, h⟩
  · obtain ⟨⟨I4, J5, R6⟩, hc7, h⟩ := ob h
    have hS := pX8_changeCell hS hc7
    cases h
    exact hS
  · obtain ⟨I8, hc9, h⟩ := ob h
    cases h
    exact hS
theorem eX7_writeCard {σ : Shp} {I : Nat → Nat → Int32} {J : Nat → Nat → Int64} {R : Nat → Nat → Option Nat} {x1 : Int32} {x2 : Int32} (hS : Skel σ R) : fX7_writeCard σ I J R 5 x1 x2 = gX7_writeCard σ I J R x1 x2 := by
  unfold fX7_writeCard gX7_writeCard
  refine sg (kq5 hS) ?_
  refine sb (rq5_0 hS) ?_
  refine sg (kq6 hS) ?_
  refine bgr (by rw [lq6 hS]) (fun g1 => ?_)
  refine bc (eX11_takenFault hS) (fun r2 hc3 => ?_)
  refine bi (fun c => ?_) (fun c => ?_)
  · try with_reducible refine sg (kq5 hS) ?_
    refine sb (rq5_3 hS) ?_
    try with_reducible refine sg (kq5 hS) ?_
    try with_reducible refine sg (kq6 hS) ?_
    try with_reducible refine sg (by rw [lq6 hS]; exact g1) ?_
    refine sg (kq17 hS) ?_
    refine bc (eX8_changeCell hS) (fun pp hc7 => ?_)
    obtain ⟨I4, J5, R6⟩ := pp
    have hS := pX8_changeCell hS hc7
    rfl
  · try with_reducible refine sg (kq5 hS) ?_
    refine bc (eX7_arise hS) (fun I8 hc9 => ?_)
    rfl
def gX7_perform_b246  (σ : Shp) (I : Nat → Nat → Int32) (J : Nat → Nat → Int64) (R : Nat → Nat → Option Nat) : Option ((Shp) × (Nat → Nat → Int32) × (Nat → Nat → Int64) × (Nat → Nat → Option Nat)) :=
  some (σ, I, J, R)
theorem eX7_perform_b246 {σ : Shp} {I : Nat → Nat → Int32} {J : Nat → Nat → Int64} {R : Nat → Nat → Option Nat}  (hS : Skel σ R) : fX7_perform_b246 σ I J R = gX7_perform_b246 σ I J R := by
  unfold fX7_perform_b246 gX7_perform_b246
  rfl
theorem pX7_perform_b246 {σ : Shp} {I : Nat → Nat → Int32} {J : Nat → Nat → Int64} {R : Nat → Nat → Option Nat}  {σ9 : Shp} {I9 : Nat → Nat → Int32} {J9 : Nat → Nat → Int64} {R9 : Nat → Nat → Option Nat} (hS : Skel σ R) (h : gX7_perform_b246 σ I J R = some (σ9, I9, J9, R9)) : Skel σ9 R9 := by
  unfold gX7_perform_b246 at h
  cases h
  exact hS
def gX7_perform_b234  (σ : Shp) (I : Nat → Nat → Int32) (J : Nat → Nat → Int64) (R : Nat → Nat → Option Nat) : Option ((Shp) × (Nat → Nat → Int32) × (Nat → Nat → Int64) × (Nat → Nat → Option Nat)) :=
  gX7_perform_b246 σ I J R
theorem eX7_perform_b234 {σ : Shp} {I : Nat → Nat → Int32} {J : Nat → Nat → Int64} {R : Nat → Nat → Option Nat}  (hS : Skel σ R) : fX7_perform_b234 σ I J R = gX7_perform_b234 σ I J R := by
  unfold fX7_perform_b234 gX7_perform_b234
  exact eX7_perform_b246 hS
theorem pX7_perform_b234 {σ : Shp} {I : Nat → Nat → Int32} {J : Nat → Nat → Int64} {R : Nat → Nat → Option Nat}  {σ9 : Shp} {I9 : Nat → Nat → Int32} {J9 : Nat → Nat → Int64} {R9 : Nat → Nat → Option Nat} (hS : Skel σ R) (h : gX7_perform_b234 σ I J R = some (σ9, I9, J9, R9)) : Skel σ9 R9 := by
  unfold gX7_perform_b234 at h
  exact pX7_perform_b246 hS h
def gX7_perform (σ : Shp) (I : Nat → Nat → Int32) (J : Nat → Nat → Int64) (R : Nat → Nat → Option Nat) (x1 : Int32) (x2 : Int32) (x3 : Int32) : Option ((Shp) × (Nat → Nat → Int32) × (Nat → Nat → Int64) × (Nat → Nat → Option Nat)) :=
  if (fX7_firstNumberFits x2 x3) = 0 then
    (gX7_arise I (2 : Int32) (0 : Int32)).bind fun I58 =>
    some (σ, I58, J, R)
  else
    (gX6_bAt I x1 (I 5 7)).bind fun r1 =>
    (gX6_cAt I x1 (I 5 7)).bind fun r3 =>
    if x2 = (1 : Int32) then
      if ¬ (x3 < 0 ∨ 6 ≤ Int32.toNatClampNeg x3) then
      (gX8_changeStock σ I J R x3 ((J 18 (Int32.toNatClampNeg x3)) + (Int32.toInt64 r1))).bind fun (I54, J55, R56) =>
      gX7_perform_b246 σ I54 J55 R56
      else none
    else
    if x2 = (2 : Int32) then
      (gX7_divideStock σ I J R x3 r1).bind fun (I49, J50, R51) =>
      gX7_perform_b246 σ I49 J50 R51
    else
    if x2 = (3 : Int32) then
      (gX7_layCell σ I J R x3 r1 r3).bind fun (I45, J46, R47) =>
      gX7_perform_b246 σ I45 J46 R47
    else
    if x2 = (4 : Int32) then
      (gX7_readCell σ I J R x3 r1 r3).bind fun (I41, J42, R43) =>
      gX7_perform_b246 σ I41 J42 R43
    else
    if x2 = (5 : Int32) then
      (gX7_writeCard σ I J R x3 r1).bind fun (I37, J38, R39) =>
      gX7_perform_b246 σ I37 J38 R39
    else
    if x2 = (6 : Int32) then
      (gX7_askPlant σ I J R x3 r1 r3).bind fun (I33, J34, R35) =>
      gX7_perform_b246 σ I33 J34 R35
    else
    if x2 = (7 : Int32) then
      (gX7_arise I (8 : Int32) x3).bind fun I31 =>
      gX7_perform_b246 σ I31 J R
    else
    if x2 = (8 : Int32) then
      if ¬ ((0 : Int32) < 0 ∨ 6 ≤ Int32.toNatClampNeg (0 : Int32)) then
      let I28 := u2 I 25 (Int32.toNatClampNeg (0 : Int32)) (2 : Int32)
      if ¬ ((5 : Int32) < 0 ∨ 6 ≤ Int32.toNatClampNeg (5 : Int32)) then
      let I30 := u2 I28 25 (Int32.toNatClampNeg (5 : Int32)) x3
      gX7_perform_b246 σ I30 J R
      else none
      else none
    else
    if x2 = (9 : Int32) then
      if ¬ (x3 < 0 ∨ 3 ≤ Int32.toNatClampNeg x3) then
      if (I 20 (Int32.toNatClampNeg x3)) = 0 then
        (gX7_arise I (7 : Int32) (0 : Int32)).bind fun I25 =>
        gX7_perform_b246 σ I25 J R
      else
        gX7_perform_b246 σ I J R
      else none
    else
    if x2 = (10 : Int32) then
      (gX7_doPlan σ I R x3).bind fun (σ20, I21, R22) =>
      gX7_perform_b234 σ20 I21 J R22
    else
    (gX7_beginBody σ I J R x1 x2 x3 r1).bind fun (σ15, I16, J17, R18) =>
    gX7_perform_b246 σ15 I16 J17 R18
theorem pX7_perform {σ : Shp} {I : Nat → Nat → Int32} {J : Nat → Nat → Int64} {R : Nat → Nat → Option Nat} {x1 : Int32} {x2 : Int32} {x3 : Int32} {σ9 : Shp} {I9 : Nat → Nat → Int32} {J9 : Nat → Nat → Int64} {R9 : Nat → Nat → Option Nat} (hS : Skel σ R) (h : gX7_perform σ I J R x1 x2 x3 = some (σ9, I9, J9, R9)) : Skel σ9 R9 := by
  unfold gX7_perform at h
  rcases itc h with ⟨c, h⟩ | ⟨c, h⟩
  · obtain ⟨I58, hc59, h⟩ := ob h
    cases h
    exact hS
  · obtain ⟨r1, hc2, h⟩ := ob h
    obtain ⟨r3, hc4, h⟩ := ob h
    rcases itc h with ⟨c, h⟩ | ⟨c, h⟩
    · obtain ⟨g53, h⟩ := gd h
      obtain ⟨⟨I54, J55, R56⟩, hc57, h⟩ := ob h
      have hS := pX8_changeStock hS hc57
      exact pX7_perform_b246 hS h
    · rcases itc h with ⟨c, h⟩ | ⟨c, h⟩
      · obtain ⟨⟨I49, J50, R51⟩, hc52, h⟩ := ob h
        have hS := pX7_divideStock hS hc52
        exact pX7_perform_b246 hS h
      · rcases itc h with ⟨c, h⟩ | ⟨c, h⟩
        · obtain ⟨⟨I45, J46, R47⟩, hc48, h⟩ := ob h
          have hS := pX7_layCell hS hc48
          exact pX7_perform_b246 hS h
        · rcases itc h with ⟨c, h⟩ | ⟨c, h⟩
          · obtain ⟨⟨I41, J42, R43⟩, hc44, h⟩ := ob h
            have hS := pX7_readCell hS hc44
            exact pX7_perform_b246 hS h
          · rcases itc h with ⟨c, h⟩ | ⟨c, h⟩
            · obtain ⟨⟨I37, J38, R39⟩, hc40, h⟩ := ob h
              have hS := pX7_writeCard hS hc40
              exact pX7_perform_b246 hS h
            · rcases itc h with ⟨c, h⟩ | ⟨c, h⟩
              · obtain ⟨⟨I33, J34, R35⟩, hc36, h⟩ := ob h
                have hS := pX7_askPlant hS hc36
                exact pX7_perform_b246 hS h
              · rcases itc h with ⟨c, h⟩ | ⟨c, h⟩
                · obtain ⟨I31, hc32, h⟩ := ob h
                  exact pX7_perform_b246 hS h
                · rcases itc h with ⟨c, h⟩ | ⟨c, h⟩
                  · obtain ⟨g27, h⟩ := gd h
                    let I28 := u2 I 25 (Int32.toNatClampNeg (0 : Int32)) (2 : Int32)
                    obtain ⟨g29, h⟩ := gd h
                    let I30 := u2 I28 25 (Int32.toNatClampNeg (5 : Int32)) x3
                    exact pX7_perform_b246 hS h
                  · rcases itc h with ⟨c, h⟩ | ⟨c, h⟩
                    · obtain ⟨g24, h⟩ := gd h
                      rcases itc h with ⟨c, h⟩ | ⟨c, h⟩
                      · obtain ⟨I25, hc26, h⟩ := ob h
                        exact pX7_perform_b246 hS h
                      · exact pX7_perform_b246 hS h
                    · rcases itc h with ⟨c, h⟩ | ⟨c, h⟩
                      · obtain ⟨⟨σ20, I21, R22⟩, hc23, h⟩ := ob h
                        have hS := pX7_doPlan hS hc23
                        exact pX7_perform_b234 hS h
                      · obtain ⟨⟨σ15, I16, J17, R18⟩, hc19, h⟩ := ob h
                        have hS := pX7_beginBody hS hc19
                        exact pX7_perform_b246 hS h
theorem eX7_perform {σ : Shp} {I : Nat → Nat → Int32} {J : Nat → Nat → Int64} {R : Nat → Nat → Option Nat} {x1 : Int32} {x2 : Int32} {x3 : Int32} (hS : Skel σ R) : fX7_perform σ I J R 5 x1 x2 x3 = gX7_perform σ I J R x1 x2 x3 := by
  unfold fX7_perform gX7_perform
  refine bi (fun c => ?_) (fun c => ?_)
  · refine sg (kq5 hS) ?_
    refine bc (eX7_arise hS) (fun I58 hc59 => ?_)
    rfl
  · refine sg (kq5 hS) ?_
    refine sb (rq5_2 hS) ?_
    try with_reducible refine sg (kq5 hS) ?_
    refine sg (kq9 hS) ?_
    refine bc (eX6_bAt hS) (fun r1 hc2 => ?_)
    try with_reducible refine sg (kq5 hS) ?_
    try with_reducible refine sg (kq5 hS) ?_
    try with_reducible refine sg (kq9 hS) ?_
    refine bc (eX6_cAt hS) (fun r3 hc4 => ?_)
    refine bi (fun c => ?_) (fun c => ?_)
    · try with_reducible refine sg (kq5 hS) ?_
      refine sb (rq5_3 hS) ?_
      try with_reducible refine sg (kq5 hS) ?_
      refine sg (kq17 hS) ?_
      refine sb (rq17_0 hS) ?_
      refine sg (kq18 hS) ?_
      refine bgr (by rw [lq18 hS]) (fun g53 => ?_)
      try with_reducible refine sg (kq17 hS) ?_
      refine bc (eX8_changeStock hS) (fun pp hc57 => ?_)
      obtain ⟨I54, J55, R56⟩ := pp
      have hS := pX8_changeStock hS hc57
      exact eX7_perform_b246 hS
    · refine bi (fun c => ?_) (fun c => ?_)
      · try with_reducible refine sg (kq5 hS) ?_
        refine bc (eX7_divideStock hS) (fun pp hc52 => ?_)
        obtain ⟨I49, J50, R51⟩ := pp
        have hS := pX7_divideStock hS hc52
        exact eX7_perform_b246 hS
      · refine bi (fun c => ?_) (fun c => ?_)
        · try with_reducible refine sg (kq5 hS) ?_
          refine bc (eX7_layCell hS) (fun pp hc48 => ?_)
          obtain ⟨I45, J46, R47⟩ := pp
          have hS := pX7_layCell hS hc48
          exact eX7_perform_b246 hS
        · refine bi (fun c => ?_) (fun c => ?_)
          · try with_reducible refine sg (kq5 hS) ?_
            refine bc (eX7_readCell hS) (fun pp hc44 => ?_)
            obtain ⟨I41, J42, R43⟩ := pp
            have hS := pX7_readCell hS hc44
            exact eX7_perform_b246 hS
          · refine bi (fun c => ?_) (fun c => ?_)
            · try with_reducible refine sg (kq5 hS) ?_
              refine bc (eX7_writeCard hS) (fun pp hc40 => ?_)
              obtain ⟨I37, J38, R39⟩ := pp
              have hS := pX7_writeCard hS hc40
              exact eX7_perform_b246 hS
            · refine bi (fun c => ?_) (fun c => ?_)
              · try with_reducible refine sg (kq5 hS) ?_
                refine bc (eX7_askPlant hS) (fun pp hc36 => ?_)
                obtain ⟨I33, J34, R35⟩ := pp
                have hS := pX7_askPlant hS hc36
                exact eX7_perform_b246 hS
              · refine bi (fun c => ?_) (fun c => ?_)
                · try with_reducible refine sg (kq5 hS) ?_
                  refine bc (eX7_arise hS) (fun I31 hc32 => ?_)
                  exact eX7_perform_b246 hS
                · refine bi (fun c => ?_) (fun c => ?_)
                  · try with_reducible refine sg (kq5 hS) ?_
                    refine sb (rq5_5 hS) ?_
                    refine sg (kq25 hS) ?_
                    refine bgr (by rw [lq25 hS]) (fun g27 => ?_)
                    let I28 := u2 I 25 (Int32.toNatClampNeg (0 : Int32)) (2 : Int32)
                    try with_reducible refine sg (kq5 hS) ?_
                    try with_reducible refine sg (kq25 hS) ?_
                    refine bgr (by rw [lq25 hS]) (fun g29 => ?_)
                    let I30 := u2 I28 25 (Int32.toNatClampNeg (5 : Int32)) x3
                    exact eX7_perform_b246 hS
                  · refine bi (fun c => ?_) (fun c => ?_)
                    · try with_reducible refine sg (kq5 hS) ?_
                      refine sb (rq5_3 hS) ?_
                      refine sg (kq17 hS) ?_
                      refine sb (rq17_2 hS) ?_
                      refine sg (kq20 hS) ?_
                      refine bgr (by rw [lq20 hS]) (fun g24 => ?_)
                      refine bi (fun c => ?_) (fun c => ?_)
                      · try with_reducible refine sg (kq5 hS) ?_
                        refine bc (eX7_arise hS) (fun I25 hc26 => ?_)
                        exact eX7_perform_b246 hS
                      · exact eX7_perform_b246 hS
                    · refine bi (fun c => ?_) (fun c => ?_)
                      · try with_reducible refine sg (kq5 hS) ?_
                        refine bc (eX7_doPlan hS) (fun pp hc23 => ?_)
                        obtain ⟨σ20, I21, R22⟩ := pp
                        have hS := pX7_doPlan hS hc23
                        exact eX7_perform_b234 hS
                      · try with_reducible refine sg (kq5 hS) ?_
                        refine bc (eX7_beginBody hS) (fun pp hc19 => ?_)
                        obtain ⟨σ15, I16, J17, R18⟩ := pp
                        have hS := pX7_beginBody hS hc19
                        exact eX7_perform_b246 hS
def gX7_stepBegins_b57  (σ : Shp) (R : Nat → Nat → Option Nat) (I : Nat → Nat → Int32) (x2 : Int32) (s0 : Option Nat) (s1 : Int32) : Option ((Nat → Nat → Int32) × (Int32)) :=
  (s0 : Option Nat).bind fun a6 =>
  if kdx σ a6 = 4 then
  let I8 := u2 I a6 3 s1
  if x2 = (17 : Int32) then
    some (I8, (0 : Int32))
  else
    if x2 = (18 : Int32) then
      some (I8, (0 : Int32))
    else
      if x2 = 0 then
        some (I8, (0 : Int32))
      else
        (gX7_counted I8).bind fun (I9, r10) =>
        if r10 = 0 then
          some (I9, (0 : Int32))
        else
          some (I9, (1 : Int32))
  else none
theorem eX7_stepBegins_b57 {σ : Shp} {I : Nat → Nat → Int32} {R : Nat → Nat → Option Nat} {x2 : Int32} {s0 : Option Nat} {s1 : Int32} (hS : Skel σ R) : fX7_stepBegins_b57 σ R 5 I x2 s0 s1 = gX7_stepBegins_b57 σ R I x2 s0 s1 := by
  unfold fX7_stepBegins_b57 gX7_stepBegins_b57
  refine bb (fun a6 ha6 => ?_)
  refine bg (fun g7 => ?_)
  refine bi (fun c => ?_) (fun c => ?_)
  · rfl
  · refine bi (fun c => ?_) (fun c => ?_)
    · rfl
    · refine bi (fun c => ?_) (fun c => ?_)
      · rfl
      · refine sg (kq5 hS) ?_
        refine bc (eX7_counted hS) (fun pp hc11 => ?_)
        obtain ⟨I9, r10⟩ := pp
        refine bi (fun c => ?_) (fun c => ?_)
        · rfl
        · rfl
def gX7_stepBegins (σ : Shp) (I : Nat → Nat → Int32) (R : Nat → Nat → Option Nat) (x1 : Option Nat) : Option ((Nat → Nat → Int32) × (Int32)) :=
  (x1 : Option Nat).bind fun a1 =>
  if kdx σ a1 = 4 then
  let I3 := u2 I 5 7 (I a1 3)
  (gX6_opAt I3 (I3 a1 1) (I3 5 7)).bind fun r4 =>
  if r4 < (11 : Int32) then
    gX7_stepBegins_b57 σ R I3 r4 (some a1) ((I3 5 7) + (1 : Int32))
  else
    (gX6_endAt I3 (I3 a1 1) (I3 5 7)).bind fun r12 =>
    gX7_stepBegins_b57 σ R I3 r4 (some a1) (r12 + (1 : Int32))
  else none
theorem eX7_stepBegins {σ : Shp} {I : Nat → Nat → Int32} {R : Nat → Nat → Option Nat} {x1 : Option Nat} (hS : Skel σ R) : fX7_stepBegins σ I R 5 x1 = gX7_stepBegins σ I R x1 := by
  unfold fX7_stepBegins gX7_stepBegins
  refine bb (fun a1 ha1 => ?_)
  refine bg (fun g2 => ?_)
  refine sg (kq5 hS) ?_
  try with_reducible refine sg (kq5 hS) ?_
  refine sb (rq5_2 hS) ?_
  try with_reducible refine sg (kq5 hS) ?_
  refine sg (kq9 hS) ?_
  refine bc (eX6_opAt hS) (fun r4 hc5 => ?_)
  refine bi (fun c => ?_) (fun c => ?_)
  · try with_reducible refine sg (kq5 hS) ?_
    exact eX7_stepBegins_b57 hS
  · try with_reducible refine sg (kq5 hS) ?_
    try with_reducible refine sg (kq5 hS) ?_
    try with_reducible refine sg (kq9 hS) ?_
    refine bc (eX6_endAt hS) (fun r12 hc13 => ?_)
    exact eX7_stepBegins_b57 hS
def gX8_forgetChanges (I : Nat → Nat → Int32) : Option ((Nat → Nat → Int32)) :=
  let I1 := u2 I 17 6 (0 : Int32)
  some I1
theorem eX8_forgetChanges {σ : Shp} {I : Nat → Nat → Int32} {R : Nat → Nat → Option Nat}  (hS : Skel σ R) : fX8_forgetChanges σ I 17 = gX8_forgetChanges I := by
  unfold fX8_forgetChanges gX8_forgetChanges
  refine sg (kq17 hS) ?_
  rfl
def gX7_wholeRun_b182  (σ : Shp) (I : Nat → Nat → Int32) (J : Nat → Nat → Int64) (R : Nat → Nat → Option Nat) : Option ((Shp) × (Nat → Nat → Int32) × (Nat → Nat → Int64) × (Nat → Nat → Option Nat) × (Int32)) :=
  if ¬ ((0 : Int32) < 0 ∨ 6 ≤ Int32.toNatClampNeg (0 : Int32)) then
  if (I 25 (Int32.toNatClampNeg (0 : Int32))) = (3 : Int32) then
    some (σ, I, J, R, (-30 : Int32))
  else
    if (I 25 (Int32.toNatClampNeg (0 : Int32))) = (2 : Int32) then
      some (σ, I, J, R, (1 : Int32))
    else
      if (I 25 (Int32.toNatClampNeg (0 : Int32))) = (1 : Int32) then
        if ¬ ((1 : Int32) < 0 ∨ 6 ≤ Int32.toNatClampNeg (1 : Int32)) then
        some (σ, I, J, R, ((-10 : Int32) - (I 25 (Int32.toNatClampNeg (1 : Int32)))))
        else none
      else
        some (σ, I, J, R, (0 : Int32))
  else none
theorem eX7_wholeRun_b182 {σ : Shp} {I : Nat → Nat → Int32} {J : Nat → Nat → Int64} {R : Nat → Nat → Option Nat}  (hS : Skel σ R) : fX7_wholeRun_b182 5 σ I J R = gX7_wholeRun_b182 σ I J R := by
  unfold fX7_wholeRun_b182 gX7_wholeRun_b182
  refine sg (kq5 hS) ?_
  refine sb (rq5_5 hS) ?_
  refine sg (kq25 hS) ?_
  refine bgr (by rw [lq25 hS]) (fun g14 => ?_)
  refine bi (fun c => ?_) (fun c => ?_)
  · rfl
  · try with_reducible refine sg (kq5 hS) ?_
    try with_reducible refine sg (kq25 hS) ?_
    try with_reducible refine sg (by rw [lq25 hS]; exact g14) ?_
    refine bi (fun c => ?_) (fun c => ?_)
    · rfl
    · try with_reducible refine sg (kq5 hS) ?_
      try with_reducible refine sg (kq25 hS) ?_
      try with_reducible refine sg (by rw [lq25 hS]; exact g14) ?_
      refine bi (fun c => ?_) (fun c => ?_)
      · try with_reducible refine sg (kq5 hS) ?_
        try with_reducible refine sg (kq25 hS) ?_
        refine bgr (by rw [lq25 hS]) (fun g15 => ?_)
        rfl
      · rfl
theorem pX7_wholeRun_b182 {σ : Shp} {I : Nat → Nat → Int32} {J : Nat → Nat → Int64} {R : Nat → Nat → Option Nat}  {σ9 : Shp} {I9 : Nat → Nat → Int32} {J9 : Nat → Nat → Int64} {R9 : Nat → Nat → Option Nat} {r9 : Int32} (hS : Skel σ R) (h : gX7_wholeRun_b182 σ I J R = some (σ9, I9, J9, R9, r9)) : Skel σ9 R9 := by
  unfold gX7_wholeRun_b182 at h
  obtain ⟨g14, h⟩ := gd h
  rcases itc h with ⟨c, h⟩ | ⟨c, h⟩
  · cases h
    exact hS
  · rcases itc h with ⟨c, h⟩ | ⟨c, h⟩
    · cases h
      exact hS
    · rcases itc h with ⟨c, h⟩ | ⟨c, h⟩
      · obtain ⟨g15, h⟩ := gd h
        cases h
        exact hS
      · cases h
        exact hS
def gX7_wholeRun_b176 (q72 : (Shp) → (Nat → Nat → Int32) → (Nat → Nat → Int64) → (Nat → Nat → Option Nat) → (Int32) → (Option ((Shp) × (Nat → Nat → Int32) × (Nat → Nat → Int64) × (Nat → Nat → Option Nat) × (Int32)))) (σ : Shp) (I : Nat → Nat → Int32) (J : Nat → Nat → Int64) (R : Nat → Nat → Option Nat) (x2 : Int32) : Option ((Shp) × (Nat → Nat → Int32) × (Nat → Nat → Int64) × (Nat → Nat → Option Nat) × (Int32)) :=
  let v20 := x2 + (1 : Int32)
  q72 σ I J R v20
theorem eX7_wholeRun_b176 {σ : Shp} {I : Nat → Nat → Int32} {J : Nat → Nat → Int64} {R : Nat → Nat → Option Nat} {x2 : Int32} (hS : Skel σ R) {qf72 q72 : (Shp) → (Nat → Nat → Int32) → (Nat → Nat → Int64) → (Nat → Nat → Option Nat) → (Int32) → (Option ((Shp) × (Nat → Nat → Int32) × (Nat → Nat → Int64) × (Nat → Nat → Option Nat) × (Int32)))} (hq72 : ∀ (σ : Shp) (I : Nat → Nat → Int32) (J : Nat → Nat → Int64) (R : Nat → Nat → Option Nat) (x2 : Int32), Skel σ R → qf72 σ I J R x2 = q72 σ I J R x2) : fX7_wholeRun_b176 qf72 5 σ I J R x2 = gX7_wholeRun_b176 q72 σ I J R x2 := by
  unfold fX7_wholeRun_b176 gX7_wholeRun_b176
  let v20 := x2 + (1 : Int32)
  exact hq72 _ _ _ _ _ hS
theorem pX7_wholeRun_b176 {σ : Shp} {I : Nat → Nat → Int32} {J : Nat → Nat → Int64} {R : Nat → Nat → Option Nat} {x2 : Int32} {σ9 : Shp} {I9 : Nat → Nat → Int32} {J9 : Nat → Nat → Int64} {R9 : Nat → Nat → Option Nat} {r9 : Int32} {q72 : (Shp) → (Nat → Nat → Int32) → (Nat → Nat → Int64) → (Nat → Nat → Option Nat) → (Int32) → (Option ((Shp) × (Nat → Nat → Int32) × (Nat → Nat → Int64) × (Nat → Nat → Option Nat) × (Int32)))} (pq72 : ∀ (σ : Shp) (I : Nat → Nat → Int32) (J : Nat → Nat → Int64) (R : Nat → Nat → Option Nat) (x2 : Int32), Skel σ R → q72 σ I J R x2 = some (σ9, I9, J9, R9, r9) → Skel σ9 R9) (hS : Skel σ R) (h : gX7_wholeRun_b176 q72 σ I J R x2 = some (σ9, I9, J9, R9, r9)) : Skel σ9 R9 := by
  unfold gX7_wholeRun_b176 at h
  let v20 := x2 + (1 : Int32)
  exact pq72 _ _ _ _ _ hS h
def gX7_wholeRun_l72   : Nat → (Shp) → (Nat → Nat → Int32) → (Nat → Nat → Int64) → (Nat → Nat → Option Nat) → (Int32) → Option ((Shp) × (Nat → Nat → Int32) × (Nat → Nat → Int64) × (Nat → Nat → Option Nat) × (Int32))
  | 0, _, _, _, _, _ => none
  | n + 1, σ, I, J, R, x2 =>
    if (1000000 : Int32) ≤ x2 then
      gX7_wholeRun_b182 σ I J R
    else
      if (I 5 6) ≤ 0 then
        gX7_wholeRun_b182 σ I J R
      else
        (gX7_top I R).bind fun r16 =>
        onl r16
          (
            let I19 := u2 I 5 6 (0 : Int32)
            gX7_wholeRun_b176 (gX7_wholeRun_l72 n) σ I19 J R x2)
          (fun a18 =>
            if ¬ ((0 : Int32) < 0 ∨ 6 ≤ Int32.toNatClampNeg (0 : Int32)) then
            if (I 25 (Int32.toNatClampNeg (0 : Int32))) = 0 then
              if kdx σ a18 = 4 then
              if (I a18 3) < (I a18 4) then
                (gX7_stepBegins σ I R (some a18)).bind fun (I27, r28) =>
                if r28 = 0 then
                  gX7_wholeRun_b176 (gX7_wholeRun_l72 n) σ I27 J R x2
                else
                  (gX6_opAt I27 (I27 a18 1) (I27 5 7)).bind fun r30 =>
                  (gX6_aAt I27 (I27 a18 1) (I27 5 7)).bind fun r32 =>
                  (gX7_perform σ I27 J R (I27 a18 1) r30 r32).bind fun (σ34, I35, J36, R37) =>
                  gX7_wholeRun_b176 (gX7_wholeRun_l72 n) σ34 I35 J36 R37 x2
              else
                (gX7_leave σ I J R (some a18)).bind fun (I39, J40, R41) =>
                gX7_wholeRun_b176 (gX7_wholeRun_l72 n) σ I39 J40 R41 x2
              else none
            else
              (gX7_leave σ I J R (some a18)).bind fun (I22, J23, R24) =>
              gX7_wholeRun_b176 (gX7_wholeRun_l72 n) σ I22 J23 R24 x2
            else none)
theorem eX7_wholeRun_l72  : ∀ (n : Nat) (σ : Shp) (I : Nat → Nat → Int32) (J : Nat → Nat → Int64) (R : Nat → Nat → Option Nat) (x2 : Int32), Skel σ R → fX7_wholeRun_l72 5 n σ I J R x2 = gX7_wholeRun_l72 n σ I J R x2 := by
  intro n
  induction n with
  | zero => intro σ I J R x2 hS; rfl
  | succ n ih =>
    intro σ I J R x2 hS
    rw [fX7_wholeRun_l72, gX7_wholeRun_l72]
    refine bi (fun c => ?_) (fun c => ?_)
    · exact eX7_wholeRun_b182 hS
    · refine sg (kq5 hS) ?_
      refine bi (fun c => ?_) (fun c => ?_)
      · exact eX7_wholeRun_b182 hS
      · try with_reducible refine sg (kq5 hS) ?_
        refine bc (eX7_top hS) (fun r16 hc17 => ?_)
        refine bo (fun ea18 => ?_) (fun a18 ha18 => ?_)
        · try with_reducible refine sg (kq5 hS) ?_
          let I19 := u2 I 5 6 (0 : Int32)
          exact eX7_wholeRun_b176 hS ih
        · try with_reducible refine sg (kq5 hS) ?_
          refine sb (rq5_5 hS) ?_
          refine sg (kq25 hS) ?_
          refine bgr (by rw [lq25 hS]) (fun g21 => ?_)
          refine bi (fun c => ?_) (fun c => ?_)
          · refine bg (fun g26 => ?_)
            refine bi (fun c => ?_) (fun c => ?_)
            · try with_reducible refine sg (kq5 hS) ?_
              refine bc (eX7_stepBegins hS) (fun pp hc29 => ?_)
              obtain ⟨I27, r28⟩ := pp
              refine bi (fun c => ?_) (fun c => ?_)
              · exact eX7_wholeRun_b176 hS ih
              · try with_reducible refine sg (kq5 hS) ?_
                refine sb (rq5_2 hS) ?_
                try with_reducible refine sg (kq5 hS) ?_
                refine sg (kq9 hS) ?_
                refine bc (eX6_opAt hS) (fun r30 hc31 => ?_)
                try with_reducible refine sg (kq5 hS) ?_
                try with_reducible refine sg (kq5 hS) ?_
                try with_reducible refine sg (kq9 hS) ?_
                refine bc (eX6_aAt hS) (fun r32 hc33 => ?_)
                try with_reducible refine sg (kq5 hS) ?_
                refine bc (eX7_perform hS) (fun pp hc38 => ?_)
                obtain ⟨σ34, I35, J36, R37⟩ := pp
                have hS := pX7_perform hS hc38
                exact eX7_wholeRun_b176 hS ih
            · try with_reducible refine sg (kq5 hS) ?_
              refine bc (eX7_leave hS) (fun pp hc42 => ?_)
              obtain ⟨I39, J40, R41⟩ := pp
              have hS := pX7_leave hS hc42
              exact eX7_wholeRun_b176 hS ih
          · try with_reducible refine sg (kq5 hS) ?_
            refine bc (eX7_leave hS) (fun pp hc25 => ?_)
            obtain ⟨I22, J23, R24⟩ := pp
            have hS := pX7_leave hS hc25
            exact eX7_wholeRun_b176 hS ih
theorem pX7_wholeRun_l72  {σ9 : Shp} {I9 : Nat → Nat → Int32} {J9 : Nat → Nat → Int64} {R9 : Nat → Nat → Option Nat} {r9 : Int32} : ∀ (n : Nat) (σ : Shp) (I : Nat → Nat → Int32) (J : Nat → Nat → Int64) (R : Nat → Nat → Option Nat) (x2 : Int32), Skel σ R → gX7_wholeRun_l72 n σ I J R x2 = some (σ9, I9, J9, R9, r9) → Skel σ9 R9 := by
  intro n
  induction n with
  | zero =>
    intro σ I J R x2 hS h
    have h : none = some _ := h
    cases h
  | succ n ih =>
    intro σ I J R x2 hS h
    rw [gX7_wholeRun_l72] at h
    rcases itc h with ⟨c, h⟩ | ⟨c, h⟩
    · exact pX7_wholeRun_b182 hS h
    · rcases itc h with ⟨c, h⟩ | ⟨c, h⟩
      · exact pX7_wholeRun_b182 hS h
      · obtain ⟨r16, hc17, h⟩ := ob h
        rcases onl_c h with ⟨ea18, h⟩ | ⟨a18, ha18, h⟩
        · let I19 := u2 I 5 6 (0 : Int32)
          exact pX7_wholeRun_b176 ih hS h
        · obtain ⟨g21, h⟩ := gd h
          rcases itc h with ⟨c, h⟩ | ⟨c, h⟩
          · obtain ⟨g26, h⟩ := gd h
            rcases itc h with ⟨c, h⟩ | ⟨c, h⟩
            · obtain ⟨⟨I27, r28⟩, hc29, h⟩ := ob h
              rcases itc h with ⟨c, h⟩ | ⟨c, h⟩
              · exact pX7_wholeRun_b176 ih hS h
              · obtain ⟨r30, hc31, h⟩ := ob h
                obtain ⟨r32, hc33, h⟩ := ob h
                obtain ⟨⟨σ34, I35, J36, R37⟩, hc38, h⟩ := ob h
                have hS := pX7_perform hS hc38
                exact pX7_wholeRun_b176 ih hS h
            · obtain ⟨⟨I39, J40, R41⟩, hc42, h⟩ := ob h
              have hS := pX7_leave hS hc42
              exact pX7_wholeRun_b176 ih hS h
          · obtain ⟨⟨I22, J23, R24⟩, hc25, h⟩ := ob h
            have hS := pX7_leave hS hc25
            exact pX7_wholeRun_b176 ih hS h
def gX7_wholeRun_b70  (σ : Shp) (I : Nat → Nat → Int32) (J : Nat → Nat → Int64) (R : Nat → Nat → Option Nat) : Option ((Shp) × (Nat → Nat → Int32) × (Nat → Nat → Int64) × (Nat → Nat → Option Nat) × (Int32)) :=
  gX7_wholeRun_l72 FUx σ I J R (0 : Int32)
theorem eX7_wholeRun_b70 {σ : Shp} {I : Nat → Nat → Int32} {J : Nat → Nat → Int64} {R : Nat → Nat → Option Nat}  (hS : Skel σ R) : fX7_wholeRun_b70 5 σ I J R = gX7_wholeRun_b70 σ I J R := by
  unfold fX7_wholeRun_b70 gX7_wholeRun_b70
  exact eX7_wholeRun_l72 _ _ _ _ _ _ hS
theorem pX7_wholeRun_b70 {σ : Shp} {I : Nat → Nat → Int32} {J : Nat → Nat → Int64} {R : Nat → Nat → Option Nat}  {σ9 : Shp} {I9 : Nat → Nat → Int32} {J9 : Nat → Nat → Int64} {R9 : Nat → Nat → Option Nat} {r9 : Int32} (hS : Skel σ R) (h : gX7_wholeRun_b70 σ I J R = some (σ9, I9, J9, R9, r9)) : Skel σ9 R9 := by
  unfold gX7_wholeRun_b70 at h
  exact pX7_wholeRun_l72 _ _ _ _ _ _ hS h
def gX7_wholeRun_l44   : Nat → (Shp) → (Nat → Nat → Int32) → (Nat → Nat → Int64) → (Nat → Nat → Option Nat) → (Int32) → (Int32) → Option ((Shp) × (Nat → Nat → Int32) × (Nat → Nat → Int64) × (Nat → Nat → Option Nat) × (Int32))
  | 0, _, _, _, _, _, _ => none
  | n + 1, σ, I, J, R, x1, x2 =>
    if (6 : Int32) ≤ x2 then
      (gX7_enterPlan σ I R (21 : Int32) x1).bind fun (σ10, I11, R12) =>
      gX7_wholeRun_b70 σ10 I11 J R12
    else
      if ¬ (x2 < 0 ∨ 6 ≤ Int32.toNatClampNeg x2) then
      let I44 := u2 I 25 (Int32.toNatClampNeg x2) (0 : Int32)
      let v45 := x2 + (1 : Int32)
      gX7_wholeRun_l44 n σ I44 J R x1 v45
      else none
theorem eX7_wholeRun_l44  : ∀ (n : Nat) (σ : Shp) (I : Nat → Nat → Int32) (J : Nat → Nat → Int64) (R : Nat → Nat → Option Nat) (x1 : Int32) (x2 : Int32), Skel σ R → fX7_wholeRun_l44 5 n σ I J R x1 x2 = gX7_wholeRun_l44 n σ I J R x1 x2 := by
  intro n
  induction n with
  | zero => intro σ I J R x1 x2 hS; rfl
  | succ n ih =>
    intro σ I J R x1 x2 hS
    rw [fX7_wholeRun_l44, gX7_wholeRun_l44]
    refine bi (fun c => ?_) (fun c => ?_)
    · refine sg (kq5 hS) ?_
      refine bc (eX7_enterPlan hS) (fun pp hc13 => ?_)
      obtain ⟨σ10, I11, R12⟩ := pp
      have hS := pX7_enterPlan hS hc13
      exact eX7_wholeRun_b70 hS
    · refine sg (kq5 hS) ?_
      refine sb (rq5_5 hS) ?_
      refine sg (kq25 hS) ?_
      refine bgr (by rw [lq25 hS]) (fun g43 => ?_)
      let I44 := u2 I 25 (Int32.toNatClampNeg x2) (0 : Int32)
      let v45 := x2 + (1 : Int32)
      exact ih _ _ _ _ _ _ hS
theorem pX7_wholeRun_l44  {σ9 : Shp} {I9 : Nat → Nat → Int32} {J9 : Nat → Nat → Int64} {R9 : Nat → Nat → Option Nat} {r9 : Int32} : ∀ (n : Nat) (σ : Shp) (I : Nat → Nat → Int32) (J : Nat → Nat → Int64) (R : Nat → Nat → Option Nat) (x1 : Int32) (x2 : Int32), Skel σ R → gX7_wholeRun_l44 n σ I J R x1 x2 = some (σ9, I9, J9, R9, r9) → Skel σ9 R9 := by
  intro n
  induction n with
  | zero =>
    intro σ I J R x1 x2 hS h
    have h : none = some _ := h
    cases h
  | succ n ih =>
    intro σ I J R x1 x2 hS h
    rw [gX7_wholeRun_l44] at h
    rcases itc h with ⟨c, h⟩ | ⟨c, h⟩
    · obtain ⟨⟨σ10, I11, R12⟩, hc13, h⟩ := ob h
      have hS := pX7_enterPlan hS hc13
      exact pX7_wholeRun_b70 hS h
    · obtain ⟨g43, h⟩ := gd h
      let I44 := u2 I 25 (Int32.toNatClampNeg x2) (0 : Int32)
      let v45 := x2 + (1 : Int32)
      exact ih _ _ _ _ _ _ hS h
def gX7_wholeRun (σ : Shp) (I : Nat → Nat → Int32) (J : Nat → Nat → Int64) (R : Nat → Nat → Option Nat) (x1 : Int32) : Option ((Shp) × (Nat → Nat → Int32) × (Nat → Nat → Int64) × (Nat → Nat → Option Nat) × (Int32)) :=
  (gX8_forgetChanges I).bind fun I1 =>
  let I3 := u2 I1 5 8 (0 : Int32)
  let I4 := u2 I3 5 9 (0 : Int32)
  let I5 := u2 I4 5 10 (0 : Int32)
  let I6 := u2 I5 5 11 (0 : Int32)
  let I7 := u2 I6 5 12 (0 : Int32)
  let I8 := u2 I7 5 13 (0 : Int32)
  let I9 := u2 I8 5 6 (0 : Int32)
  gX7_wholeRun_l44 FUx σ I9 J R x1 (0 : Int32)
theorem pX7_wholeRun {σ : Shp} {I : Nat → Nat → Int32} {J : Nat → Nat → Int64} {R : Nat → Nat → Option Nat} {x1 : Int32} {σ9 : Shp} {I9 : Nat → Nat → Int32} {J9 : Nat → Nat → Int64} {R9 : Nat → Nat → Option Nat} {r9 : Int32} (hS : Skel σ R) (h : gX7_wholeRun σ I J R x1 = some (σ9, I9, J9, R9, r9)) : Skel σ9 R9 := by
  unfold gX7_wholeRun at h
  obtain ⟨I1, hc2, h⟩ := ob h
  let I3 := u2 I1 5 8 (0 : Int32)
  let I4 := u2 I3 5 9 (0 : Int32)
  let I5 := u2 I4 5 10 (0 : Int32)
  let I6 := u2 I5 5 11 (0 : Int32)
  let I7 := u2 I6 5 12 (0 : Int32)
  let I8 := u2 I7 5 13 (0 : Int32)
  let I9 := u2 I8 5 6 (0 : Int32)
  exact pX7_wholeRun_l44 _ _ _ _ _ _ _ hS h
theorem eX7_wholeRun {σ : Shp} {I : Nat → Nat → Int32} {J : Nat → Nat → Int64} {R : Nat → Nat → Option Nat} {x1 : Int32} (hS : Skel σ R) : fX7_wholeRun σ I J R 5 x1 = gX7_wholeRun σ I J R x1 := by
  unfold fX7_wholeRun gX7_wholeRun
  refine sg (kq5 hS) ?_
  refine sb (rq5_3 hS) ?_
  refine sg (kq17 hS) ?_
  refine bc (eX8_forgetChanges hS) (fun I1 hc2 => ?_)
  try with_reducible refine sg (kq5 hS) ?_
  let I3 := u2 I1 5 8 (0 : Int32)
  try with_reducible refine sg (kq5 hS) ?_
  let I4 := u2 I3 5 9 (0 : Int32)
  try with_reducible refine sg (kq5 hS) ?_
  let I5 := u2 I4 5 10 (0 : Int32)
  try with_reducible refine sg (kq5 hS) ?_
  let I6 := u2 I5 5 11 (0 : Int32)
  try with_reducible refine sg (kq5 hS) ?_
  let I7 := u2 I6 5 12 (0 : Int32)
  try with_reducible refine sg (kq5 hS) ?_
  let I8 := u2 I7 5 13 (0 : Int32)
  try with_reducible refine sg (kq5 hS) ?_
  let I9 := u2 I8 5 6 (0 : Int32)
  exact eX7_wholeRun_l44 _ _ _ _ _ _ _ hS
def gX7_faultOut (I : Nat → Nat → Int32) : Option ((Int32)) :=
  if ¬ ((0 : Int32) < 0 ∨ 6 ≤ Int32.toNatClampNeg (0 : Int32)) then
  if (I 25 (Int32.toNatClampNeg (0 : Int32))) = (1 : Int32) then
    if ¬ ((1 : Int32) < 0 ∨ 6 ≤ Int32.toNatClampNeg (1 : Int32)) then
    some (I 25 (Int32.toNatClampNeg (1 : Int32)))
    else none
  else
    some (0 : Int32)
  else none
theorem eX7_faultOut {σ : Shp} {I : Nat → Nat → Int32} {R : Nat → Nat → Option Nat}  (hS : Skel σ R) : fX7_faultOut σ I R 5 = gX7_faultOut I := by
  unfold fX7_faultOut gX7_faultOut
  refine sg (kq5 hS) ?_
  refine sb (rq5_5 hS) ?_
  refine sg (kq25 hS) ?_
  refine bgr (by rw [lq25 hS]) (fun g1 => ?_)
  refine bi (fun c => ?_) (fun c => ?_)
  · try with_reducible refine sg (kq5 hS) ?_
    try with_reducible refine sg (kq25 hS) ?_
    refine bgr (by rw [lq25 hS]) (fun g2 => ?_)
    rfl
  · rfl
def gX7_toldOf_b15  (σ : Shp) (I : Nat → Nat → Int32) (R : Nat → Nat → Option Nat) (x1 : Int32) (s0 : Int32) : Option ((Int32)) :=
  if x1 = (0 : Int32) then
    if ¬ ((0 : Int32) < 0 ∨ 6 ≤ Int32.toNatClampNeg (0 : Int32)) then
    if (I 25 (Int32.toNatClampNeg (0 : Int32))) = (2 : Int32) then
      if ¬ ((5 : Int32) < 0 ∨ 6 ≤ Int32.toNatClampNeg (5 : Int32)) then
      some (I 25 (Int32.toNatClampNeg (5 : Int32)))
      else none
    else
      some (0 : Int32)
    else none
  else
  if x1 = (1 : Int32) then
    some (I 5 9)
  else
  if x1 = (2 : Int32) then
    if s0 = 0 then
      some (-1 : Int32)
    else
      if ¬ ((3 : Int32) < 0 ∨ 6 ≤ Int32.toNatClampNeg (3 : Int32)) then
      some (I 25 (Int32.toNatClampNeg (3 : Int32)))
      else none
  else
  if x1 = (3 : Int32) then
    if s0 = 0 then
      some (0 : Int32)
    else
      if ¬ ((4 : Int32) < 0 ∨ 6 ≤ Int32.toNatClampNeg (4 : Int32)) then
      some (I 25 (Int32.toNatClampNeg (4 : Int32)))
      else none
  else
  if x1 = (4 : Int32) then
    some (I 5 10)
  else
  if x1 = (5 : Int32) then
    some (I 5 11)
  else
  if x1 = (6 : Int32) then
    some (I 5 12)
  else
  if x1 = (7 : Int32) then
    if s0 = 0 then
      some (0 : Int32)
    else
      if ¬ ((2 : Int32) < 0 ∨ 6 ≤ Int32.toNatClampNeg (2 : Int32)) then
      some (I 25 (Int32.toNatClampNeg (2 : Int32)))
      else none
  else
  some (I 5 13)
theorem eX7_toldOf_b15 {σ : Shp} {I : Nat → Nat → Int32} {R : Nat → Nat → Option Nat} {x1 : Int32} {s0 : Int32} (hS : Skel σ R) : fX7_toldOf_b15 σ I R 5 x1 s0 = gX7_toldOf_b15 σ I R x1 s0 := by
  unfold fX7_toldOf_b15 gX7_toldOf_b15
  refine bi (fun c => ?_) (fun c => ?_)
  · refine sg (kq5 hS) ?_
    refine sb (rq5_5 hS) ?_
    refine sg (kq25 hS) ?_
    refine bgr (by rw [lq25 hS]) (fun g13 => ?_)
    refine bi (fun c => ?_) (fun c => ?_)
    · try with_reducible refine sg (kq5 hS) ?_
      try with_reducible refine sg (kq25 hS) ?_
      refine bgr (by rw [lq25 hS]) (fun g14 => ?_)
      rfl
    · rfl
  · refine bi (fun c => ?_) (fun c => ?_)
    · refine sg (kq5 hS) ?_
      rfl
    · refine bi (fun c => ?_) (fun c => ?_)
      · refine bi (fun c => ?_) (fun c => ?_)
        · rfl
        · refine sg (kq5 hS) ?_
          refine sb (rq5_5 hS) ?_
          refine sg (kq25 hS) ?_
          refine bgr (by rw [lq25 hS]) (fun g12 => ?_)
          rfl
      · refine bi (fun c => ?_) (fun c => ?_)
        · refine bi (fun c => ?_) (fun c => ?_)
          · rfl
          · refine sg (kq5 hS) ?_
            refine sb (rq5_5 hS) ?_
            refine sg (kq25 hS) ?_
            refine bgr (by rw [lq25 hS]) (fun g11 => ?_)
            rfl
        · refine bi (fun c => ?_) (fun c => ?_)
          · refine sg (kq5 hS) ?_
            rfl
          · refine bi (fun c => ?_) (fun c => ?_)
            · refine sg (kq5 hS) ?_
              rfl
            · refine bi (fun c => ?_) (fun c => ?_)
              · refine sg (kq5 hS) ?_
                rfl
              · refine bi (fun c => ?_) (fun c => ?_)
                · refine bi (fun c => ?_) (fun c => ?_)
                  · rfl
                  · refine sg (kq5 hS) ?_
                    refine sb (rq5_5 hS) ?_
                    refine sg (kq25 hS) ?_
                    refine bgr (by rw [lq25 hS]) (fun g10 => ?_)
                    rfl
                · refine sg (kq5 hS) ?_
                  rfl
def gX7_toldOf (σ : Shp) (I : Nat → Nat → Int32) (R : Nat → Nat → Option Nat) (x1 : Int32) : Option ((Int32)) :=
  if ¬ ((0 : Int32) < 0 ∨ 6 ≤ Int32.toNatClampNeg (0 : Int32)) then
  if (I 25 (Int32.toNatClampNeg (0 : Int32))) = (1 : Int32) then
    gX7_toldOf_b15 σ I R x1 (1 : Int32)
  else
    gX7_toldOf_b15 σ I R x1 (0 : Int32)
  else none
theorem eX7_toldOf {σ : Shp} {I : Nat → Nat → Int32} {R : Nat → Nat → Option Nat} {x1 : Int32} (hS : Skel σ R) : fX7_toldOf σ I R 5 x1 = gX7_toldOf σ I R x1 := by
  unfold fX7_toldOf gX7_toldOf
  refine sg (kq5 hS) ?_
  refine sb (rq5_5 hS) ?_
  refine sg (kq25 hS) ?_
  refine bgr (by rw [lq25 hS]) (fun g1 => ?_)
  refine bi (fun c => ?_) (fun c => ?_)
  · exact eX7_toldOf_b15 hS
  · exact eX7_toldOf_b15 hS
def gX9_lineAdded_b55  (σ : Shp) (R : Nat → Nat → Option Nat) (I : Nat → Nat → Int32) (x1 : Int32) (x2 : Int32) (x3 : Int32) (x4 : Int32) : Option ((Nat → Nat → Int32) × (Int32)) :=
  if x4 < (8 : Int32) then
    if ¬ (x1 < 0 ∨ 3 ≤ Int32.toNatClampNeg x1) then
    if ¬ (x4 < 0 ∨ 8 ≤ Int32.toNatClampNeg x4) then
    let I5 := u2 I (29 + Int32.toNatClampNeg x1) (Int32.toNatClampNeg x4) x2
    if ¬ (x1 < 0 ∨ 3 ≤ Int32.toNatClampNeg x1) then
    if ¬ (x4 < 0 ∨ 8 ≤ Int32.toNatClampNeg x4) then
    let I8 := u2 I5 (33 + Int32.toNatClampNeg x1) (Int32.toNatClampNeg x4) x3
    if ¬ (x1 < 0 ∨ 3 ≤ Int32.toNatClampNeg x1) then
    let I10 := u2 I8 36 (Int32.toNatClampNeg x1) (x4 + (1 : Int32))
    some (I10, (x4 + (1 : Int32)))
    else none
    else none
    else none
    else none
    else none
  else
    some (I, (-4 : Int32))
theorem eX9_lineAdded_b55 {σ : Shp} {I : Nat → Nat → Int32} {R : Nat → Nat → Option Nat} {x1 : Int32} {x2 : Int32} {x3 : Int32} {x4 : Int32} (hS : Skel σ R) : fX9_lineAdded_b55 σ R 27 I x1 x2 x3 x4 = gX9_lineAdded_b55 σ R I x1 x2 x3 x4 := by
  unfold fX9_lineAdded_b55 gX9_lineAdded_b55
  refine bi (fun c => ?_) (fun c => ?_)
  · refine sg (kq27 hS) ?_
    refine sb (rq27_0 hS) ?_
    refine sg (kq28 hS) ?_
    refine bgr (by rw [lq28 hS]) (fun g3 => ?_)
    refine sb (rr28 hS g3) ?_
    refine sg (kr28 hS g3) ?_
    refine bgr (by rw [lr28 hS g3]) (fun g4 => ?_)
    try with_reducible refine sg (kq27 hS) ?_
    refine sb (rq27_1 hS) ?_
    refine sg (kq32 hS) ?_
    refine bgr (by rw [lq32 hS]) (fun g6 => ?_)
    refine sb (rr32 hS g6) ?_
    refine sg (kr32 hS g6) ?_
    refine bgr (by rw [lr32 hS g6]) (fun g7 => ?_)
    try with_reducible refine sg (kq27 hS) ?_
    refine sb (rq27_2 hS) ?_
    refine sg (kq36 hS) ?_
    refine bgr (by rw [lq36 hS]) (fun g9 => ?_)
    rfl
  · rfl
def gX9_lineAdded (σ : Shp) (I : Nat → Nat → Int32) (R : Nat → Nat → Option Nat) (x1 : Int32) (x2 : Int32) (x3 : Int32) : Option ((Nat → Nat → Int32) × (Int32)) :=
  if ¬ (x1 < 0 ∨ 3 ≤ Int32.toNatClampNeg x1) then
  let v2 := (I 36 (Int32.toNatClampNeg x1))
  if x2 < (-1000000 : Int32) then
    some (I, (-2 : Int32))
  else
    if (1000000 : Int32) < x2 then
      some (I, (-2 : Int32))
    else
      if x3 < (-1000000 : Int32) then
        some (I, (-2 : Int32))
      else
        if (1000000 : Int32) < x3 then
          some (I, (-2 : Int32))
        else
          if v2 ≤ 0 then
            gX9_lineAdded_b55 σ R I x1 x2 x3 v2
          else
            if ¬ (x1 < 0 ∨ 3 ≤ Int32.toNatClampNeg x1) then
            if ¬ ((v2 - (1 : Int32)) < 0 ∨ 8 ≤ Int32.toNatClampNeg (v2 - (1 : Int32))) then
            if (I (29 + Int32.toNatClampNeg x1) (Int32.toNatClampNeg (v2 - (1 : Int32)))) < x2 then
              gX9_lineAdded_b55 σ R I x1 x2 x3 v2
            else
              some (I, (-2 : Int32))
            else none
            else none
  else none
theorem eX9_lineAdded {σ : Shp} {I : Nat → Nat → Int32} {R : Nat → Nat → Option Nat} {x1 : Int32} {x2 : Int32} {x3 : Int32} (hS : Skel σ R) : fX9_lineAdded σ I R 27 x1 x2 x3 = gX9_lineAdded σ I R x1 x2 x3 := by
  unfold fX9_lineAdded gX9_lineAdded
  refine sg (kq27 hS) ?_
  refine sb (rq27_2 hS) ?_
  refine sg (kq36 hS) ?_
  refine bgr (by rw [lq36 hS]) (fun g1 => ?_)
  refine bi (fun c => ?_) (fun c => ?_)
  · rfl
  · refine bi (fun c => ?_) (fun c => ?_)
    · rfl
    · refine bi (fun c => ?_) (fun c => ?_)
      · rfl
      · refine bi (fun c => ?_) (fun c => ?_)
        · rfl
        · refine bi (fun c => ?_) (fun c => ?_)
          · exact eX9_lineAdded_b55 hS
          · try with_reducible refine sg (kq27 hS) ?_
            refine sb (rq27_0 hS) ?_
            refine sg (kq28 hS) ?_
            refine bgr (by rw [lq28 hS]) (fun g11 => ?_)
            refine sb (rr28 hS g11) ?_
            refine sg (kr28 hS g11) ?_
            refine bgr (by rw [lr28 hS g11]) (fun g12 => ?_)
            refine bi (fun c => ?_) (fun c => ?_)
            · exact eX9_lineAdded_b55 hS
            · rfl
def gX9_rested (I : Nat → Nat → Int32) (x1 : Int32) (x2 : Int32) : Option ((Nat → Nat → Int32) × (Int32)) :=
  if ¬ (x1 < 0 ∨ 3 ≤ Int32.toNatClampNeg x1) then
  if (I 40 (Int32.toNatClampNeg x1)) = 0 then
    if ¬ (x1 < 0 ∨ 3 ≤ Int32.toNatClampNeg x1) then
    let I3 := u2 I 37 (Int32.toNatClampNeg x1) (x2 + (1 : Int32))
    some (I3, (1 : Int32))
    else none
  else
    some (I, (-3 : Int32))
  else none
theorem eX9_rested {σ : Shp} {I : Nat → Nat → Int32} {R : Nat → Nat → Option Nat} {x1 : Int32} {x2 : Int32} (hS : Skel σ R) : fX9_rested σ I R 27 x1 x2 = gX9_rested I x1 x2 := by
  unfold fX9_rested gX9_rested
  refine sg (kq27 hS) ?_
  refine sb (rq27_6 hS) ?_
  refine sg (kq40 hS) ?_
  refine bgr (by rw [lq40 hS]) (fun g1 => ?_)
  refine bi (fun c => ?_) (fun c => ?_)
  · try with_reducible refine sg (kq27 hS) ?_
    refine sb (rq27_3 hS) ?_
    refine sg (kq37 hS) ?_
    refine bgr (by rw [lq37 hS]) (fun g2 => ?_)
    rfl
  · rfl
def gX9_laidAt (I : Nat → Nat → Int32) (x1 : Int32) : Option ((Int32)) :=
  if x1 < 0 then
    some (-1 : Int32)
  else
    if (I 27 8) ≤ x1 then
      some (-1 : Int32)
    else
      if (3 : Int32) ≤ x1 then
        some (-1 : Int32)
      else
        if ¬ (x1 < 0 ∨ 3 ≤ Int32.toNatClampNeg x1) then
        some (I 41 (Int32.toNatClampNeg x1))
        else none
theorem eX9_laidAt {σ : Shp} {I : Nat → Nat → Int32} {R : Nat → Nat → Option Nat} {x1 : Int32} (hS : Skel σ R) : fX9_laidAt σ I R 27 x1 = gX9_laidAt I x1 := by
  unfold fX9_laidAt gX9_laidAt
  refine bi (fun c => ?_) (fun c => ?_)
  · rfl
  · refine sg (kq27 hS) ?_
    refine bi (fun c => ?_) (fun c => ?_)
    · rfl
    · refine bi (fun c => ?_) (fun c => ?_)
      · rfl
      · try with_reducible refine sg (kq27 hS) ?_
        refine sb (rq27_7 hS) ?_
        refine sg (kq41 hS) ?_
        refine bgr (by rw [lq41 hS]) (fun g1 => ?_)
        rfl
def gX10_init (σ : Shp) (I : Nat → Nat → Int32) (R : Nat → Nat → Option Nat) (t : Nat) (x1 : Int32) (x2 : Option Nat) (x3 : Option Nat) : Option ((Nat → Nat → Int32) × (Nat → Nat → Option Nat)) :=
  if kdx σ t = 11 then
  let I2 := u2 I t 0 x1
  let R3 := u2 R t 1 x2
  let R4 := u2 R3 t 2 x3
  some (I2, R4)
  else none
theorem pX10_init {σ : Shp} {I : Nat → Nat → Int32} {R : Nat → Nat → Option Nat} {t : Nat} {x1 : Int32} {x2 : Option Nat} {x3 : Option Nat} {I9 : Nat → Nat → Int32} {R9 : Nat → Nat → Option Nat} (hS : Skel σ R) (h : gX10_init σ I R t x1 x2 x3 = some (I9, R9)) : Skel σ R9 := by
  unfold gX10_init at h
  obtain ⟨g1, h⟩ := gd h
  let I2 := u2 I t 0 x1
  let R3 := u2 R t 1 x2
  have hS := hS.setR (k := 1) (v := x2) (Or.inr (Or.inr (Or.inl g1)))
  let R4 := u2 R3 t 2 x3
  have hS := hS.setR (k := 2) (v := x3) (Or.inr (Or.inr (Or.inl g1)))
  cases h
  exact hS
theorem eX10_init {σ : Shp} {I : Nat → Nat → Int32} {R : Nat → Nat → Option Nat} {t : Nat} {x1 : Int32} {x2 : Option Nat} {x3 : Option Nat} (hS : Skel σ R) : fX10_init σ I R t x1 x2 x3 = gX10_init σ I R t x1 x2 x3 := by
  unfold fX10_init gX10_init
  refine bg (fun g1 => ?_)
  let I2 := u2 I t 0 x1
  let R3 := u2 R t 1 x2
  have hS := hS.setR (k := 1) (v := x2) (Or.inr (Or.inr (Or.inl g1)))
  let R4 := u2 R3 t 2 x3
  have hS := hS.setR (k := 2) (v := x3) (Or.inr (Or.inr (Or.inl g1)))
  rfl
def gX10_length (σ : Shp) (I : Nat → Nat → Int32) (R : Nat → Nat → Option Nat) (t : Nat) : Option ((Int32)) :=
  if kdx σ t = 11 then
  if (7 : Int32) < (I t 0) then
    ((R t 2) : Option Nat).bind fun a2 =>
    if kdx σ a2 = 26 then
    some (Int32.ofNat (lnx σ a2))
    else none
  else
    ((R t 1) : Option Nat).bind fun a4 =>
    if kdx σ a4 = 21 then
    some (Int32.ofNat (lnx σ a4))
    else none
  else none
theorem eX10_length {σ : Shp} {I : Nat → Nat → Int32} {R : Nat → Nat → Option Nat} {t : Nat}  (hS : Skel σ R) : fX10_length σ I R t = gX10_length σ I R t := by
  unfold fX10_length gX10_length
  refine bg (fun g1 => ?_)
  refine bi (fun c => ?_) (fun c => ?_)
  · refine bb (fun a2 ha2 => ?_)
    refine bg (fun g3 => ?_)
    rfl
  · refine bb (fun a4 ha4 => ?_)
    refine bg (fun g5 => ?_)
    rfl
def gX10_emptyPlaces_l4  (σ : Shp) (R : Nat → Nat → Option Nat) (t : Nat) : Nat → (Int32) → (Int32) → Option ((Int32))
  | 0, _, _ => none
  | n + 1, x1, x2 =>
    if kdx σ t = 11 then
    ((R t 2) : Option Nat).bind fun a2 =>
    if kdx σ a2 = 26 then
    if (Int32.ofNat (lnx σ a2)) ≤ x2 then
      some x1
    else
      if ¬ (x2 < 0 ∨ lnx σ a2 ≤ Int32.toNatClampNeg x2) then
      onl (R a2 (Int32.toNatClampNeg x2))
        (
          let v6 := x1 + (1 : Int32)
          let v7 := x2 + (1 : Int32)
          gX10_emptyPlaces_l4 σ R t n v6 v7)
        (fun a5 =>
          let v8 := x2 + (1 : Int32)
          gX10_emptyPlaces_l4 σ R t n x1 v8)
      else none
    else none
    else none
theorem eX10_emptyPlaces_l4 {σ : Shp} {R : Nat → Nat → Option Nat} {t : Nat} (hS : Skel σ R) : ∀ (n : Nat) (x1 : Int32) (x2 : Int32), fX10_emptyPlaces_l4 σ R t n x1 x2 = gX10_emptyPlaces_l4 σ R t n x1 x2 := by
  intro n
  induction n with
  | zero => intro x1 x2; rfl
  | succ n ih =>
    intro x1 x2
    rw [fX10_emptyPlaces_l4, gX10_emptyPlaces_l4]
    refine bg (fun g1 => ?_)
    refine bb (fun a2 ha2 => ?_)
    refine bg (fun g3 => ?_)
    refine bi (fun c => ?_) (fun c => ?_)
    · rfl
    · refine bg (fun g4 => ?_)
      refine bo (fun ea5 => ?_) (fun a5 ha5 => ?_)
      · exact ih _ _
      · exact ih _ _
def gX10_emptyPlaces (σ : Shp) (R : Nat → Nat → Option Nat) (t : Nat) : Option ((Int32)) :=
  gX10_emptyPlaces_l4 σ R t FUx (0 : Int32) (0 : Int32)
theorem eX10_emptyPlaces {σ : Shp} {R : Nat → Nat → Option Nat} {t : Nat}  (hS : Skel σ R) : fX10_emptyPlaces σ R t = gX10_emptyPlaces σ R t := by
  unfold fX10_emptyPlaces gX10_emptyPlaces
  exact eX10_emptyPlaces_l4 hS _ _ _
def gX11_fail (I : Nat → Nat → Int32) (x1 : Int32) : Option ((Nat → Nat → Int32) × (Int32)) :=
  let I1 := u2 I 4 13 ((I 4 13) + (1 : Int32))
  let I2 := u2 I1 4 14 x1
  some (I2, ((-10 : Int32) - x1))
theorem eX11_fail {σ : Shp} {I : Nat → Nat → Int32} {R : Nat → Nat → Option Nat} {x1 : Int32} (hS : Skel σ R) : fX11_fail σ I 4 x1 = gX11_fail I x1 := by
  unfold fX11_fail gX11_fail
  refine sg (kq4 hS) ?_
  try with_reducible refine sg (kq4 hS) ?_
  try with_reducible refine sg (kq4 hS) ?_
  rfl
def gX11_isFull (I : Nat → Nat → Int32) : Option ((Int32)) :=
  if (3000 : Int32) ≤ (I 4 13) then
    some (1 : Int32)
  else
    if (I 4 12) < (4000 : Int32) then
      some (0 : Int32)
    else
      some (1 : Int32)
theorem eX11_isFull {σ : Shp} {I : Nat → Nat → Int32} {R : Nat → Nat → Option Nat}  (hS : Skel σ R) : fX11_isFull σ I 4 = gX11_isFull I := by
  unfold fX11_isFull gX11_isFull
  refine sg (kq4 hS) ?_
  refine bi (fun c => ?_) (fun c => ?_)
  · rfl
  · try with_reducible refine sg (kq4 hS) ?_
    refine bi (fun c => ?_) (fun c => ?_)
    · rfl
    · rfl
def gX11_newRow_b30  (σ : Shp) (I : Nat → Nat → Int32) (R : Nat → Nat → Option Nat) (s0 : Nat) (s1 : Nat) (s2 : Int32) (s3 : Nat) (s4 : Nat) : Option ((Shp) × (Nat → Nat → Int32) × (Nat → Nat → Option Nat) × (Option Nat)) :=
  if kdx σ s1 = 11 then
  (gX10_init σ I R s1 s2 (some s3) (some s4)).bind fun (I8, R9) =>
  some (σ, I8, R9, (some s0))
  else none
theorem eX11_newRow_b30 {σ : Shp} {I : Nat → Nat → Int32} {R : Nat → Nat → Option Nat} {s0 : Nat} {s1 : Nat} {s2 : Int32} {s3 : Nat} {s4 : Nat} (hS : Skel σ R) : fX11_newRow_b30 σ I R s0 s1 s2 s3 s4 = gX11_newRow_b30 σ I R s0 s1 s2 s3 s4 := by
  unfold fX11_newRow_b30 gX11_newRow_b30
  refine bg (fun g7 => ?_)
  refine bc (eX10_init hS) (fun pp hc10 => ?_)
  obtain ⟨I8, R9⟩ := pp
  have hS := pX10_init hS hc10
  rfl
theorem pX11_newRow_b30 {σ : Shp} {I : Nat → Nat → Int32} {R : Nat → Nat → Option Nat} {s0 : Nat} {s1 : Nat} {s2 : Int32} {s3 : Nat} {s4 : Nat} {σ9 : Shp} {I9 : Nat → Nat → Int32} {R9 : Nat → Nat → Option Nat} {r9 : Option Nat} (hS : Skel σ R) (h : gX11_newRow_b30 σ I R s0 s1 s2 s3 s4 = some (σ9, I9, R9, r9)) : Skel σ9 R9 := by
  unfold gX11_newRow_b30 at h
  obtain ⟨g7, h⟩ := gd h
  obtain ⟨⟨I8, R9⟩, hc10, h⟩ := ob h
  have hS := pX10_init hS hc10
  cases h
  exact hS
def gX11_newRow_b26  (σ : Shp) (I : Nat → Nat → Int32) (R : Nat → Nat → Option Nat) (s0 : Nat) (s1 : Nat) (s2 : Int32) (s3 : Nat) : Option ((Shp) × (Nat → Nat → Int32) × (Nat → Nat → Option Nat) × (Option Nat)) :=
  let σ6 := mkA σ 26 (Int32.toNatClampNeg (0 : Int32))
  gX11_newRow_b30 σ6 I R s0 s1 s2 s3 (nxx σ + 4)
theorem eX11_newRow_b26 {σ : Shp} {I : Nat → Nat → Int32} {R : Nat → Nat → Option Nat} {s0 : Nat} {s1 : Nat} {s2 : Int32} {s3 : Nat} (hS : Skel σ R) : fX11_newRow_b26 σ I R s0 s1 s2 s3 = gX11_newRow_b26 σ I R s0 s1 s2 s3 := by
  unfold fX11_newRow_b26 gX11_newRow_b26
  have hS := hS.mkA (t := 26) (n := (Int32.toNatClampNeg (0 : Int32)))
  exact eX11_newRow_b30 hS
theorem pX11_newRow_b26 {σ : Shp} {I : Nat → Nat → Int32} {R : Nat → Nat → Option Nat} {s0 : Nat} {s1 : Nat} {s2 : Int32} {s3 : Nat} {σ9 : Shp} {I9 : Nat → Nat → Int32} {R9 : Nat → Nat → Option Nat} {r9 : Option Nat} (hS : Skel σ R) (h : gX11_newRow_b26 σ I R s0 s1 s2 s3 = some (σ9, I9, R9, r9)) : Skel σ9 R9 := by
  unfold gX11_newRow_b26 at h
  have hS := hS.mkA (t := 26) (n := (Int32.toNatClampNeg (0 : Int32)))
  exact pX11_newRow_b30 hS h
def gX11_newRow_b13  (σ : Shp) (I : Nat → Nat → Int32) (R : Nat → Nat → Option Nat) (x1 : Int32) (x2 : Int32) (s0 : Nat) : Option ((Shp) × (Nat → Nat → Int32) × (Nat → Nat → Option Nat) × (Option Nat)) :=
  if 0 ≤ x2 then
    if ¬ x2 < 0 then
    if Int32.toNatClampNeg x2 ≤ 1000000 then
    let σ5 := mkA σ 21 (Int32.toNatClampNeg x2)
    gX11_newRow_b26 σ5 I R s0 s0 x1 (nxx σ + 4)
    else none
    else none
  else
    let σ11 := mkA σ 21 (Int32.toNatClampNeg (0 : Int32))
    gX11_newRow_b26 σ11 I R s0 s0 x1 (nxx σ + 4)
theorem eX11_newRow_b13 {σ : Shp} {I : Nat → Nat → Int32} {R : Nat → Nat → Option Nat} {x1 : Int32} {x2 : Int32} {s0 : Nat} (hS : Skel σ R) : fX11_newRow_b13 σ I R x1 x2 s0 = gX11_newRow_b13 σ I R x1 x2 s0 := by
  unfold fX11_newRow_b13 gX11_newRow_b13
  refine bi (fun c => ?_) (fun c => ?_)
  · refine bg (fun g3 => ?_)
    refine bg (fun g4 => ?_)
    have hS := hS.mkA (t := 21) (n := (Int32.toNatClampNeg x2))
    exact eX11_newRow_b26 hS
  · have hS := hS.mkA (t := 21) (n := (Int32.toNatClampNeg (0 : Int32)))
    exact eX11_newRow_b26 hS
theorem pX11_newRow_b13 {σ : Shp} {I : Nat → Nat → Int32} {R : Nat → Nat → Option Nat} {x1 : Int32} {x2 : Int32} {s0 : Nat} {σ9 : Shp} {I9 : Nat → Nat → Int32} {R9 : Nat → Nat → Option Nat} {r9 : Option Nat} (hS : Skel σ R) (h : gX11_newRow_b13 σ I R x1 x2 s0 = some (σ9, I9, R9, r9)) : Skel σ9 R9 := by
  unfold gX11_newRow_b13 at h
  rcases itc h with ⟨c, h⟩ | ⟨c, h⟩
  · obtain ⟨g3, h⟩ := gd h
    obtain ⟨g4, h⟩ := gd h
    have hS := hS.mkA (t := 21) (n := (Int32.toNatClampNeg x2))
    exact pX11_newRow_b26 hS h
  · have hS := hS.mkA (t := 21) (n := (Int32.toNatClampNeg (0 : Int32)))
    exact pX11_newRow_b26 hS h
def gX11_newRow (σ : Shp) (I : Nat → Nat → Int32) (R : Nat → Nat → Option Nat) (x1 : Int32) (x2 : Int32) : Option ((Shp) × (Nat → Nat → Int32) × (Nat → Nat → Option Nat) × (Option Nat)) :=
  let I1 := u2 I 4 12 ((I 4 12) + (1 : Int32))
  let σ2 := mkO σ 11 9
  gX11_newRow_b13 σ2 I1 R x1 x2 (nxx σ + 4)
theorem pX11_newRow {σ : Shp} {I : Nat → Nat → Int32} {R : Nat → Nat → Option Nat} {x1 : Int32} {x2 : Int32} {σ9 : Shp} {I9 : Nat → Nat → Int32} {R9 : Nat → Nat → Option Nat} {r9 : Option Nat} (hS : Skel σ R) (h : gX11_newRow σ I R x1 x2 = some (σ9, I9, R9, r9)) : Skel σ9 R9 := by
  unfold gX11_newRow at h
  let I1 := u2 I 4 12 ((I 4 12) + (1 : Int32))
  have hS := hS.mkO (t := 11) (n := 9)
  exact pX11_newRow_b13 hS h
theorem eX11_newRow {σ : Shp} {I : Nat → Nat → Int32} {R : Nat → Nat → Option Nat} {x1 : Int32} {x2 : Int32} (hS : Skel σ R) : fX11_newRow σ I R 4 x1 x2 = gX11_newRow σ I R x1 x2 := by
  unfold fX11_newRow gX11_newRow
  refine sg (kq4 hS) ?_
  try with_reducible refine sg (kq4 hS) ?_
  let I1 := u2 I 4 12 ((I 4 12) + (1 : Int32))
  have hS := hS.mkO (t := 11) (n := 9)
  exact eX11_newRow_b13 hS
def gX11_row_b54  (σ : Shp) (I : Nat → Nat → Int32) (R : Nat → Nat → Option Nat) (s0 : Nat) (s1 : Int32) (s2 : Option Nat) : Option ((Shp) × (Nat → Nat → Int32) × (Nat → Nat → Option Nat) × (Int32)) :=
  if kdx σ s0 = 26 then
  if ¬ (s1 < 0 ∨ lnx σ s0 ≤ Int32.toNatClampNeg s1) then
  if okR σ 11 s2 = true then
  let R11 := u2 R s0 (Int32.toNatClampNeg s1) s2
  some (σ, I, R11, (1 : Int32))
  else none
  else none
  else none
theorem eX11_row_b54 {σ : Shp} {I : Nat → Nat → Int32} {R : Nat → Nat → Option Nat} {s0 : Nat} {s1 : Int32} {s2 : Option Nat} (hS : Skel σ R) : fX11_row_b54 σ I R s0 s1 s2 = gX11_row_b54 σ I R s0 s1 s2 := by
  unfold fX11_row_b54 gX11_row_b54
  refine bg (fun g8 => ?_)
  refine bg (fun g9 => ?_)
  refine bg (fun g10 => ?_)
  let R11 := u2 R s0 (Int32.toNatClampNeg s1) s2
  have hS := hS.setR (k := (Int32.toNatClampNeg s1)) (v := s2) (Or.inl g8)
  rfl
theorem pX11_row_b54 {σ : Shp} {I : Nat → Nat → Int32} {R : Nat → Nat → Option Nat} {s0 : Nat} {s1 : Int32} {s2 : Option Nat} {σ9 : Shp} {I9 : Nat → Nat → Int32} {R9 : Nat → Nat → Option Nat} {r9 : Int32} (hS : Skel σ R) (h : gX11_row_b54 σ I R s0 s1 s2 = some (σ9, I9, R9, r9)) : Skel σ9 R9 := by
  unfold gX11_row_b54 at h
  obtain ⟨g8, h⟩ := gd h
  obtain ⟨g9, h⟩ := gd h
  obtain ⟨g10, h⟩ := gd h
  let R11 := u2 R s0 (Int32.toNatClampNeg s1) s2
  have hS := hS.setR (k := (Int32.toNatClampNeg s1)) (v := s2) (Or.inl g8)
  cases h
  exact hS
def gX11_row (σ : Shp) (I : Nat → Nat → Int32) (R : Nat → Nat → Option Nat) (x1 : Int32) (x2 : Int32) (x3 : Int32) : Option ((Shp) × (Nat → Nat → Int32) × (Nat → Nat → Option Nat) × (Int32)) :=
  if (fX11_isBin x1) = 0 then
    some (σ, I, R, (-2 : Int32))
  else
    if (fX11_isLane x2) = 0 then
      some (σ, I, R, (-2 : Int32))
    else
      if x3 ≤ (40 : Int32) then
        (gX11_isFull I).bind fun r1 =>
        if r1 = 0 then
          if 0 ≤ x3 then
            (gX11_newRow σ I R x2 x3).bind fun (σ3, I4, R5, r6) =>
            gX11_row_b54 σ3 I4 R5 6 x1 r6
          else
            (gX11_fail I (3 : Int32)).bind fun (I12, r13) =>
            some (σ, I12, R, r13)
        else
          some (σ, I, R, (-4 : Int32))
      else
        some (σ, I, R, (-2 : Int32))
theorem pX11_row {σ : Shp} {I : Nat → Nat → Int32} {R : Nat → Nat → Option Nat} {x1 : Int32} {x2 : Int32} {x3 : Int32} {σ9 : Shp} {I9 : Nat → Nat → Int32} {R9 : Nat → Nat → Option Nat} {r9 : Int32} (hS : Skel σ R) (h : gX11_row σ I R x1 x2 x3 = some (σ9, I9, R9, r9)) : Skel σ9 R9 := by
  unfold gX11_row at h
  rcases itc h with ⟨c, h⟩ | ⟨c, h⟩
  · cases h
    exact hS
  · rcases itc h with ⟨c, h⟩ | ⟨c, h⟩
    · cases h
      exact hS
    · rcases itc h with ⟨c, h⟩ | ⟨c, h⟩
      · obtain ⟨r1, hc2, h⟩ := ob h
        rcases itc h with ⟨c, h⟩ | ⟨c, h⟩
        · rcases itc h with ⟨c, h⟩ | ⟨c, h⟩
          · obtain ⟨⟨σ3, I4, R5, r6⟩, hc7, h⟩ := ob h
            have hS := pX11_newRow hS hc7
            exact pX11_row_b54 hS h
          · obtain ⟨⟨I12, r13⟩, hc14, h⟩ := ob h
            cases h
            exact hS
        · cases h
          exact hS
      · cases h
        exact hS
theorem eX11_row {σ : Shp} {I : Nat → Nat → Int32} {R : Nat → Nat → Option Nat} {x1 : Int32} {x2 : Int32} {x3 : Int32} (hS : Skel σ R) : fX11_row σ I R 4 x1 x2 x3 = gX11_row σ I R x1 x2 x3 := by
  unfold fX11_row gX11_row
  refine bi (fun c => ?_) (fun c => ?_)
  · rfl
  · refine bi (fun c => ?_) (fun c => ?_)
    · rfl
    · refine bi (fun c => ?_) (fun c => ?_)
      · refine sg (kq4 hS) ?_
        refine bc (eX11_isFull hS) (fun r1 hc2 => ?_)
        refine bi (fun c => ?_) (fun c => ?_)
        · refine bi (fun c => ?_) (fun c => ?_)
          · try with_reducible refine sg (kq4 hS) ?_
            refine sb (rq4_1 hS) ?_
            try with_reducible refine sg (kq4 hS) ?_
            refine bc (eX11_newRow hS) (fun pp hc7 => ?_)
            obtain ⟨σ3, I4, R5, r6⟩ := pp
            have hS := pX11_newRow hS hc7
            exact eX11_row_b54 hS
          · try with_reducible refine sg (kq4 hS) ?_
            refine bc (eX11_fail hS) (fun pp hc14 => ?_)
            obtain ⟨I12, r13⟩ := pp
            rfl
        · rfl
      · rfl
def gX11_newPlaces_b30  (σ : Shp) (I : Nat → Nat → Int32) (R : Nat → Nat → Option Nat) (s0 : Nat) (s1 : Nat) (s2 : Int32) (s3 : Nat) (s4 : Nat) : Option ((Shp) × (Nat → Nat → Int32) × (Nat → Nat → Option Nat) × (Option Nat)) :=
  if kdx σ s1 = 11 then
  (gX10_init σ I R s1 s2 (some s3) (some s4)).bind fun (I7, R8) =>
  some (σ, I7, R8, (some s0))
  else none
theorem eX11_newPlaces_b30 {σ : Shp} {I : Nat → Nat → Int32} {R : Nat → Nat → Option Nat} {s0 : Nat} {s1 : Nat} {s2 : Int32} {s3 : Nat} {s4 : Nat} (hS : Skel σ R) : fX11_newPlaces_b30 σ I R s0 s1 s2 s3 s4 = gX11_newPlaces_b30 σ I R s0 s1 s2 s3 s4 := by
  unfold fX11_newPlaces_b30 gX11_newPlaces_b30
  refine bg (fun g6 => ?_)
  refine bc (eX10_init hS) (fun pp hc9 => ?_)
  obtain ⟨I7, R8⟩ := pp
  have hS := pX10_init hS hc9
  rfl
theorem pX11_newPlaces_b30 {σ : Shp} {I : Nat → Nat → Int32} {R : Nat → Nat → Option Nat} {s0 : Nat} {s1 : Nat} {s2 : Int32} {s3 : Nat} {s4 : Nat} {σ9 : Shp} {I9 : Nat → Nat → Int32} {R9 : Nat → Nat → Option Nat} {r9 : Option Nat} (hS : Skel σ R) (h : gX11_newPlaces_b30 σ I R s0 s1 s2 s3 s4 = some (σ9, I9, R9, r9)) : Skel σ9 R9 := by
  unfold gX11_newPlaces_b30 at h
  obtain ⟨g6, h⟩ := gd h
  obtain ⟨⟨I7, R8⟩, hc9, h⟩ := ob h
  have hS := pX10_init hS hc9
  cases h
  exact hS
def gX11_newPlaces_b13  (σ : Shp) (I : Nat → Nat → Int32) (R : Nat → Nat → Option Nat) (x1 : Int32) (x2 : Int32) (s0 : Nat) : Option ((Shp) × (Nat → Nat → Int32) × (Nat → Nat → Option Nat) × (Option Nat)) :=
  if 0 ≤ x2 then
    if ¬ x2 < 0 then
    if Int32.toNatClampNeg x2 ≤ 1000000 then
    let σ5 := mkA σ 26 (Int32.toNatClampNeg x2)
    gX11_newPlaces_b30 σ5 I R s0 s0 x1 0 (nxx σ + 4)
    else none
    else none
  else
    let σ10 := mkA σ 26 (Int32.toNatClampNeg (0 : Int32))
    gX11_newPlaces_b30 σ10 I R s0 s0 x1 0 (nxx σ + 4)
theorem eX11_newPlaces_b13 {σ : Shp} {I : Nat → Nat → Int32} {R : Nat → Nat → Option Nat} {x1 : Int32} {x2 : Int32} {s0 : Nat} (hS : Skel σ R) : fX11_newPlaces_b13 σ I R x1 x2 s0 = gX11_newPlaces_b13 σ I R x1 x2 s0 := by
  unfold fX11_newPlaces_b13 gX11_newPlaces_b13
  refine bi (fun c => ?_) (fun c => ?_)
  · refine bg (fun g3 => ?_)
    refine bg (fun g4 => ?_)
    have hS := hS.mkA (t := 26) (n := (Int32.toNatClampNeg x2))
    exact eX11_newPlaces_b30 hS
  · have hS := hS.mkA (t := 26) (n := (Int32.toNatClampNeg (0 : Int32)))
    exact eX11_newPlaces_b30 hS
theorem pX11_newPlaces_b13 {σ : Shp} {I : Nat → Nat → Int32} {R : Nat → Nat → Option Nat} {x1 : Int32} {x2 : Int32} {s0 : Nat} {σ9 : Shp} {I9 : Nat → Nat → Int32} {R9 : Nat → Nat → Option Nat} {r9 : Option Nat} (hS : Skel σ R) (h : gX11_newPlaces_b13 σ I R x1 x2 s0 = some (σ9, I9, R9, r9)) : Skel σ9 R9 := by
  unfold gX11_newPlaces_b13 at h
  rcases itc h with ⟨c, h⟩ | ⟨c, h⟩
  · obtain ⟨g3, h⟩ := gd h
    obtain ⟨g4, h⟩ := gd h
    have hS := hS.mkA (t := 26) (n := (Int32.toNatClampNeg x2))
    exact pX11_newPlaces_b30 hS h
  · have hS := hS.mkA (t := 26) (n := (Int32.toNatClampNeg (0 : Int32)))
    exact pX11_newPlaces_b30 hS h
def gX11_newPlaces (σ : Shp) (I : Nat → Nat → Int32) (R : Nat → Nat → Option Nat) (x1 : Int32) (x2 : Int32) : Option ((Shp) × (Nat → Nat → Int32) × (Nat → Nat → Option Nat) × (Option Nat)) :=
  let I1 := u2 I 4 12 ((I 4 12) + (1 : Int32))
  let σ2 := mkO σ 11 9
  gX11_newPlaces_b13 σ2 I1 R x1 x2 (nxx σ + 4)
theorem pX11_newPlaces {σ : Shp} {I : Nat → Nat → Int32} {R : Nat → Nat → Option Nat} {x1 : Int32} {x2 : Int32} {σ9 : Shp} {I9 : Nat → Nat → Int32} {R9 : Nat → Nat → Option Nat} {r9 : Option Nat} (hS : Skel σ R) (h : gX11_newPlaces σ I R x1 x2 = some (σ9, I9, R9, r9)) : Skel σ9 R9 := by
  unfold gX11_newPlaces at h
  let I1 := u2 I 4 12 ((I 4 12) + (1 : Int32))
  have hS := hS.mkO (t := 11) (n := 9)
  exact pX11_newPlaces_b13 hS h
theorem eX11_newPlaces {σ : Shp} {I : Nat → Nat → Int32} {R : Nat → Nat → Option Nat} {x1 : Int32} {x2 : Int32} (hS : Skel σ R) : fX11_newPlaces σ I R 4 x1 x2 = gX11_newPlaces σ I R x1 x2 := by
  unfold fX11_newPlaces gX11_newPlaces
  refine sg (kq4 hS) ?_
  try with_reducible refine sg (kq4 hS) ?_
  let I1 := u2 I 4 12 ((I 4 12) + (1 : Int32))
  have hS := hS.mkO (t := 11) (n := 9)
  exact eX11_newPlaces_b13 hS
def gX11_grid_b104 (q76 : (Shp) → (Nat → Nat → Int32) → (Nat → Nat → Option Nat) → (Int32) → (Int32) → (Int32) → (Option Nat) → (Int32) → (Option ((Shp) × (Nat → Nat → Int32) × (Nat → Nat → Option Nat) × (Int32)))) (σ : Shp) (I : Nat → Nat → Int32) (R : Nat → Nat → Option Nat) (x1 : Int32) (x2 : Int32) (x4 : Int32) (x6 : Option Nat) (x7 : Int32) (s0 : Nat) (s1 : Int32) (s2 : Option Nat) : Option ((Shp) × (Nat → Nat → Int32) × (Nat → Nat → Option Nat) × (Int32)) :=
  if kdx σ s0 = 26 then
  if ¬ (s1 < 0 ∨ lnx σ s0 ≤ Int32.toNatClampNeg s1) then
  if okR σ 11 s2 = true then
  let R28 := u2 R s0 (Int32.toNatClampNeg s1) s2
  let v29 := x7 + (1 : Int32)
  q76 σ I R28 x1 x2 x4 x6 v29
  else none
  else none
  else none
theorem eX11_grid_b104 {σ : Shp} {I : Nat → Nat → Int32} {R : Nat → Nat → Option Nat} {x1 : Int32} {x2 : Int32} {x4 : Int32} {x6 : Option Nat} {x7 : Int32} {s0 : Nat} {s1 : Int32} {s2 : Option Nat} (hS : Skel σ R) {qf76 q76 : (Shp) → (Nat → Nat → Int32) → (Nat → Nat → Option Nat) → (Int32) → (Int32) → (Int32) → (Option Nat) → (Int32) → (Option ((Shp) × (Nat → Nat → Int32) × (Nat → Nat → Option Nat) × (Int32)))} (hq76 : ∀ (σ : Shp) (I : Nat → Nat → Int32) (R : Nat → Nat → Option Nat) (x1 : Int32) (x2 : Int32) (x4 : Int32) (x6 : Option Nat) (x7 : Int32), Skel σ R → qf76 σ I R x1 x2 x4 x6 x7 = q76 σ I R x1 x2 x4 x6 x7) : fX11_grid_b104 qf76 4 σ I R x1 x2 x4 x6 x7 s0 s1 s2 = gX11_grid_b104 q76 σ I R x1 x2 x4 x6 x7 s0 s1 s2 := by
  unfold fX11_grid_b104 gX11_grid_b104
  refine bg (fun g25 => ?_)
  refine bg (fun g26 => ?_)
  refine bg (fun g27 => ?_)
  let R28 := u2 R s0 (Int32.toNatClampNeg s1) s2
  have hS := hS.setR (k := (Int32.toNatClampNeg s1)) (v := s2) (Or.inl g25)
  let v29 := x7 + (1 : Int32)
  exact hq76 _ _ _ _ _ _ _ _ hS
theorem pX11_grid_b104 {σ : Shp} {I : Nat → Nat → Int32} {R : Nat → Nat → Option Nat} {x1 : Int32} {x2 : Int32} {x4 : Int32} {x6 : Option Nat} {x7 : Int32} {s0 : Nat} {s1 : Int32} {s2 : Option Nat} {σ9 : Shp} {I9 : Nat → Nat → Int32} {R9 : Nat → Nat → Option Nat} {r9 : Int32} {q76 : (Shp) → (Nat → Nat → Int32) → (Nat → Nat → Option Nat) → (Int32) → (Int32) → (Int32) → (Option Nat) → (Int32) → (Option ((Shp) × (Nat → Nat → Int32) × (Nat → Nat → Option Nat) × (Int32)))} (pq76 : ∀ (σ : Shp) (I : Nat → Nat → Int32) (R : Nat → Nat → Option Nat) (x1 : Int32) (x2 : Int32) (x4 : Int32) (x6 : Option Nat) (x7 : Int32), Skel σ R → q76 σ I R x1 x2 x4 x6 x7 = some (σ9, I9, R9, r9) → Skel σ9 R9) (hS : Skel σ R) (h : gX11_grid_b104 q76 σ I R x1 x2 x4 x6 x7 s0 s1 s2 = some (σ9, I9, R9, r9)) : Skel σ9 R9 := by
  unfold gX11_grid_b104 at h
  obtain ⟨g25, h⟩ := gd h
  obtain ⟨g26, h⟩ := gd h
  obtain ⟨g27, h⟩ := gd h
  let R28 := u2 R s0 (Int32.toNatClampNeg s1) s2
  have hS := hS.setR (k := (Int32.toNatClampNeg s1)) (v := s2) (Or.inl g25)
  let v29 := x7 + (1 : Int32)
  exact pq76 _ _ _ _ _ _ _ _ hS h
def gX11_grid_l76   : Nat → (Shp) → (Nat → Nat → Int32) → (Nat → Nat → Option Nat) → (Int32) → (Int32) → (Int32) → (Option Nat) → (Int32) → Option ((Shp) × (Nat → Nat → Int32) × (Nat → Nat → Option Nat) × (Int32))
  | 0, _, _, _, _, _, _, _, _ => none
  | n + 1, σ, I, R, x1, x2, x4, x6, x7 =>
    (x6 : Option Nat).bind fun a14 =>
    if kdx σ a14 = 11 then
    ((R a14 2) : Option Nat).bind fun a16 =>
    if kdx σ a16 = 26 then
    if (Int32.ofNat (lnx σ a16)) ≤ x7 then
      if ¬ (x1 < 0 ∨ 16 ≤ Int32.toNatClampNeg x1) then
      let R19 := u2 R 6 (Int32.toNatClampNeg x1) (some a14)
      some (σ, I, R19, (1 : Int32))
      else none
    else
      (gX11_newRow σ I R (fX11_laneOfGrid x2) x4).bind fun (σ20, I21, R22, r23) =>
      gX11_grid_b104 (gX11_grid_l76 n) σ20 I21 R22 x1 x2 x4 x6 x7 a16 x7 r23
    else none
    else none
theorem eX11_grid_l76  : ∀ (n : Nat) (σ : Shp) (I : Nat → Nat → Int32) (R : Nat → Nat → Option Nat) (x1 : Int32) (x2 : Int32) (x4 : Int32) (x6 : Option Nat) (x7 : Int32), Skel σ R → fX11_grid_l76 4 n σ I R x1 x2 x4 x6 x7 = gX11_grid_l76 n σ I R x1 x2 x4 x6 x7 := by
  intro n
  induction n with
  | zero => intro σ I R x1 x2 x4 x6 x7 hS; rfl
  | succ n ih =>
    intro σ I R x1 x2 x4 x6 x7 hS
    rw [fX11_grid_l76, gX11_grid_l76]
    refine bb (fun a14 ha14 => ?_)
    refine bg (fun g15 => ?_)
    refine bb (fun a16 ha16 => ?_)
    refine bg (fun g17 => ?_)
    refine bi (fun c => ?_) (fun c => ?_)
    · refine sg (kq4 hS) ?_
      refine sb (rq4_1 hS) ?_
      refine sg (kq6 hS) ?_
      refine bgr (by rw [lq6 hS]) (fun g18 => ?_)
      let R19 := u2 R 6 (Int32.toNatClampNeg x1) (some a14)
      have hS := hS.setR (k := (Int32.toNatClampNeg x1)) (v := (some a14)) (Or.inl (kq6 hS))
      rfl
    · refine sg (kq4 hS) ?_
      refine bc (eX11_newRow hS) (fun pp hc24 => ?_)
      obtain ⟨σ20, I21, R22, r23⟩ := pp
      have hS := pX11_newRow hS hc24
      exact eX11_grid_b104 hS ih
theorem pX11_grid_l76  {σ9 : Shp} {I9 : Nat → Nat → Int32} {R9 : Nat → Nat → Option Nat} {r9 : Int32} : ∀ (n : Nat) (σ : Shp) (I : Nat → Nat → Int32) (R : Nat → Nat → Option Nat) (x1 : Int32) (x2 : Int32) (x4 : Int32) (x6 : Option Nat) (x7 : Int32), Skel σ R → gX11_grid_l76 n σ I R x1 x2 x4 x6 x7 = some (σ9, I9, R9, r9) → Skel σ9 R9 := by
  intro n
  induction n with
  | zero =>
    intro σ I R x1 x2 x4 x6 x7 hS h
    have h : none = some _ := h
    cases h
  | succ n ih =>
    intro σ I R x1 x2 x4 x6 x7 hS h
    rw [gX11_grid_l76] at h
    obtain ⟨a14, ha14, h⟩ := ob h
    obtain ⟨g15, h⟩ := gd h
    obtain ⟨a16, ha16, h⟩ := ob h
    obtain ⟨g17, h⟩ := gd h
    rcases itc h with ⟨c, h⟩ | ⟨c, h⟩
    · obtain ⟨g18, h⟩ := gd h
      let R19 := u2 R 6 (Int32.toNatClampNeg x1) (some a14)
      have hS := hS.setR (k := (Int32.toNatClampNeg x1)) (v := (some a14)) (Or.inl (kq6 hS))
      cases h
      exact hS
    · obtain ⟨⟨σ20, I21, R22, r23⟩, hc24, h⟩ := ob h
      have hS := pX11_newRow hS hc24
      exact pX11_grid_b104 ih hS h
def gX11_grid_b66  (σ : Shp) (I : Nat → Nat → Int32) (R : Nat → Nat → Option Nat) (x1 : Int32) (x2 : Int32) (x4 : Int32) (x5 : Int32) (s0 : Option Nat) : Option ((Shp) × (Nat → Nat → Int32) × (Nat → Nat → Option Nat) × (Int32)) :=
  if x5 = 0 then
    gX11_grid_l76 FUx σ I R x1 x2 x4 s0 (0 : Int32)
  else
    if ¬ (x1 < 0 ∨ 16 ≤ Int32.toNatClampNeg x1) then
    if okR σ 11 s0 = true then
    let R13 := u2 R 6 (Int32.toNatClampNeg x1) s0
    some (σ, I, R13, (1 : Int32))
    else none
    else none
theorem eX11_grid_b66 {σ : Shp} {I : Nat → Nat → Int32} {R : Nat → Nat → Option Nat} {x1 : Int32} {x2 : Int32} {x4 : Int32} {x5 : Int32} {s0 : Option Nat} (hS : Skel σ R) : fX11_grid_b66 4 σ I R x1 x2 x4 x5 s0 = gX11_grid_b66 σ I R x1 x2 x4 x5 s0 := by
  unfold fX11_grid_b66 gX11_grid_b66
  refine bi (fun c => ?_) (fun c => ?_)
  · exact eX11_grid_l76 _ _ _ _ _ _ _ _ _ hS
  · refine sg (kq4 hS) ?_
    refine sb (rq4_1 hS) ?_
    refine sg (kq6 hS) ?_
    refine bgr (by rw [lq6 hS]) (fun g11 => ?_)
    refine bg (fun g12 => ?_)
    let R13 := u2 R 6 (Int32.toNatClampNeg x1) s0
    have hS := hS.setR (k := (Int32.toNatClampNeg x1)) (v := s0) (Or.inl (kq6 hS))
    rfl
theorem pX11_grid_b66 {σ : Shp} {I : Nat → Nat → Int32} {R : Nat → Nat → Option Nat} {x1 : Int32} {x2 : Int32} {x4 : Int32} {x5 : Int32} {s0 : Option Nat} {σ9 : Shp} {I9 : Nat → Nat → Int32} {R9 : Nat → Nat → Option Nat} {r9 : Int32} (hS : Skel σ R) (h : gX11_grid_b66 σ I R x1 x2 x4 x5 s0 = some (σ9, I9, R9, r9)) : Skel σ9 R9 := by
  unfold gX11_grid_b66 at h
  rcases itc h with ⟨c, h⟩ | ⟨c, h⟩
  · exact pX11_grid_l76 _ _ _ _ _ _ _ _ _ hS h
  · obtain ⟨g11, h⟩ := gd h
    obtain ⟨g12, h⟩ := gd h
    let R13 := u2 R 6 (Int32.toNatClampNeg x1) s0
    have hS := hS.setR (k := (Int32.toNatClampNeg x1)) (v := s0) (Or.inl (kq6 hS))
    cases h
    exact hS
def gX11_grid (σ : Shp) (I : Nat → Nat → Int32) (R : Nat → Nat → Option Nat) (x1 : Int32) (x2 : Int32) (x3 : Int32) (x4 : Int32) (x5 : Int32) : Option ((Shp) × (Nat → Nat → Int32) × (Nat → Nat → Option Nat) × (Int32)) :=
  if (fX11_isBin x1) = 0 then
    some (σ, I, R, (-2 : Int32))
  else
    if (fX11_isGridForm x2) = 0 then
      some (σ, I, R, (-2 : Int32))
    else
      if (10 : Int32) < x3 then
        some (σ, I, R, (-2 : Int32))
      else
        if x4 ≤ (40 : Int32) then
          (gX11_isFull I).bind fun r1 =>
          if r1 = 0 then
            if x3 < 0 then
              (gX11_fail I (3 : Int32)).bind fun (I3, r4) =>
              some (σ, I3, R, r4)
            else
              if 0 ≤ x4 then
                (gX11_newPlaces σ I R x2 x3).bind fun (σ6, I7, R8, r9) =>
                gX11_grid_b66 σ6 I7 R8 x1 x2 x4 x5 r9
              else
                if x5 = 0 then
                  (gX11_fail I (3 : Int32)).bind fun (I35, r36) =>
                  some (σ, I35, R, r36)
                else
                  (gX11_newPlaces σ I R x2 x3).bind fun (σ30, I31, R32, r33) =>
                  gX11_grid_b66 σ30 I31 R32 x1 x2 x4 x5 r33
          else
            some (σ, I, R, (-4 : Int32))
        else
          some (σ, I, R, (-2 : Int32))
theorem pX11_grid {σ : Shp} {I : Nat → Nat → Int32} {R : Nat → Nat → Option Nat} {x1 : Int32} {x2 : Int32} {x3 : Int32} {x4 : Int32} {x5 : Int32} {σ9 : Shp} {I9 : Nat → Nat → Int32} {R9 : Nat → Nat → Option Nat} {r9 : Int32} (hS : Skel σ R) (h : gX11_grid σ I R x1 x2 x3 x4 x5 = some (σ9, I9, R9, r9)) : Skel σ9 R9 := by
  unfold gX11_grid at h
  rcases itc h with ⟨c, h⟩ | ⟨c, h⟩
  · cases h
    exact hS
  · rcases itc h with ⟨c, h⟩ | ⟨c, h⟩
    · cases h
      exact hS
    · rcases itc h with ⟨c, h⟩ | ⟨c, h⟩
      · cases h
        exact hS
      · rcases itc h with ⟨c, h⟩ | ⟨c, h⟩
        · obtain ⟨r1, hc2, h⟩ := ob h
          rcases itc h with ⟨c, h⟩ | ⟨c, h⟩
          · rcases itc h with ⟨c, h⟩ | ⟨c, h⟩
            · obtain ⟨⟨I3, r4⟩, hc5, h⟩ := ob h
              cases h
              exact hS
            · rcases itc h with ⟨c, h⟩ | ⟨c, h⟩
              · obtain ⟨⟨σ6, I7, R8, r9⟩, hc10, h⟩ := ob h
                have hS := pX11_newPlaces hS hc10
                exact pX11_grid_b66 hS h
              · rcases itc h with ⟨c, h⟩ | ⟨c, h⟩
                · obtain ⟨⟨I35, r36⟩, hc37, h⟩ := ob h
                  cases h
                  exact hS
                · obtain ⟨⟨σ30, I31, R32, r33⟩, hc34, h⟩ := ob h
                  have hS := pX11_newPlaces hS hc34
                  exact pX11_grid_b66 hS h
          · cases h
            exact hS
        · cases h
          exact hS
theorem eX11_grid {σ : Shp} {I : Nat → Nat → Int32} {R : Nat → Nat → Option Nat} {x1 : Int32} {x2 : Int32} {x3 : Int32} {x4 : Int32} {x5 : Int32} (hS : Skel σ R) : fX11_grid σ I R 4 x1 x2 x3 x4 x5 = gX11_grid σ I R x1 x2 x3 x4 x5 := by
  unfold fX11_grid gX11_grid
  refine bi (fun c => ?_) (fun c => ?_)
  · rfl
  · refine bi (fun c => ?_) (fun c => ?_)
    · rfl
    · refine bi (fun c => ?_) (fun c => ?_)
      · rfl
      · refine bi (fun c => ?_) (fun c => ?_)
        · refine sg (kq4 hS) ?_
          refine bc (eX11_isFull hS) (fun r1 hc2 => ?_)
          refine bi (fun c => ?_) (fun c => ?_)
          · refine bi (fun c => ?_) (fun c => ?_)
            · try with_reducible refine sg (kq4 hS) ?_
              refine bc (eX11_fail hS) (fun pp hc5 => ?_)
              obtain ⟨I3, r4⟩ := pp
              rfl
            · refine bi (fun c => ?_) (fun c => ?_)
              · try with_reducible refine sg (kq4 hS) ?_
                refine bc (eX11_newPlaces hS) (fun pp hc10 => ?_)
                obtain ⟨σ6, I7, R8, r9⟩ := pp
                have hS := pX11_newPlaces hS hc10
                exact eX11_grid_b66 hS
              · refine bi (fun c => ?_) (fun c => ?_)
                · try with_reducible refine sg (kq4 hS) ?_
                  refine bc (eX11_fail hS) (fun pp hc37 => ?_)
                  obtain ⟨I35, r36⟩ := pp
                  rfl
                · try with_reducible refine sg (kq4 hS) ?_
                  refine bc (eX11_newPlaces hS) (fun pp hc34 => ?_)
                  obtain ⟨σ30, I31, R32, r33⟩ := pp
                  have hS := pX11_newPlaces hS hc34
                  exact eX11_grid_b66 hS
          · rfl
        · rfl
def gX11_intoBin_b31  (σ : Shp) (I : Nat → Nat → Int32) (R : Nat → Nat → Option Nat) (s0 : Nat) (s1 : Int32) (s2 : Option Nat) : Option ((Shp) × (Nat → Nat → Int32) × (Nat → Nat → Option Nat) × (Int32)) :=
  if kdx σ s0 = 26 then
  if ¬ (s1 < 0 ∨ lnx σ s0 ≤ Int32.toNatClampNeg s1) then
  if okR σ 11 s2 = true then
  let R11 := u2 R s0 (Int32.toNatClampNeg s1) s2
  some (σ, I, R11, (1 : Int32))
  else none
  else none
  else none
theorem eX11_intoBin_b31 {σ : Shp} {I : Nat → Nat → Int32} {R : Nat → Nat → Option Nat} {s0 : Nat} {s1 : Int32} {s2 : Option Nat} (hS : Skel σ R) : fX11_intoBin_b31 σ I R s0 s1 s2 = gX11_intoBin_b31 σ I R s0 s1 s2 := by
  unfold fX11_intoBin_b31 gX11_intoBin_b31
  refine bg (fun g8 => ?_)
  refine bg (fun g9 => ?_)
  refine bg (fun g10 => ?_)
  let R11 := u2 R s0 (Int32.toNatClampNeg s1) s2
  have hS := hS.setR (k := (Int32.toNatClampNeg s1)) (v := s2) (Or.inl g8)
  rfl
theorem pX11_intoBin_b31 {σ : Shp} {I : Nat → Nat → Int32} {R : Nat → Nat → Option Nat} {s0 : Nat} {s1 : Int32} {s2 : Option Nat} {σ9 : Shp} {I9 : Nat → Nat → Int32} {R9 : Nat → Nat → Option Nat} {r9 : Int32} (hS : Skel σ R) (h : gX11_intoBin_b31 σ I R s0 s1 s2 = some (σ9, I9, R9, r9)) : Skel σ9 R9 := by
  unfold gX11_intoBin_b31 at h
  obtain ⟨g8, h⟩ := gd h
  obtain ⟨g9, h⟩ := gd h
  obtain ⟨g10, h⟩ := gd h
  let R11 := u2 R s0 (Int32.toNatClampNeg s1) s2
  have hS := hS.setR (k := (Int32.toNatClampNeg s1)) (v := s2) (Or.inl g8)
  cases h
  exact hS
def gX11_intoBin (σ : Shp) (I : Nat → Nat → Int32) (R : Nat → Nat → Option Nat) (x1 : Int32) (x2 : Int32) (x3 : Int32) : Option ((Shp) × (Nat → Nat → Int32) × (Nat → Nat → Option Nat) × (Int32)) :=
  (gX11_isFull I).bind fun r1 =>
  if r1 = 0 then
    if 0 ≤ x3 then
      (gX11_newPlaces σ I R x2 x3).bind fun (σ3, I4, R5, r6) =>
      gX11_intoBin_b31 σ3 I4 R5 6 x1 r6
    else
      (gX11_fail I (3 : Int32)).bind fun (I12, r13) =>
      some (σ, I12, R, r13)
  else
    some (σ, I, R, (-4 : Int32))
theorem pX11_intoBin {σ : Shp} {I : Nat → Nat → Int32} {R : Nat → Nat → Option Nat} {x1 : Int32} {x2 : Int32} {x3 : Int32} {σ9 : Shp} {I9 : Nat → Nat → Int32} {R9 : Nat → Nat → Option Nat} {r9 : Int32} (hS : Skel σ R) (h : gX11_intoBin σ I R x1 x2 x3 = some (σ9, I9, R9, r9)) : Skel σ9 R9 := by
  unfold gX11_intoBin at h
  obtain ⟨r1, hc2, h⟩ := ob h
  rcases itc h with ⟨c, h⟩ | ⟨c, h⟩
  · rcases itc h with ⟨c, h⟩ | ⟨c, h⟩
    · obtain ⟨⟨σ3, I4, R5, r6⟩, hc7, h⟩ := ob h
      have hS := pX11_newPlaces hS hc7
      exact pX11_intoBin_b31 hS h
    · obtain ⟨⟨I12, r13⟩, hc14, h⟩ := ob h
      cases h
      exact hS
  · cases h
    exact hS
theorem eX11_intoBin {σ : Shp} {I : Nat → Nat → Int32} {R : Nat → Nat → Option Nat} {x1 : Int32} {x2 : Int32} {x3 : Int32} (hS : Skel σ R) : fX11_intoBin σ I R 4 x1 x2 x3 = gX11_intoBin σ I R x1 x2 x3 := by
  unfold fX11_intoBin gX11_intoBin
  refine sg (kq4 hS) ?_
  refine bc (eX11_isFull hS) (fun r1 hc2 => ?_)
  refine bi (fun c => ?_) (fun c => ?_)
  · refine bi (fun c => ?_) (fun c => ?_)
    · try with_reducible refine sg (kq4 hS) ?_
      refine sb (rq4_1 hS) ?_
      try with_reducible refine sg (kq4 hS) ?_
      refine bc (eX11_newPlaces hS) (fun pp hc7 => ?_)
      obtain ⟨σ3, I4, R5, r6⟩ := pp
      have hS := pX11_newPlaces hS hc7
      exact eX11_intoBin_b31 hS
    · try with_reducible refine sg (kq4 hS) ?_
      refine bc (eX11_fail hS) (fun pp hc14 => ?_)
      obtain ⟨I12, r13⟩ := pp
      rfl
  · rfl
def gX11_storeys_b23  (σ : Shp) (I : Nat → Nat → Int32) (R : Nat → Nat → Option Nat) (s0 : Int32) : Option ((Shp) × (Nat → Nat → Int32) × (Nat → Nat → Option Nat) × (Int32)) :=
  some (σ, I, R, s0)
theorem eX11_storeys_b23 {σ : Shp} {I : Nat → Nat → Int32} {R : Nat → Nat → Option Nat} {s0 : Int32} (hS : Skel σ R) : fX11_storeys_b23 σ I R s0 = gX11_storeys_b23 σ I R s0 := by
  unfold fX11_storeys_b23 gX11_storeys_b23
  rfl
theorem pX11_storeys_b23 {σ : Shp} {I : Nat → Nat → Int32} {R : Nat → Nat → Option Nat} {s0 : Int32} {σ9 : Shp} {I9 : Nat → Nat → Int32} {R9 : Nat → Nat → Option Nat} {r9 : Int32} (hS : Skel σ R) (h : gX11_storeys_b23 σ I R s0 = some (σ9, I9, R9, r9)) : Skel σ9 R9 := by
  unfold gX11_storeys_b23 at h
  cases h
  exact hS
def gX11_storeys (σ : Shp) (I : Nat → Nat → Int32) (R : Nat → Nat → Option Nat) (x1 : Int32) (x2 : Int32) : Option ((Shp) × (Nat → Nat → Int32) × (Nat → Nat → Option Nat) × (Int32)) :=
  if (fX11_isBin x1) = 0 then
    some (σ, I, R, (-2 : Int32))
  else
    if x2 ≤ (4 : Int32) then
      (gX11_intoBin σ I R x1 (11 : Int32) x2).bind fun (σ1, I2, R3, r4) =>
      gX11_storeys_b23 σ1 I2 R3 r4
    else
      some (σ, I, R, (-2 : Int32))
theorem pX11_storeys {σ : Shp} {I : Nat → Nat → Int32} {R : Nat → Nat → Option Nat} {x1 : Int32} {x2 : Int32} {σ9 : Shp} {I9 : Nat → Nat → Int32} {R9 : Nat → Nat → Option Nat} {r9 : Int32} (hS : Skel σ R) (h : gX11_storeys σ I R x1 x2 = some (σ9, I9, R9, r9)) : Skel σ9 R9 := by
  unfold gX11_storeys at h
  rcases itc h with ⟨c, h⟩ | ⟨c, h⟩
  · cases h
    exact hS
  · rcases itc h with ⟨c, h⟩ | ⟨c, h⟩
    · obtain ⟨⟨σ1, I2, R3, r4⟩, hc5, h⟩ := ob h
      have hS := pX11_intoBin hS hc5
      exact pX11_storeys_b23 hS h
    · cases h
      exact hS
theorem eX11_storeys {σ : Shp} {I : Nat → Nat → Int32} {R : Nat → Nat → Option Nat} {x1 : Int32} {x2 : Int32} (hS : Skel σ R) : fX11_storeys σ I R 4 x1 x2 = gX11_storeys σ I R x1 x2 := by
  unfold fX11_storeys gX11_storeys
  refine bi (fun c => ?_) (fun c => ?_)
  · rfl
  · refine bi (fun c => ?_) (fun c => ?_)
    · refine sg (kq4 hS) ?_
      refine bc (eX11_intoBin hS) (fun pp hc5 => ?_)
      obtain ⟨σ1, I2, R3, r4⟩ := pp
      have hS := pX11_intoBin hS hc5
      exact eX11_storeys_b23 hS
    · rfl
def gX11_share_b22  (σ : Shp) (R : Nat → Nat → Option Nat) (x1 : Int32) (x2 : Int32) : Option ((Nat → Nat → Option Nat) × (Int32)) :=
  if x2 = (-1 : Int32) then
    if ¬ (x1 < 0 ∨ 16 ≤ Int32.toNatClampNeg x1) then
    let R6 := u2 R 6 (Int32.toNatClampNeg x1) none
    some (R6, (1 : Int32))
    else none
  else
    if ¬ (x2 < 0 ∨ 16 ≤ Int32.toNatClampNeg x2) then
    if ¬ (x1 < 0 ∨ 16 ≤ Int32.toNatClampNeg x1) then
    if okR σ 11 (R 6 (Int32.toNatClampNeg x2)) = true then
    let R4 := u2 R 6 (Int32.toNatClampNeg x1) (R 6 (Int32.toNatClampNeg x2))
    some (R4, (1 : Int32))
    else none
    else none
    else none
theorem eX11_share_b22 {σ : Shp} {R : Nat → Nat → Option Nat} {x1 : Int32} {x2 : Int32} (hS : Skel σ R) : fX11_share_b22 σ 4 R x1 x2 = gX11_share_b22 σ R x1 x2 := by
  unfold fX11_share_b22 gX11_share_b22
  refine sg (kq4 hS) ?_
  refine sb (rq4_1 hS) ?_
  refine bi (fun c => ?_) (fun c => ?_)
  · refine sg (kq6 hS) ?_
    refine bgr (by rw [lq6 hS]) (fun g5 => ?_)
    let R6 := u2 R 6 (Int32.toNatClampNeg x1) none
    have hS := hS.setR (k := (Int32.toNatClampNeg x1)) (v := none) (Or.inl (kq6 hS))
    rfl
  · try with_reducible refine sg (kq4 hS) ?_
    refine sg (kq6 hS) ?_
    refine bgr (by rw [lq6 hS]) (fun g1 => ?_)
    try with_reducible refine sg (kq6 hS) ?_
    refine bgr (by rw [lq6 hS]) (fun g2 => ?_)
    refine bg (fun g3 => ?_)
    let R4 := u2 R 6 (Int32.toNatClampNeg x1) (R 6 (Int32.toNatClampNeg x2))
    have hS := hS.setR (k := (Int32.toNatClampNeg x1)) (v := (R 6 (Int32.toNatClampNeg x2))) (Or.inl (kq6 hS))
    rfl
theorem pX11_share_b22 {σ : Shp} {R : Nat → Nat → Option Nat} {x1 : Int32} {x2 : Int32} {R9 : Nat → Nat → Option Nat} {r9 : Int32} (hS : Skel σ R) (h : gX11_share_b22 σ R x1 x2 = some (R9, r9)) : Skel σ R9 := by
  unfold gX11_share_b22 at h
  rcases itc h with ⟨c, h⟩ | ⟨c, h⟩
  · obtain ⟨g5, h⟩ := gd h
    let R6 := u2 R 6 (Int32.toNatClampNeg x1) none
    have hS := hS.setR (k := (Int32.toNatClampNeg x1)) (v := none) (Or.inl (kq6 hS))
    cases h
    exact hS
  · obtain ⟨g1, h⟩ := gd h
    obtain ⟨g2, h⟩ := gd h
    obtain ⟨g3, h⟩ := gd h
    let R4 := u2 R 6 (Int32.toNatClampNeg x1) (R 6 (Int32.toNatClampNeg x2))
    have hS := hS.setR (k := (Int32.toNatClampNeg x1)) (v := (R 6 (Int32.toNatClampNeg x2))) (Or.inl (kq6 hS))
    cases h
    exact hS
def gX11_share (σ : Shp) (R : Nat → Nat → Option Nat) (x1 : Int32) (x2 : Int32) : Option ((Nat → Nat → Option Nat) × (Int32)) :=
  if (fX11_isBin x1) = 0 then
    some (R, (-2 : Int32))
  else
    if x2 = (-1 : Int32) then
      gX11_share_b22 σ R x1 x2
    else
      if (fX11_isBin x2) = 0 then
        some (R, (-2 : Int32))
      else
        gX11_share_b22 σ R x1 x2
theorem pX11_share {σ : Shp} {R : Nat → Nat → Option Nat} {x1 : Int32} {x2 : Int32} {R9 : Nat → Nat → Option Nat} {r9 : Int32} (hS : Skel σ R) (h : gX11_share σ R x1 x2 = some (R9, r9)) : Skel σ R9 := by
  unfold gX11_share at h
  rcases itc h with ⟨c, h⟩ | ⟨c, h⟩
  · cases h
    exact hS
  · rcases itc h with ⟨c, h⟩ | ⟨c, h⟩
    · exact pX11_share_b22 hS h
    · rcases itc h with ⟨c, h⟩ | ⟨c, h⟩
      · cases h
        exact hS
      · exact pX11_share_b22 hS h
theorem eX11_share {σ : Shp} {R : Nat → Nat → Option Nat} {x1 : Int32} {x2 : Int32} (hS : Skel σ R) : fX11_share σ R 4 x1 x2 = gX11_share σ R x1 x2 := by
  unfold fX11_share gX11_share
  refine bi (fun c => ?_) (fun c => ?_)
  · rfl
  · refine bi (fun c => ?_) (fun c => ?_)
    · exact eX11_share_b22 hS
    · refine bi (fun c => ?_) (fun c => ?_)
      · rfl
      · exact eX11_share_b22 hS
def gX11_form (σ : Shp) (I : Nat → Nat → Int32) (R : Nat → Nat → Option Nat) (x1 : Int32) : Option ((Int32)) :=
  if (fX11_isBin x1) = 0 then
    some (-2 : Int32)
  else
    if ¬ (x1 < 0 ∨ 16 ≤ Int32.toNatClampNeg x1) then
    let v2 := (R 6 (Int32.toNatClampNeg x1))
    onl v2
      (
        some (-1 : Int32))
      (fun a3 =>
        if kdx σ a3 = 11 then
        some (I a3 0)
        else none)
    else none
theorem eX11_form {σ : Shp} {I : Nat → Nat → Int32} {R : Nat → Nat → Option Nat} {x1 : Int32} (hS : Skel σ R) : fX11_form σ I R 4 x1 = gX11_form σ I R x1 := by
  unfold fX11_form gX11_form
  refine bi (fun c => ?_) (fun c => ?_)
  · rfl
  · refine sg (kq4 hS) ?_
    refine sb (rq4_1 hS) ?_
    refine sg (kq6 hS) ?_
    refine bgr (by rw [lq6 hS]) (fun g1 => ?_)
    refine bo (fun ea3 => ?_) (fun a3 ha3 => ?_)
    · rfl
    · refine bg (fun g4 => ?_)
      rfl
def gX11_is (σ : Shp) (I : Nat → Nat → Int32) (R : Nat → Nat → Option Nat) (x1 : Int32) (x2 : Int32) : Option ((Int32)) :=
  if (fX11_isBin x1) = 0 then
    some (-2 : Int32)
  else
    if (fX11_isForm x2) = 0 then
      some (-2 : Int32)
    else
      if ¬ (x1 < 0 ∨ 16 ≤ Int32.toNatClampNeg x1) then
      let v2 := (R 6 (Int32.toNatClampNeg x1))
      onl v2
        (
          some (0 : Int32))
        (fun a3 =>
          if kdx σ a3 = 11 then
          if (I a3 0) = (16 : Int32) then
            if (fX11_isTrayForm x2) = 0 then
              if (I a3 0) = x2 then
                some (1 : Int32)
              else
                some (0 : Int32)
            else
              if (fX11_trayTakes x2 (I a3 3)) = 0 then
                some (0 : Int32)
              else
                some (1 : Int32)
          else
            if (I a3 0) = x2 then
              some (1 : Int32)
            else
              some (0 : Int32)
          else none)
      else none
theorem eX11_is {σ : Shp} {I : Nat → Nat → Int32} {R : Nat → Nat → Option Nat} {x1 : Int32} {x2 : Int32} (hS : Skel σ R) : fX11_is σ I R 4 x1 x2 = gX11_is σ I R x1 x2 := by
  unfold fX11_is gX11_is
  refine bi (fun c => ?_) (fun c => ?_)
  · rfl
  · refine bi (fun c => ?_) (fun c => ?_)
    · rfl
    · refine sg (kq4 hS) ?_
      refine sb (rq4_1 hS) ?_
      refine sg (kq6 hS) ?_
      refine bgr (by rw [lq6 hS]) (fun g1 => ?_)
      refine bo (fun ea3 => ?_) (fun a3 ha3 => ?_)
      · rfl
      · refine bg (fun g4 => ?_)
        refine bi (fun c => ?_) (fun c => ?_)
        · refine bi (fun c => ?_) (fun c => ?_)
          · refine bi (fun c => ?_) (fun c => ?_)
            · rfl
            · rfl
          · refine bi (fun c => ?_) (fun c => ?_)
            · rfl
            · rfl
        · refine bi (fun c => ?_) (fun c => ?_)
          · rfl
          · rfl
def gX11_get (σ : Shp) (I : Nat → Nat → Int32) (J : Nat → Nat → Int64) (R : Nat → Nat → Option Nat) (x1 : Int32) (x2 : Int32) (x3 : Int32) : Option ((Nat → Nat → Int32) × (Int64)) :=
  if (fX11_isBin x1) = 0 then
    some (I, (0 : Int64))
  else
    if (fX11_isLane x2) = 0 then
      some (I, (0 : Int64))
    else
      if ¬ (x1 < 0 ∨ 16 ≤ Int32.toNatClampNeg x1) then
      let v2 := (R 6 (Int32.toNatClampNeg x1))
      (gX11_cellFault σ I R v2 x2 x3).bind fun r3 =>
      if r3 = 0 then
        onl v2
          (
            (gX11_fail I r3).bind fun (I9, r10) =>
            some (I9, (0 : Int64)))
          (fun a8 =>
            if kdx σ a8 = 11 then
            ((R a8 1) : Option Nat).bind fun a13 =>
            if kdx σ a13 = 21 then
            if ¬ (x3 < 0 ∨ lnx σ a13 ≤ Int32.toNatClampNeg x3) then
            some (I, (J a13 (Int32.toNatClampNeg x3)))
            else none
            else none
            else none)
      else
        (gX11_fail I r3).bind fun (I5, r6) =>
        some (I5, (0 : Int64))
      else none
theorem eX11_get {σ : Shp} {I : Nat → Nat → Int32} {J : Nat → Nat → Int64} {R : Nat → Nat → Option Nat} {x1 : Int32} {x2 : Int32} {x3 : Int32} (hS : Skel σ R) : fX11_get σ I J R 4 x1 x2 x3 = gX11_get σ I J R x1 x2 x3 := by
  unfold fX11_get gX11_get
  refine bi (fun c => ?_) (fun c => ?_)
  · rfl
  · refine bi (fun c => ?_) (fun c => ?_)
    · rfl
    · refine sg (kq4 hS) ?_
      refine sb (rq4_1 hS) ?_
      refine sg (kq6 hS) ?_
      refine bgr (by rw [lq6 hS]) (fun g1 => ?_)
      refine bc (eX11_cellFault hS) (fun r3 hc4 => ?_)
      refine bi (fun c => ?_) (fun c => ?_)
      · refine bo (fun ea8 => ?_) (fun a8 ha8 => ?_)
        · try with_reducible refine sg (kq4 hS) ?_
          refine bc (eX11_fail hS) (fun pp hc11 => ?_)
          obtain ⟨I9, r10⟩ := pp
          rfl
        · refine bg (fun g12 => ?_)
          refine bb (fun a13 ha13 => ?_)
          refine bg (fun g14 => ?_)
          refine bg (fun g15 => ?_)
          rfl
      · try with_reducible refine sg (kq4 hS) ?_
        refine bc (eX11_fail hS) (fun pp hc7 => ?_)
        obtain ⟨I5, r6⟩ := pp
        rfl
def gX11_put (σ : Shp) (I : Nat → Nat → Int32) (J : Nat → Nat → Int64) (R : Nat → Nat → Option Nat) (x1 : Int32) (x2 : Int32) (x3 : Int32) (x4 : Int64) : Option ((Nat → Nat → Int32) × (Nat → Nat → Int64) × (Int32)) :=
  if (fX11_isBin x1) = 0 then
    some (I, J, (-2 : Int32))
  else
    if (fX11_isLane x2) = 0 then
      some (I, J, (-2 : Int32))
    else
      if ¬ (x1 < 0 ∨ 16 ≤ Int32.toNatClampNeg x1) then
      let v2 := (R 6 (Int32.toNatClampNeg x1))
      (gX11_cellFault σ I R v2 x2 x3).bind fun r3 =>
      if r3 = 0 then
        onl v2
          (
            (gX11_fail I r3).bind fun (I9, r10) =>
            some (I9, J, r10))
          (fun a8 =>
            if kdx σ a8 = 11 then
            ((R a8 1) : Option Nat).bind fun a13 =>
            if kdx σ a13 = 21 then
            if ¬ (x3 < 0 ∨ lnx σ a13 ≤ Int32.toNatClampNeg x3) then
            let J16 := u2 J a13 (Int32.toNatClampNeg x3) (fX11_cellOf x2 x4)
            some (I, J16, (1 : Int32))
            else none
            else none
            else none)
      else
        (gX11_fail I r3).bind fun (I5, r6) =>
        some (I5, J, r6)
      else none
theorem eX11_put {σ : Shp} {I : Nat → Nat → Int32} {J : Nat → Nat → Int64} {R : Nat → Nat → Option Nat} {x1 : Int32} {x2 : Int32} {x3 : Int32} {x4 : Int64} (hS : Skel σ R) : fX11_put σ I J R 4 x1 x2 x3 x4 = gX11_put σ I J R x1 x2 x3 x4 := by
  unfold fX11_put gX11_put
  refine bi (fun c => ?_) (fun c => ?_)
  · rfl
  · refine bi (fun c => ?_) (fun c => ?_)
    · rfl
    · refine sg (kq4 hS) ?_
      refine sb (rq4_1 hS) ?_
      refine sg (kq6 hS) ?_
      refine bgr (by rw [lq6 hS]) (fun g1 => ?_)
      refine bc (eX11_cellFault hS) (fun r3 hc4 => ?_)
      refine bi (fun c => ?_) (fun c => ?_)
      · refine bo (fun ea8 => ?_) (fun a8 ha8 => ?_)
        · try with_reducible refine sg (kq4 hS) ?_
          refine bc (eX11_fail hS) (fun pp hc11 => ?_)
          obtain ⟨I9, r10⟩ := pp
          rfl
        · refine bg (fun g12 => ?_)
          refine bb (fun a13 ha13 => ?_)
          refine bg (fun g14 => ?_)
          refine bg (fun g15 => ?_)
          rfl
      · try with_reducible refine sg (kq4 hS) ?_
        refine bc (eX11_fail hS) (fun pp hc7 => ?_)
        obtain ⟨I5, r6⟩ := pp
        rfl
def gX11_placeFault (σ : Shp) (I : Nat → Nat → Int32) (R : Nat → Nat → Option Nat) (x0 : Option Nat) (x1 : Int32) (x2 : Int32) : Option ((Int32)) :=
  (gX11_takenFault σ I x0 x1).bind fun r1 =>
  if r1 = 0 then
    onl x0
      (
        some r1)
      (fun a3 =>
        if x2 < 0 then
          some (2 : Int32)
        else
          if kdx σ a3 = 11 then
          ((R a3 2) : Option Nat).bind fun a5 =>
          if kdx σ a5 = 26 then
          if x2 < (Int32.ofNat (lnx σ a5)) then
            some (0 : Int32)
          else
            some (2 : Int32)
          else none
          else none)
  else
    some r1
theorem eX11_placeFault {σ : Shp} {I : Nat → Nat → Int32} {R : Nat → Nat → Option Nat} {x0 : Option Nat} {x1 : Int32} {x2 : Int32} (hS : Skel σ R) : fX11_placeFault σ I R x0 x1 x2 = gX11_placeFault σ I R x0 x1 x2 := by
  unfold fX11_placeFault gX11_placeFault
  refine bc (eX11_takenFault hS) (fun r1 hc2 => ?_)
  refine bi (fun c => ?_) (fun c => ?_)
  · refine bo (fun ea3 => ?_) (fun a3 ha3 => ?_)
    · rfl
    · refine bi (fun c => ?_) (fun c => ?_)
      · rfl
      · refine bg (fun g4 => ?_)
        refine bb (fun a5 ha5 => ?_)
        refine bg (fun g6 => ?_)
        refine bi (fun c => ?_) (fun c => ?_)
        · rfl
        · rfl
  · rfl
def gX11_placeOf (σ : Shp) (R : Nat → Nat → Option Nat) (x0 : Option Nat) (x1 : Int32) : Option ((Option Nat)) :=
  onl x0
    (
      some none)
    (fun a1 =>
      if x1 < 0 then
        some none
      else
        if kdx σ a1 = 11 then
        ((R a1 2) : Option Nat).bind fun a3 =>
        if kdx σ a3 = 26 then
        if x1 < (Int32.ofNat (lnx σ a3)) then
          if ¬ (x1 < 0 ∨ lnx σ a3 ≤ Int32.toNatClampNeg x1) then
          some (R a3 (Int32.toNatClampNeg x1))
          else none
        else
          some none
        else none
        else none)
theorem eX11_placeOf {σ : Shp} {R : Nat → Nat → Option Nat} {x0 : Option Nat} {x1 : Int32} (hS : Skel σ R) : fX11_placeOf σ R x0 x1 = gX11_placeOf σ R x0 x1 := by
  unfold fX11_placeOf gX11_placeOf
  refine bo (fun ea1 => ?_) (fun a1 ha1 => ?_)
  · rfl
  · refine bi (fun c => ?_) (fun c => ?_)
    · rfl
    · refine bg (fun g2 => ?_)
      refine bb (fun a3 ha3 => ?_)
      refine bg (fun g4 => ?_)
      refine bi (fun c => ?_) (fun c => ?_)
      · refine bg (fun g5 => ?_)
        rfl
      · rfl
def gX11_bayAt (σ : Shp) (I : Nat → Nat → Int32) (R : Nat → Nat → Option Nat) (x0 : Option Nat) (x1 : Int32) (x2 : Int32) : Option ((Option Nat)) :=
  (gX11_placeFault σ I R x0 x1 x2).bind fun r1 =>
  if r1 = 0 then
    (gX11_placeOf σ R x0 x2).bind fun r3 =>
    some r3
  else
    some none
theorem eX11_bayAt {σ : Shp} {I : Nat → Nat → Int32} {R : Nat → Nat → Option Nat} {x0 : Option Nat} {x1 : Int32} {x2 : Int32} (hS : Skel σ R) : fX11_bayAt σ I R x0 x1 x2 = gX11_bayAt σ I R x0 x1 x2 := by
  unfold fX11_bayAt gX11_bayAt
  refine bc (eX11_placeFault hS) (fun r1 hc2 => ?_)
  refine bi (fun c => ?_) (fun c => ?_)
  · refine bc (eX11_placeOf hS) (fun r3 hc4 => ?_)
    rfl
  · rfl
def gX11_bayFault (σ : Shp) (I : Nat → Nat → Int32) (R : Nat → Nat → Option Nat) (x0 : Option Nat) (x1 : Int32) (x2 : Int32) (x3 : Int32) : Option ((Int32)) :=
  (gX11_placeFault σ I R x0 x1 x2).bind fun r1 =>
  if r1 = 0 then
    (gX11_placeOf σ R x0 x2).bind fun r3 =>
    (gX11_cellFault σ I R r3 (fX11_laneOfGrid x1) x3).bind fun r5 =>
    some r5
  else
    some r1
theorem eX11_bayFault {σ : Shp} {I : Nat → Nat → Int32} {R : Nat → Nat → Option Nat} {x0 : Option Nat} {x1 : Int32} {x2 : Int32} {x3 : Int32} (hS : Skel σ R) : fX11_bayFault σ I R x0 x1 x2 x3 = gX11_bayFault σ I R x0 x1 x2 x3 := by
  unfold fX11_bayFault gX11_bayFault
  refine bc (eX11_placeFault hS) (fun r1 hc2 => ?_)
  refine bi (fun c => ?_) (fun c => ?_)
  · refine bc (eX11_placeOf hS) (fun r3 hc4 => ?_)
    refine bc (eX11_cellFault hS) (fun r5 hc6 => ?_)
    rfl
  · rfl
def gX11_bed (σ : Shp) (I : Nat → Nat → Int32) (J : Nat → Nat → Int64) (R : Nat → Nat → Option Nat) (x1 : Int32) (x2 : Int32) (x3 : Int32) (x4 : Int32) : Option ((Nat → Nat → Int32) × (Int64)) :=
  if (fX11_isBin x1) = 0 then
    some (I, (0 : Int64))
  else
    if (fX11_isGridForm x2) = 0 then
      some (I, (0 : Int64))
    else
      if ¬ (x1 < 0 ∨ 16 ≤ Int32.toNatClampNeg x1) then
      (gX11_bayAt σ I R (R 6 (Int32.toNatClampNeg x1)) x2 x3).bind fun r2 =>
      (gX11_bayFault σ I R (R 6 (Int32.toNatClampNeg x1)) x2 x3 x4).bind fun r4 =>
      if r4 = 0 then
        onl r2
          (
            (gX11_fail I r4).bind fun (I10, r11) =>
            some (I10, (0 : Int64)))
          (fun a9 =>
            if kdx σ a9 = 11 then
            ((R a9 1) : Option Nat).bind fun a14 =>
            if kdx σ a14 = 21 then
            if ¬ (x4 < 0 ∨ lnx σ a14 ≤ Int32.toNatClampNeg x4) then
            some (I, (J a14 (Int32.toNatClampNeg x4)))
            else none
            else none
            else none)
      else
        (gX11_fail I r4).bind fun (I6, r7) =>
        some (I6, (0 : Int64))
      else none
theorem eX11_bed {σ : Shp} {I : Nat → Nat → Int32} {J : Nat → Nat → Int64} {R : Nat → Nat → Option Nat} {x1 : Int32} {x2 : Int32} {x3 : Int32} {x4 : Int32} (hS : Skel σ R) : fX11_bed σ I J R 4 x1 x2 x3 x4 = gX11_bed σ I J R x1 x2 x3 x4 := by
  unfold fX11_bed gX11_bed
  refine bi (fun c => ?_) (fun c => ?_)
  · rfl
  · refine bi (fun c => ?_) (fun c => ?_)
    · rfl
    · refine sg (kq4 hS) ?_
      refine sb (rq4_1 hS) ?_
      refine sg (kq6 hS) ?_
      refine bgr (by rw [lq6 hS]) (fun g1 => ?_)
      refine bc (eX11_bayAt hS) (fun r2 hc3 => ?_)
      try with_reducible refine sg (kq4 hS) ?_
      try with_reducible refine sg (kq6 hS) ?_
      try with_reducible refine sg (by rw [lq6 hS]; exact g1) ?_
      refine bc (eX11_bayFault hS) (fun r4 hc5 => ?_)
      refine bi (fun c => ?_) (fun c => ?_)
      · refine bo (fun ea9 => ?_) (fun a9 ha9 => ?_)
        · try with_reducible refine sg (kq4 hS) ?_
          refine bc (eX11_fail hS) (fun pp hc12 => ?_)
          obtain ⟨I10, r11⟩ := pp
          rfl
        · refine bg (fun g13 => ?_)
          refine bb (fun a14 ha14 => ?_)
          refine bg (fun g15 => ?_)
          refine bg (fun g16 => ?_)
          rfl
      · try with_reducible refine sg (kq4 hS) ?_
        refine bc (eX11_fail hS) (fun pp hc8 => ?_)
        obtain ⟨I6, r7⟩ := pp
        rfl
def gX11_setBed (σ : Shp) (I : Nat → Nat → Int32) (J : Nat → Nat → Int64) (R : Nat → Nat → Option Nat) (x1 : Int32) (x2 : Int32) (x3 : Int32) (x4 : Int32) (x5 : Int64) : Option ((Nat → Nat → Int32) × (Nat → Nat → Int64) × (Int32)) :=
  if (fX11_isBin x1) = 0 then
    some (I, J, (-2 : Int32))
  else
    if (fX11_isGridForm x2) = 0 then
      some (I, J, (-2 : Int32))
    else
      if ¬ (x1 < 0 ∨ 16 ≤ Int32.toNatClampNeg x1) then
      (gX11_bayAt σ I R (R 6 (Int32.toNatClampNeg x1)) x2 x3).bind fun r2 =>
      (gX11_bayFault σ I R (R 6 (Int32.toNatClampNeg x1)) x2 x3 x4).bind fun r4 =>
      if r4 = 0 then
        onl r2
          (
            (gX11_fail I r4).bind fun (I10, r11) =>
            some (I10, J, r11))
          (fun a9 =>
            if kdx σ a9 = 11 then
            ((R a9 1) : Option Nat).bind fun a14 =>
            if kdx σ a14 = 21 then
            if ¬ (x4 < 0 ∨ lnx σ a14 ≤ Int32.toNatClampNeg x4) then
            let J17 := u2 J a14 (Int32.toNatClampNeg x4) (fX11_cellOf (fX11_laneOfGrid x2) x5)
            some (I, J17, (1 : Int32))
            else none
            else none
            else none)
      else
        (gX11_fail I r4).bind fun (I6, r7) =>
        some (I6, J, r7)
      else none
theorem eX11_setBed {σ : Shp} {I : Nat → Nat → Int32} {J : Nat → Nat → Int64} {R : Nat → Nat → Option Nat} {x1 : Int32} {x2 : Int32} {x3 : Int32} {x4 : Int32} {x5 : Int64} (hS : Skel σ R) : fX11_setBed σ I J R 4 x1 x2 x3 x4 x5 = gX11_setBed σ I J R x1 x2 x3 x4 x5 := by
  unfold fX11_setBed gX11_setBed
  refine bi (fun c => ?_) (fun c => ?_)
  · rfl
  · refine bi (fun c => ?_) (fun c => ?_)
    · rfl
    · refine sg (kq4 hS) ?_
      refine sb (rq4_1 hS) ?_
      refine sg (kq6 hS) ?_
      refine bgr (by rw [lq6 hS]) (fun g1 => ?_)
      refine bc (eX11_bayAt hS) (fun r2 hc3 => ?_)
      try with_reducible refine sg (kq4 hS) ?_
      try with_reducible refine sg (kq6 hS) ?_
      try with_reducible refine sg (by rw [lq6 hS]; exact g1) ?_
      refine bc (eX11_bayFault hS) (fun r4 hc5 => ?_)
      refine bi (fun c => ?_) (fun c => ?_)
      · refine bo (fun ea9 => ?_) (fun a9 ha9 => ?_)
        · try with_reducible refine sg (kq4 hS) ?_
          refine bc (eX11_fail hS) (fun pp hc12 => ?_)
          obtain ⟨I10, r11⟩ := pp
          rfl
        · refine bg (fun g13 => ?_)
          refine bb (fun a14 ha14 => ?_)
          refine bg (fun g15 => ?_)
          refine bg (fun g16 => ?_)
          rfl
      · try with_reducible refine sg (kq4 hS) ?_
        refine bc (eX11_fail hS) (fun pp hc8 => ?_)
        obtain ⟨I6, r7⟩ := pp
        rfl
def gX11_countUp_b78  (σ : Shp) (R : Nat → Nat → Option Nat) (I : Nat → Nat → Int32) (J : Nat → Nat → Int64) (x4 : Int32) (x5 : Int32) (x7 : Int32) (s0 : Option Nat) : Option ((Nat → Nat → Int32) × (Nat → Nat → Int64) × (Int32)) :=
  onl s0
    (
      (gX11_fail I x7).bind fun (I6, r7) =>
      some (I6, J, (0 : Int32)))
    (fun a5 =>
      if kdx σ a5 = 11 then
      ((R a5 1) : Option Nat).bind fun a10 =>
      if kdx σ a10 = 21 then
      if ¬ (x4 < 0 ∨ lnx σ a10 ≤ Int32.toNatClampNeg x4) then
      let v13 := (Int64.toInt32 (J a10 (Int32.toNatClampNeg x4)))
      let J14 := u2 J a10 (Int32.toNatClampNeg x4) (Int32.toInt64 (v13 + (1 : Int32)))
      if x5 = 0 then
        some (I, J14, v13)
      else
        some (I, J14, (v13 + (1 : Int32)))
      else none
      else none
      else none)
theorem eX11_countUp_b78 {σ : Shp} {I : Nat → Nat → Int32} {J : Nat → Nat → Int64} {R : Nat → Nat → Option Nat} {x4 : Int32} {x5 : Int32} {x7 : Int32} {s0 : Option Nat} (hS : Skel σ R) : fX11_countUp_b78 σ R 4 I J x4 x5 x7 s0 = gX11_countUp_b78 σ R I J x4 x5 x7 s0 := by
  unfold fX11_countUp_b78 gX11_countUp_b78
  refine bo (fun ea5 => ?_) (fun a5 ha5 => ?_)
  · refine sg (kq4 hS) ?_
    refine bc (eX11_fail hS) (fun pp hc8 => ?_)
    obtain ⟨I6, r7⟩ := pp
    rfl
  · refine bg (fun g9 => ?_)
    refine bb (fun a10 ha10 => ?_)
    refine bg (fun g11 => ?_)
    refine bg (fun g12 => ?_)
    refine bi (fun c => ?_) (fun c => ?_)
    · rfl
    · rfl
def gX11_countUp_b42  (σ : Shp) (R : Nat → Nat → Option Nat) (I : Nat → Nat → Int32) (J : Nat → Nat → Int64) (x3 : Int32) (x4 : Int32) (x5 : Int32) (x7 : Int32) (s0 : Option Nat) : Option ((Nat → Nat → Int32) × (Nat → Nat → Int64) × (Int32)) :=
  if x7 = 0 then
    (gX11_bayFault σ I R s0 (9 : Int32) x3 x4).bind fun r17 =>
    if r17 = 0 then
      (gX11_bayAt σ I R s0 (9 : Int32) x3).bind fun r19 =>
      gX11_countUp_b78 σ R I J x4 x5 r17 r19
    else
      gX11_countUp_b78 σ R I J x4 x5 r17 none
  else
    if x7 = 0 then
      (gX11_bayAt σ I R s0 (9 : Int32) x3).bind fun r15 =>
      gX11_countUp_b78 σ R I J x4 x5 x7 r15
    else
      gX11_countUp_b78 σ R I J x4 x5 x7 none
theorem eX11_countUp_b42 {σ : Shp} {I : Nat → Nat → Int32} {J : Nat → Nat → Int64} {R : Nat → Nat → Option Nat} {x3 : Int32} {x4 : Int32} {x5 : Int32} {x7 : Int32} {s0 : Option Nat} (hS : Skel σ R) : fX11_countUp_b42 σ R 4 I J x3 x4 x5 x7 s0 = gX11_countUp_b42 σ R I J x3 x4 x5 x7 s0 := by
  unfold fX11_countUp_b42 gX11_countUp_b42
  refine bi (fun c => ?_) (fun c => ?_)
  · refine bc (eX11_bayFault hS) (fun r17 hc18 => ?_)
    refine bi (fun c => ?_) (fun c => ?_)
    · refine bc (eX11_bayAt hS) (fun r19 hc20 => ?_)
      exact eX11_countUp_b78 hS
    · exact eX11_countUp_b78 hS
  · refine bi (fun c => ?_) (fun c => ?_)
    · refine bc (eX11_bayAt hS) (fun r15 hc16 => ?_)
      exact eX11_countUp_b78 hS
    · exact eX11_countUp_b78 hS
def gX11_countUp (σ : Shp) (I : Nat → Nat → Int32) (J : Nat → Nat → Int64) (R : Nat → Nat → Option Nat) (x1 : Int32) (x2 : Int32) (x3 : Int32) (x4 : Int32) (x5 : Int32) : Option ((Nat → Nat → Int32) × (Nat → Nat → Int64) × (Int32)) :=
  if (fX11_isBin x1) = 0 then
    some (I, J, (0 : Int32))
  else
    if ¬ (x1 < 0 ∨ 16 ≤ Int32.toNatClampNeg x1) then
    let v2 := (R 6 (Int32.toNatClampNeg x1))
    (gX11_placeFault σ I R v2 (11 : Int32) x2).bind fun r3 =>
    if r3 = 0 then
      (gX11_placeOf σ R v2 x2).bind fun r21 =>
      gX11_countUp_b42 σ R I J x3 x4 x5 r3 r21
    else
      gX11_countUp_b42 σ R I J x3 x4 x5 r3 none
    else none
theorem eX11_countUp {σ : Shp} {I : Nat → Nat → Int32} {J : Nat → Nat → Int64} {R : Nat → Nat → Option Nat} {x1 : Int32} {x2 : Int32} {x3 : Int32} {x4 : Int32} {x5 : Int32} (hS : Skel σ R) : fX11_countUp σ I J R 4 x1 x2 x3 x4 x5 = gX11_countUp σ I J R x1 x2 x3 x4 x5 := by
  unfold fX11_countUp gX11_countUp
  refine bi (fun c => ?_) (fun c => ?_)
  · rfl
  · refine sg (kq4 hS) ?_
    refine sb (rq4_1 hS) ?_
    refine sg (kq6 hS) ?_
    refine bgr (by rw [lq6 hS]) (fun g1 => ?_)
    refine bc (eX11_placeFault hS) (fun r3 hc4 => ?_)
    refine bi (fun c => ?_) (fun c => ?_)
    · refine bc (eX11_placeOf hS) (fun r21 hc22 => ?_)
      exact eX11_countUp_b42 hS
    · exact eX11_countUp_b42 hS
def gX11_placesFault (σ : Shp) (I : Nat → Nat → Int32) (R : Nat → Nat → Option Nat) (x0 : Option Nat) (x1 : Int32) : Option ((Int32)) :=
  onl x0
    (
      some (1 : Int32))
    (fun a1 =>
      if kdx σ a1 = 11 then
      if (fX11_isPlacesForm (I a1 0)) = 0 then
        some (4 : Int32)
      else
        (gX11_placeFault σ I R (some a1) (I a1 0) x1).bind fun r3 =>
        some r3
      else none)
theorem eX11_placesFault {σ : Shp} {I : Nat → Nat → Int32} {R : Nat → Nat → Option Nat} {x0 : Option Nat} {x1 : Int32} (hS : Skel σ R) : fX11_placesFault σ I R x0 x1 = gX11_placesFault σ I R x0 x1 := by
  unfold fX11_placesFault gX11_placesFault
  refine bo (fun ea1 => ?_) (fun a1 ha1 => ?_)
  · rfl
  · refine bg (fun g2 => ?_)
    refine bi (fun c => ?_) (fun c => ?_)
    · rfl
    · refine bc (eX11_placeFault hS) (fun r3 hc4 => ?_)
      rfl
def gX11_takes (σ : Shp) (I : Nat → Nat → Int32) (x0 : Int32) (x1 : Option Nat) : Option ((Int32)) :=
  onl x1
    (
      some (1 : Int32))
    (fun a1 =>
      if (fX11_isGridForm x0) = 0 then
        if x0 = (11 : Int32) then
          if kdx σ a1 = 11 then
          if (I a1 0) = (9 : Int32) then
            some (1 : Int32)
          else
            some (0 : Int32)
          else none
        else
          if kdx σ a1 = 11 then
          if (I a1 0) = (16 : Int32) then
            if (fX11_trayTakes x0 (I a1 3)) = 0 then
              some (0 : Int32)
            else
              some (1 : Int32)
          else
            some (0 : Int32)
          else none
      else
        if kdx σ a1 = 11 then
        if (I a1 0) = (fX11_laneOfGrid x0) then
          some (1 : Int32)
        else
          some (0 : Int32)
        else none)
theorem eX11_takes {σ : Shp} {I : Nat → Nat → Int32} {R : Nat → Nat → Option Nat} {x0 : Int32} {x1 : Option Nat} (hS : Skel σ R) : fX11_takes σ I x0 x1 = gX11_takes σ I x0 x1 := by
  unfold fX11_takes gX11_takes
  refine bo (fun ea1 => ?_) (fun a1 ha1 => ?_)
  · rfl
  · refine bi (fun c => ?_) (fun c => ?_)
    · refine bi (fun c => ?_) (fun c => ?_)
      · refine bg (fun g3 => ?_)
        refine bi (fun c => ?_) (fun c => ?_)
        · rfl
        · rfl
      · refine bg (fun g2 => ?_)
        refine bi (fun c => ?_) (fun c => ?_)
        · refine bi (fun c => ?_) (fun c => ?_)
          · rfl
          · rfl
        · rfl
    · refine bg (fun g4 => ?_)
      refine bi (fun c => ?_) (fun c => ?_)
      · rfl
      · rfl
def gX11_set (σ : Shp) (I : Nat → Nat → Int32) (R : Nat → Nat → Option Nat) (x1 : Int32) (x2 : Int32) (x3 : Int32) : Option ((Nat → Nat → Int32) × (Nat → Nat → Option Nat) × (Int32)) :=
  if (fX11_isBin x1) = 0 then
    some (I, R, (-2 : Int32))
  else
    if (fX11_isBin x3) = 0 then
      some (I, R, (-2 : Int32))
    else
      if ¬ (x1 < 0 ∨ 16 ≤ Int32.toNatClampNeg x1) then
      let v2 := (R 6 (Int32.toNatClampNeg x1))
      (gX11_placesFault σ I R v2 x2).bind fun r3 =>
      if r3 = 0 then
        onl v2
          (
            (gX11_fail I r3).bind fun (I9, r10) =>
            some (I9, R, r10))
          (fun a8 =>
            if kdx σ a8 = 11 then
            if ¬ (x3 < 0 ∨ 16 ≤ Int32.toNatClampNeg x3) then
            (gX11_takes σ I (I a8 0) (R 6 (Int32.toNatClampNeg x3))).bind fun r14 =>
            if r14 = 0 then
              (gX11_fail I (5 : Int32)).bind fun (I21, r22) =>
              some (I21, R, r22)
            else
              ((R a8 2) : Option Nat).bind fun a16 =>
              if kdx σ a16 = 26 then
              if ¬ (x2 < 0 ∨ lnx σ a16 ≤ Int32.toNatClampNeg x2) then
              if okR σ 11 (R 6 (Int32.toNatClampNeg x3)) = true then
              let R20 := u2 R a16 (Int32.toNatClampNeg x2) (R 6 (Int32.toNatClampNeg x3))
              some (I, R20, (1 : Int32))
              else none
              else none
              else none
            else none
            else none)
      else
        (gX11_fail I r3).bind fun (I5, r6) =>
        some (I5, R, r6)
      else none
theorem pX11_set {σ : Shp} {I : Nat → Nat → Int32} {R : Nat → Nat → Option Nat} {x1 : Int32} {x2 : Int32} {x3 : Int32} {I9 : Nat → Nat → Int32} {R9 : Nat → Nat → Option Nat} {r9 : Int32} (hS : Skel σ R) (h : gX11_set σ I R x1 x2 x3 = some (I9, R9, r9)) : Skel σ R9 := by
  unfold gX11_set at h
  rcases itc h with ⟨c, h⟩ | ⟨c, h⟩
  · cases h
    exact hS
  · rcases itc h with ⟨c, h⟩ | ⟨c, h⟩
    · cases h
      exact hS
    · obtain ⟨g1, h⟩ := gd h
      let v2 := (R 6 (Int32.toNatClampNeg x1))
      obtain ⟨r3, hc4, h⟩ := ob h
      rcases itc h with ⟨c, h⟩ | ⟨c, h⟩
      · rcases onl_c h with ⟨ea8, h⟩ | ⟨a8, ha8, h⟩
        · obtain ⟨⟨I9, r10⟩, hc11, h⟩ := ob h
          cases h
          exact hS
        · obtain ⟨g12, h⟩ := gd h
          obtain ⟨g13, h⟩ := gd h
          obtain ⟨r14, hc15, h⟩ := ob h
          rcases itc h with ⟨c, h⟩ | ⟨c, h⟩
          · obtain ⟨⟨I21, r22⟩, hc23, h⟩ := ob h
            cases h
            exact hS
          · obtain ⟨a16, ha16, h⟩ := ob h
            obtain ⟨g17, h⟩ := gd h
            obtain ⟨g18, h⟩ := gd h
            obtain ⟨g19, h⟩ := gd h
            let R20 := u2 R a16 (Int32.toNatClampNeg x2) (R 6 (Int32.toNatClampNeg x3))
            have hS := hS.setR (k := (Int32.toNatClampNeg x2)) (v := (R 6 (Int32.toNatClampNeg x3))) (Or.inl g17)
            cases h
            exact hS
      · obtain ⟨⟨I5, r6⟩, hc7, h⟩ := ob h
        cases h
        exact hS
theorem eX11_set {σ : Shp} {I : Nat → Nat → Int32} {R : Nat → Nat → Option Nat} {x1 : Int32} {x2 : Int32} {x3 : Int32} (hS : Skel σ R) : fX11_set σ I R 4 x1 x2 x3 = gX11_set σ I R x1 x2 x3 := by
  unfold fX11_set gX11_set
  refine bi (fun c => ?_) (fun c => ?_)
  · rfl
  · refine bi (fun c => ?_) (fun c => ?_)
    · rfl
    · refine sg (kq4 hS) ?_
      refine sb (rq4_1 hS) ?_
      refine sg (kq6 hS) ?_
      refine bgr (by rw [lq6 hS]) (fun g1 => ?_)
      let v2 := (R 6 (Int32.toNatClampNeg x1))
      refine bc (eX11_placesFault hS) (fun r3 hc4 => ?_)
      refine bi (fun c => ?_) (fun c => ?_)
      · refine bo (fun ea8 => ?_) (fun a8 ha8 => ?_)
        · try with_reducible refine sg (kq4 hS) ?_
          refine bc (eX11_fail hS) (fun pp hc11 => ?_)
          obtain ⟨I9, r10⟩ := pp
          rfl
        · refine bg (fun g12 => ?_)
          try with_reducible refine sg (kq4 hS) ?_
          try with_reducible refine sg (kq6 hS) ?_
          refine bgr (by rw [lq6 hS]) (fun g13 => ?_)
          refine bc (eX11_takes hS) (fun r14 hc15 => ?_)
          refine bi (fun c => ?_) (fun c => ?_)
          · try with_reducible refine sg (kq4 hS) ?_
            refine bc (eX11_fail hS) (fun pp hc23 => ?_)
            obtain ⟨I21, r22⟩ := pp
            rfl
          · refine bb (fun a16 ha16 => ?_)
            try with_reducible refine sg (kq4 hS) ?_
            try with_reducible refine sg (kq6 hS) ?_
            try with_reducible refine sg (by rw [lq6 hS]; exact g13) ?_
            refine bg (fun g17 => ?_)
            refine bg (fun g18 => ?_)
            refine bg (fun g19 => ?_)
            let R20 := u2 R a16 (Int32.toNatClampNeg x2) (R 6 (Int32.toNatClampNeg x3))
            have hS := hS.setR (k := (Int32.toNatClampNeg x2)) (v := (R 6 (Int32.toNatClampNeg x3))) (Or.inl g17)
            rfl
      · try with_reducible refine sg (kq4 hS) ?_
        refine bc (eX11_fail hS) (fun pp hc7 => ?_)
        obtain ⟨I5, r6⟩ := pp
        rfl
def gX11_lift (σ : Shp) (I : Nat → Nat → Int32) (R : Nat → Nat → Option Nat) (x1 : Int32) (x2 : Int32) (x3 : Int32) : Option ((Nat → Nat → Int32) × (Nat → Nat → Option Nat) × (Int32)) :=
  if (fX11_isBin x1) = 0 then
    some (I, R, (-2 : Int32))
  else
    if (fX11_isBin x2) = 0 then
      some (I, R, (-2 : Int32))
    else
      if ¬ (x2 < 0 ∨ 16 ≤ Int32.toNatClampNeg x2) then
      (gX11_placesFault σ I R (R 6 (Int32.toNatClampNeg x2)) x3).bind fun r2 =>
      if r2 = 0 then
        (gX11_placeOf σ R (R 6 (Int32.toNatClampNeg x2)) x3).bind fun r4 =>
        if ¬ (x1 < 0 ∨ 16 ≤ Int32.toNatClampNeg x1) then
        if okR σ 11 r4 = true then
        let R8 := u2 R 6 (Int32.toNatClampNeg x1) r4
        some (I, R8, (1 : Int32))
        else none
        else none
      else
        (gX11_fail I r2).bind fun (I9, r10) =>
        some (I9, R, r10)
      else none
theorem pX11_lift {σ : Shp} {I : Nat → Nat → Int32} {R : Nat → Nat → Option Nat} {x1 : Int32} {x2 : Int32} {x3 : Int32} {I9 : Nat → Nat → Int32} {R9 : Nat → Nat → Option Nat} {r9 : Int32} (hS : Skel σ R) (h : gX11_lift σ I R x1 x2 x3 = some (I9, R9, r9)) : Skel σ R9 := by
  unfold gX11_lift at h
  rcases itc h with ⟨c, h⟩ | ⟨c, h⟩
  · cases h
    exact hS
  · rcases itc h with ⟨c, h⟩ | ⟨c, h⟩
    · cases h
      exact hS
    · obtain ⟨g1, h⟩ := gd h
      obtain ⟨r2, hc3, h⟩ := ob h
      rcases itc h with ⟨c, h⟩ | ⟨c, h⟩
      · obtain ⟨r4, hc5, h⟩ := ob h
        obtain ⟨g6, h⟩ := gd h
        obtain ⟨g7, h⟩ := gd h
        let R8 := u2 R 6 (Int32.toNatClampNeg x1) r4
        have hS := hS.setR (k := (Int32.toNatClampNeg x1)) (v := r4) (Or.inl (kq6 hS))
        cases h
        exact hS
      · obtain ⟨⟨I9, r10⟩, hc11, h⟩ := ob h
        cases h
        exact hS
theorem eX11_lift {σ : Shp} {I : Nat → Nat → Int32} {R : Nat → Nat → Option Nat} {x1 : Int32} {x2 : Int32} {x3 : Int32} (hS : Skel σ R) : fX11_lift σ I R 4 x1 x2 x3 = gX11_lift σ I R x1 x2 x3 := by
  unfold fX11_lift gX11_lift
  refine bi (fun c => ?_) (fun c => ?_)
  · rfl
  · refine bi (fun c => ?_) (fun c => ?_)
    · rfl
    · refine sg (kq4 hS) ?_
      refine sb (rq4_1 hS) ?_
      refine sg (kq6 hS) ?_
      refine bgr (by rw [lq6 hS]) (fun g1 => ?_)
      refine bc (eX11_placesFault hS) (fun r2 hc3 => ?_)
      refine bi (fun c => ?_) (fun c => ?_)
      · try with_reducible refine sg (kq4 hS) ?_
        try with_reducible refine sg (kq4 hS) ?_
        try with_reducible refine sg (kq6 hS) ?_
        try with_reducible refine sg (by rw [lq6 hS]; exact g1) ?_
        refine bc (eX11_placeOf hS) (fun r4 hc5 => ?_)
        try with_reducible refine sg (kq6 hS) ?_
        refine bgr (by rw [lq6 hS]) (fun g6 => ?_)
        refine bg (fun g7 => ?_)
        let R8 := u2 R 6 (Int32.toNatClampNeg x1) r4
        have hS := hS.setR (k := (Int32.toNatClampNeg x1)) (v := r4) (Or.inl (kq6 hS))
        rfl
      · try with_reducible refine sg (kq4 hS) ?_
        refine bc (eX11_fail hS) (fun pp hc11 => ?_)
        obtain ⟨I9, r10⟩ := pp
        rfl
def gX11_liftAs (σ : Shp) (I : Nat → Nat → Int32) (R : Nat → Nat → Option Nat) (x1 : Int32) (x2 : Int32) (x3 : Int32) (x4 : Int32) : Option ((Nat → Nat → Int32) × (Nat → Nat → Option Nat) × (Int32)) :=
  if (fX11_isBin x1) = 0 then
    some (I, R, (-2 : Int32))
  else
    if (fX11_isBin x2) = 0 then
      some (I, R, (-2 : Int32))
    else
      if (fX11_isForm x4) = 0 then
        some (I, R, (-2 : Int32))
      else
        if ¬ (x2 < 0 ∨ 16 ≤ Int32.toNatClampNeg x2) then
        (gX11_placesFault σ I R (R 6 (Int32.toNatClampNeg x2)) x3).bind fun r2 =>
        if r2 = 0 then
          (gX11_placeOf σ R (R 6 (Int32.toNatClampNeg x2)) x3).bind fun r4 =>
          (gX11_goesFor σ I r4 x4).bind fun r6 =>
          if r6 = 0 then
            (gX11_fail I (4 : Int32)).bind fun (I11, r12) =>
            some (I11, R, r12)
          else
            if ¬ (x1 < 0 ∨ 16 ≤ Int32.toNatClampNeg x1) then
            if okR σ 11 r4 = true then
            let R10 := u2 R 6 (Int32.toNatClampNeg x1) r4
            some (I, R10, (1 : Int32))
            else none
            else none
        else
          (gX11_fail I r2).bind fun (I14, r15) =>
          some (I14, R, r15)
        else none
theorem pX11_liftAs {σ : Shp} {I : Nat → Nat → Int32} {R : Nat → Nat → Option Nat} {x1 : Int32} {x2 : Int32} {x3 : Int32} {x4 : Int32} {I9 : Nat → Nat → Int32} {R9 : Nat → Nat → Option Nat} {r9 : Int32} (hS : Skel σ R) (h : gX11_liftAs σ I R x1 x2 x3 x4 = some (I9, R9, r9)) : Skel σ R9 := by
  unfold gX11_liftAs at h
  rcases itc h with ⟨c, h⟩ | ⟨c, h⟩
  · cases h
    exact hS
  · rcases itc h with ⟨c, h⟩ | ⟨c, h⟩
    · cases h
      exact hS
    · rcases itc h with ⟨c, h⟩ | ⟨c, h⟩
      · cases h
        exact hS
      · obtain ⟨g1, h⟩ := gd h
        obtain ⟨r2, hc3, h⟩ := ob h
        rcases itc h with ⟨c, h⟩ | ⟨c, h⟩
        · obtain ⟨r4, hc5, h⟩ := ob h
          obtain ⟨r6, hc7, h⟩ := ob h
          rcases itc h with ⟨c, h⟩ | ⟨c, h⟩
          · obtain ⟨⟨I11, r12⟩, hc13, h⟩ := ob h
            cases h
            exact hS
          · obtain ⟨g8, h⟩ := gd h
            obtain ⟨g9, h⟩ := gd h
            let R10 := u2 R 6 (Int32.toNatClampNeg x1) r4
            have hS := hS.setR (k := (Int32.toNatClampNeg x1)) (v := r4) (Or.inl (kq6 hS))
            cases h
            exact hS
        · obtain ⟨⟨I14, r15⟩, hc16, h⟩ := ob h
          cases h
          exact hS
theorem eX11_liftAs {σ : Shp} {I : Nat → Nat → Int32} {R : Nat → Nat → Option Nat} {x1 : Int32} {x2 : Int32} {x3 : Int32} {x4 : Int32} (hS : Skel σ R) : fX11_liftAs σ I R 4 x1 x2 x3 x4 = gX11_liftAs σ I R x1 x2 x3 x4 := by
  unfold fX11_liftAs gX11_liftAs
  refine bi (fun c => ?_) (fun c => ?_)
  · rfl
  · refine bi (fun c => ?_) (fun c => ?_)
    · rfl
    · refine bi (fun c => ?_) (fun c => ?_)
      · rfl
      · refine sg (kq4 hS) ?_
        refine sb (rq4_1 hS) ?_
        refine sg (kq6 hS) ?_
        refine bgr (by rw [lq6 hS]) (fun g1 => ?_)
        refine bc (eX11_placesFault hS) (fun r2 hc3 => ?_)
        refine bi (fun c => ?_) (fun c => ?_)
        · try with_reducible refine sg (kq4 hS) ?_
          try with_reducible refine sg (kq6 hS) ?_
          try with_reducible refine sg (by rw [lq6 hS]; exact g1) ?_
          refine bc (eX11_placeOf hS) (fun r4 hc5 => ?_)
          refine bc (eX11_goesFor hS) (fun r6 hc7 => ?_)
          refine bi (fun c => ?_) (fun c => ?_)
          · try with_reducible refine sg (kq4 hS) ?_
            refine bc (eX11_fail hS) (fun pp hc13 => ?_)
            obtain ⟨I11, r12⟩ := pp
            rfl
          · try with_reducible refine sg (kq4 hS) ?_
            try with_reducible refine sg (kq6 hS) ?_
            refine bgr (by rw [lq6 hS]) (fun g8 => ?_)
            refine bg (fun g9 => ?_)
            let R10 := u2 R 6 (Int32.toNatClampNeg x1) r4
            have hS := hS.setR (k := (Int32.toNatClampNeg x1)) (v := r4) (Or.inl (kq6 hS))
            rfl
        · try with_reducible refine sg (kq4 hS) ?_
          refine bc (eX11_fail hS) (fun pp hc16 => ?_)
          obtain ⟨I14, r15⟩ := pp
          rfl
def gX11_isRow (σ : Shp) (I : Nat → Nat → Int32) (x0 : Option Nat) : Option ((Int32)) :=
  (x0 : Option Nat).bind fun a1 =>
  if kdx σ a1 = 11 then
  if (7 : Int32) < (I a1 0) then
    some (0 : Int32)
  else
    some (1 : Int32)
  else none
theorem eX11_isRow {σ : Shp} {I : Nat → Nat → Int32} {R : Nat → Nat → Option Nat} {x0 : Option Nat} (hS : Skel σ R) : fX11_isRow σ I x0 = gX11_isRow σ I x0 := by
  unfold fX11_isRow gX11_isRow
  refine bb (fun a1 ha1 => ?_)
  refine bg (fun g2 => ?_)
  refine bi (fun c => ?_) (fun c => ?_)
  · rfl
  · rfl
def gX11_leadTaken_l3  (σ : Shp) (I : Nat → Nat → Int32) (R : Nat → Nat → Option Nat) : Nat → (Option Nat) → (Int32) → (Option Nat) → (Int32) → (Int32) → Option ((Int32))
  | 0, _, _, _, _, _ => none
  | n + 1, x0, x1, x2, x3, x4 =>
    if x3 ≤ x4 then
      some x3
    else
      (x2 : Option Nat).bind fun a1 =>
      if kdx σ a1 = 11 then
      (gX11_placeOf σ R x0 (x1 + x4)).bind fun r3 =>
      (gX11_takes σ I (I a1 0) r3).bind fun r5 =>
      if r5 = 0 then
        some x4
      else
        let v7 := x4 + (1 : Int32)
        gX11_leadTaken_l3 σ I R n x0 x1 x2 x3 v7
      else none
theorem eX11_leadTaken_l3 {σ : Shp} {I : Nat → Nat → Int32} {R : Nat → Nat → Option Nat} (hS : Skel σ R) : ∀ (n : Nat) (x0 : Option Nat) (x1 : Int32) (x2 : Option Nat) (x3 : Int32) (x4 : Int32), fX11_leadTaken_l3 σ I R n x0 x1 x2 x3 x4 = gX11_leadTaken_l3 σ I R n x0 x1 x2 x3 x4 := by
  intro n
  induction n with
  | zero => intro x0 x1 x2 x3 x4; rfl
  | succ n ih =>
    intro x0 x1 x2 x3 x4
    rw [fX11_leadTaken_l3, gX11_leadTaken_l3]
    refine bi (fun c => ?_) (fun c => ?_)
    · rfl
    · refine bb (fun a1 ha1 => ?_)
      refine bg (fun g2 => ?_)
      refine bc (eX11_placeOf hS) (fun r3 hc4 => ?_)
      refine bc (eX11_takes hS) (fun r5 hc6 => ?_)
      refine bi (fun c => ?_) (fun c => ?_)
      · rfl
      · exact ih _ _ _ _ _
def gX11_leadTaken (σ : Shp) (I : Nat → Nat → Int32) (R : Nat → Nat → Option Nat) (x0 : Option Nat) (x1 : Int32) (x2 : Option Nat) (x3 : Int32) : Option ((Int32)) :=
  gX11_leadTaken_l3 σ I R FUx x0 x1 x2 x3 (0 : Int32)
theorem eX11_leadTaken {σ : Shp} {I : Nat → Nat → Int32} {R : Nat → Nat → Option Nat} {x0 : Option Nat} {x1 : Int32} {x2 : Option Nat} {x3 : Int32} (hS : Skel σ R) : fX11_leadTaken σ I R x0 x1 x2 x3 = gX11_leadTaken σ I R x0 x1 x2 x3 := by
  unfold fX11_leadTaken gX11_leadTaken
  exact eX11_leadTaken_l3 hS _ _ _ _ _ _
def gX11_moveCells_b56 (q32 : (Nat → Nat → Int64) → (Option Nat) → (Int32) → (Option Nat) → (Int32) → (Int32) → (Int32) → (Option ((Nat → Nat → Int64)))) (σ : Shp) (R : Nat → Nat → Option Nat) (J : Nat → Nat → Int64) (x0 : Option Nat) (x1 : Int32) (x2 : Option Nat) (x3 : Int32) (x4 : Int32) (x5 : Int32) (s0 : Int32) : Option ((Nat → Nat → Int64)) :=
  (x2 : Option Nat).bind fun a9 =>
  if kdx σ a9 = 11 then
  ((R a9 1) : Option Nat).bind fun a11 =>
  (x0 : Option Nat).bind fun a12 =>
  if kdx σ a12 = 11 then
  ((R a12 1) : Option Nat).bind fun a14 =>
  if kdx σ a14 = 21 then
  if ¬ ((x1 + s0) < 0 ∨ lnx σ a14 ≤ Int32.toNatClampNeg (x1 + s0)) then
  if kdx σ a11 = 21 then
  if ¬ ((x3 + s0) < 0 ∨ lnx σ a11 ≤ Int32.toNatClampNeg (x3 + s0)) then
  let J19 := u2 J a11 (Int32.toNatClampNeg (x3 + s0)) (J a14 (Int32.toNatClampNeg (x1 + s0)))
  let v20 := x5 + (1 : Int32)
  q32 J19 x0 x1 x2 x3 x4 v20
  else none
  else none
  else none
  else none
  else none
  else none
theorem eX11_moveCells_b56 {σ : Shp} {J : Nat → Nat → Int64} {R : Nat → Nat → Option Nat} {x0 : Option Nat} {x1 : Int32} {x2 : Option Nat} {x3 : Int32} {x4 : Int32} {x5 : Int32} {s0 : Int32} (hS : Skel σ R) {qf32 q32 : (Nat → Nat → Int64) → (Option Nat) → (Int32) → (Option Nat) → (Int32) → (Int32) → (Int32) → (Option ((Nat → Nat → Int64)))} (hq32 : ∀ (J : Nat → Nat → Int64) (x0 : Option Nat) (x1 : Int32) (x2 : Option Nat) (x3 : Int32) (x4 : Int32) (x5 : Int32), qf32 J x0 x1 x2 x3 x4 x5 = q32 J x0 x1 x2 x3 x4 x5) : fX11_moveCells_b56 qf32 σ R J x0 x1 x2 x3 x4 x5 s0 = gX11_moveCells_b56 q32 σ R J x0 x1 x2 x3 x4 x5 s0 := by
  unfold fX11_moveCells_b56 gX11_moveCells_b56
  refine bb (fun a9 ha9 => ?_)
  refine bg (fun g10 => ?_)
  refine bb (fun a11 ha11 => ?_)
  refine bb (fun a12 ha12 => ?_)
  refine bg (fun g13 => ?_)
  refine bb (fun a14 ha14 => ?_)
  refine bg (fun g15 => ?_)
  refine bg (fun g16 => ?_)
  refine bg (fun g17 => ?_)
  refine bg (fun g18 => ?_)
  exact hq32 _ _ _ _ _ _ _
def gX11_moveCells_l32  (σ : Shp) (R : Nat → Nat → Option Nat) : Nat → (Nat → Nat → Int64) → (Option Nat) → (Int32) → (Option Nat) → (Int32) → (Int32) → (Int32) → Option ((Nat → Nat → Int64))
  | 0, _, _, _, _, _, _, _ => none
  | n + 1, J, x0, x1, x2, x3, x4, x5 =>
    if x4 ≤ x5 then
      some J
    else
      if x3 ≤ x1 then
        gX11_moveCells_b56 (gX11_moveCells_l32 σ R n) σ R J x0 x1 x2 x3 x4 x5 x5
      else
        gX11_moveCells_b56 (gX11_moveCells_l32 σ R n) σ R J x0 x1 x2 x3 x4 x5 ((x4 - (1 : Int32)) - x5)
theorem eX11_moveCells_l32 {σ : Shp} {R : Nat → Nat → Option Nat} (hS : Skel σ R) : ∀ (n : Nat) (J : Nat → Nat → Int64) (x0 : Option Nat) (x1 : Int32) (x2 : Option Nat) (x3 : Int32) (x4 : Int32) (x5 : Int32), fX11_moveCells_l32 σ R n J x0 x1 x2 x3 x4 x5 = gX11_moveCells_l32 σ R n J x0 x1 x2 x3 x4 x5 := by
  intro n
  induction n with
  | zero => intro J x0 x1 x2 x3 x4 x5; rfl
  | succ n ih =>
    intro J x0 x1 x2 x3 x4 x5
    rw [fX11_moveCells_l32, gX11_moveCells_l32]
    refine bi (fun c => ?_) (fun c => ?_)
    · rfl
    · refine bi (fun c => ?_) (fun c => ?_)
      · exact eX11_moveCells_b56 hS ih
      · exact eX11_moveCells_b56 hS ih
def gX11_moveCells (σ : Shp) (J : Nat → Nat → Int64) (R : Nat → Nat → Option Nat) (x0 : Option Nat) (x1 : Int32) (x2 : Option Nat) (x3 : Int32) (x4 : Int32) : Option ((Nat → Nat → Int64)) :=
  (x0 : Option Nat).bind fun a1 =>
  if kdx σ a1 = 11 then
  ((R a1 1) : Option Nat).bind fun a3 =>
  if kdx σ a3 = 21 then
  if (fX11_spanFits (Int32.ofNat (lnx σ a3)) x1 x4) = 0 then
    some J
  else
    (x2 : Option Nat).bind fun a5 =>
    if kdx σ a5 = 11 then
    ((R a5 1) : Option Nat).bind fun a7 =>
    if kdx σ a7 = 21 then
    if (fX11_spanFits (Int32.ofNat (lnx σ a7)) x3 x4) = 0 then
      some J
    else
      gX11_moveCells_l32 σ R FUx J x0 x1 x2 x3 x4 (0 : Int32)
    else none
    else none
  else none
  else none
theorem eX11_moveCells {σ : Shp} {J : Nat → Nat → Int64} {R : Nat → Nat → Option Nat} {x0 : Option Nat} {x1 : Int32} {x2 : Option Nat} {x3 : Int32} {x4 : Int32} (hS : Skel σ R) : fX11_moveCells σ J R x0 x1 x2 x3 x4 = gX11_moveCells σ J R x0 x1 x2 x3 x4 := by
  unfold fX11_moveCells gX11_moveCells
  refine bb (fun a1 ha1 => ?_)
  refine bg (fun g2 => ?_)
  refine bb (fun a3 ha3 => ?_)
  refine bg (fun g4 => ?_)
  refine bi (fun c => ?_) (fun c => ?_)
  · rfl
  · refine bb (fun a5 ha5 => ?_)
    refine bg (fun g6 => ?_)
    refine bb (fun a7 ha7 => ?_)
    refine bg (fun g8 => ?_)
    refine bi (fun c => ?_) (fun c => ?_)
    · rfl
    · exact eX11_moveCells_l32 hS _ _ _ _ _ _ _ _
def gX11_movePlaces_b56 (q32 : (Nat → Nat → Option Nat) → (Option Nat) → (Int32) → (Option Nat) → (Int32) → (Int32) → (Int32) → (Option ((Nat → Nat → Option Nat)))) (σ : Shp) (R : Nat → Nat → Option Nat) (x0 : Option Nat) (x1 : Int32) (x2 : Option Nat) (x3 : Int32) (x4 : Int32) (x5 : Int32) (s0 : Int32) : Option ((Nat → Nat → Option Nat)) :=
  (x2 : Option Nat).bind fun a9 =>
  if kdx σ a9 = 11 then
  ((R a9 2) : Option Nat).bind fun a11 =>
  (x0 : Option Nat).bind fun a12 =>
  if kdx σ a12 = 11 then
  ((R a12 2) : Option Nat).bind fun a14 =>
  if kdx σ a14 = 26 then
  if ¬ ((x1 + s0) < 0 ∨ lnx σ a14 ≤ Int32.toNatClampNeg (x1 + s0)) then
  if kdx σ a11 = 26 then
  if ¬ ((x3 + s0) < 0 ∨ lnx σ a11 ≤ Int32.toNatClampNeg (x3 + s0)) then
  if okR σ 11 (R a14 (Int32.toNatClampNeg (x1 + s0))) = true then
  let R20 := u2 R a11 (Int32.toNatClampNeg (x3 + s0)) (R a14 (Int32.toNatClampNeg (x1 + s0)))
  let v21 := x5 + (1 : Int32)
  q32 R20 x0 x1 x2 x3 x4 v21
  else none
  else none
  else none
  else none
  else none
  else none
  else none
theorem eX11_movePlaces_b56 {σ : Shp} {R : Nat → Nat → Option Nat} {x0 : Option Nat} {x1 : Int32} {x2 : Option Nat} {x3 : Int32} {x4 : Int32} {x5 : Int32} {s0 : Int32} (hS : Skel σ R) {qf32 q32 : (Nat → Nat → Option Nat) → (Option Nat) → (Int32) → (Option Nat) → (Int32) → (Int32) → (Int32) → (Option ((Nat → Nat → Option Nat)))} (hq32 : ∀ (R : Nat → Nat → Option Nat) (x0 : Option Nat) (x1 : Int32) (x2 : Option Nat) (x3 : Int32) (x4 : Int32) (x5 : Int32), Skel σ R → qf32 R x0 x1 x2 x3 x4 x5 = q32 R x0 x1 x2 x3 x4 x5) : fX11_movePlaces_b56 qf32 σ R x0 x1 x2 x3 x4 x5 s0 = gX11_movePlaces_b56 q32 σ R x0 x1 x2 x3 x4 x5 s0 := by
  unfold fX11_movePlaces_b56 gX11_movePlaces_b56
  refine bb (fun a9 ha9 => ?_)
  refine bg (fun g10 => ?_)
  refine bb (fun a11 ha11 => ?_)
  refine bb (fun a12 ha12 => ?_)
  refine bg (fun g13 => ?_)
  refine bb (fun a14 ha14 => ?_)
  refine bg (fun g15 => ?_)
  refine bg (fun g16 => ?_)
  refine bg (fun g17 => ?_)
  refine bg (fun g18 => ?_)
  refine bg (fun g19 => ?_)
  let R20 := u2 R a11 (Int32.toNatClampNeg (x3 + s0)) (R a14 (Int32.toNatClampNeg (x1 + s0)))
  have hS := hS.setR (k := (Int32.toNatClampNeg (x3 + s0))) (v := (R a14 (Int32.toNatClampNeg (x1 + s0)))) (Or.inl g17)
  let v21 := x5 + (1 : Int32)
  exact hq32 _ _ _ _ _ _ _ hS
theorem pX11_movePlaces_b56 {σ : Shp} {R : Nat → Nat → Option Nat} {x0 : Option Nat} {x1 : Int32} {x2 : Option Nat} {x3 : Int32} {x4 : Int32} {x5 : Int32} {s0 : Int32} {R9 : Nat → Nat → Option Nat} {q32 : (Nat → Nat → Option Nat) → (Option Nat) → (Int32) → (Option Nat) → (Int32) → (Int32) → (Int32) → (Option ((Nat → Nat → Option Nat)))} (pq32 : ∀ (R : Nat → Nat → Option Nat) (x0 : Option Nat) (x1 : Int32) (x2 : Option Nat) (x3 : Int32) (x4 : Int32) (x5 : Int32), Skel σ R → q32 R x0 x1 x2 x3 x4 x5 = some R9 → Skel σ R9) (hS : Skel σ R) (h : gX11_movePlaces_b56 q32 σ R x0 x1 x2 x3 x4 x5 s0 = some R9) : Skel σ R9 := by
  unfold gX11_movePlaces_b56 at h
  obtain ⟨a9, ha9, h⟩ := ob h
  obtain ⟨g10, h⟩ := gd h
  obtain ⟨a11, ha11, h⟩ := ob h
  obtain ⟨a12, ha12, h⟩ := ob h
  obtain ⟨g13, h⟩ := gd h
  obtain ⟨a14, ha14, h⟩ := ob h
  obtain ⟨g15, h⟩ := gd h
  obtain ⟨g16, h⟩ := gd h
  obtain ⟨g17, h⟩ := gd h
  obtain ⟨g18, h⟩ := gd h
  obtain ⟨g19, h⟩ := gd h
  let R20 := u2 R a11 (Int32.toNatClampNeg (x3 + s0)) (R a14 (Int32.toNatClampNeg (x1 + s0)))
  have hS := hS.setR (k := (Int32.toNatClampNeg (x3 + s0))) (v := (R a14 (Int32.toNatClampNeg (x1 + s0)))) (Or.inl g17)
  let v21 := x5 + (1 : Int32)
  exact pq32 _ _ _ _ _ _ _ hS h
def gX11_movePlaces_l32  (σ : Shp) : Nat → (Nat → Nat → Option Nat) → (Option Nat) → (Int32) → (Option Nat) → (Int32) → (Int32) → (Int32) → Option ((Nat → Nat → Option Nat))
  | 0, _, _, _, _, _, _, _ => none
  | n + 1, R, x0, x1, x2, x3, x4, x5 =>
    if x4 ≤ x5 then
      some R
    else
      if x3 ≤ x1 then
        gX11_movePlaces_b56 (gX11_movePlaces_l32 σ n) σ R x0 x1 x2 x3 x4 x5 x5
      else
        gX11_movePlaces_b56 (gX11_movePlaces_l32 σ n) σ R x0 x1 x2 x3 x4 x5 ((x4 - (1 : Int32)) - x5)
theorem eX11_movePlaces_l32 {σ : Shp} : ∀ (n : Nat) (R : Nat → Nat → Option Nat) (x0 : Option Nat) (x1 : Int32) (x2 : Option Nat) (x3 : Int32) (x4 : Int32) (x5 : Int32), Skel σ R → fX11_movePlaces_l32 σ n R x0 x1 x2 x3 x4 x5 = gX11_movePlaces_l32 σ n R x0 x1 x2 x3 x4 x5 := by
  intro n
  induction n with
  | zero => intro R x0 x1 x2 x3 x4 x5 hS; rfl
  | succ n ih =>
    intro R x0 x1 x2 x3 x4 x5 hS
    rw [fX11_movePlaces_l32, gX11_movePlaces_l32]
    refine bi (fun c => ?_) (fun c => ?_)
    · rfl
    · refine bi (fun c => ?_) (fun c => ?_)
      · exact eX11_movePlaces_b56 hS ih
      · exact eX11_movePlaces_b56 hS ih
theorem pX11_movePlaces_l32 {σ : Shp} {R9 : Nat → Nat → Option Nat} : ∀ (n : Nat) (R : Nat → Nat → Option Nat) (x0 : Option Nat) (x1 : Int32) (x2 : Option Nat) (x3 : Int32) (x4 : Int32) (x5 : Int32), Skel σ R → gX11_movePlaces_l32 σ n R x0 x1 x2 x3 x4 x5 = some R9 → Skel σ R9 := by
  intro n
  induction n with
  | zero =>
    intro R x0 x1 x2 x3 x4 x5 hS h
    have h : none = some _ := h
    cases h
  | succ n ih =>
    intro R x0 x1 x2 x3 x4 x5 hS h
    rw [gX11_movePlaces_l32] at h
    rcases itc h with ⟨c, h⟩ | ⟨c, h⟩
    · cases h
      exact hS
    · rcases itc h with ⟨c, h⟩ | ⟨c, h⟩
      · exact pX11_movePlaces_b56 ih hS h
      · exact pX11_movePlaces_b56 ih hS h
def gX11_movePlaces (σ : Shp) (R : Nat → Nat → Option Nat) (x0 : Option Nat) (x1 : Int32) (x2 : Option Nat) (x3 : Int32) (x4 : Int32) : Option ((Nat → Nat → Option Nat)) :=
  (x0 : Option Nat).bind fun a1 =>
  if kdx σ a1 = 11 then
  ((R a1 2) : Option Nat).bind fun a3 =>
  if kdx σ a3 = 26 then
  if (fX11_spanFits (Int32.ofNat (lnx σ a3)) x1 x4) = 0 then
    some R
  else
    (x2 : Option Nat).bind fun a5 =>
    if kdx σ a5 = 11 then
    ((R a5 2) : Option Nat).bind fun a7 =>
    if kdx σ a7 = 26 then
    if (fX11_spanFits (Int32.ofNat (lnx σ a7)) x3 x4) = 0 then
      some R
    else
      gX11_movePlaces_l32 σ FUx R x0 x1 x2 x3 x4 (0 : Int32)
    else none
    else none
  else none
  else none
theorem pX11_movePlaces {σ : Shp} {R : Nat → Nat → Option Nat} {x0 : Option Nat} {x1 : Int32} {x2 : Option Nat} {x3 : Int32} {x4 : Int32} {R9 : Nat → Nat → Option Nat} (hS : Skel σ R) (h : gX11_movePlaces σ R x0 x1 x2 x3 x4 = some R9) : Skel σ R9 := by
  unfold gX11_movePlaces at h
  obtain ⟨a1, ha1, h⟩ := ob h
  obtain ⟨g2, h⟩ := gd h
  obtain ⟨a3, ha3, h⟩ := ob h
  obtain ⟨g4, h⟩ := gd h
  rcases itc h with ⟨c, h⟩ | ⟨c, h⟩
  · cases h
    exact hS
  · obtain ⟨a5, ha5, h⟩ := ob h
    obtain ⟨g6, h⟩ := gd h
    obtain ⟨a7, ha7, h⟩ := ob h
    obtain ⟨g8, h⟩ := gd h
    rcases itc h with ⟨c, h⟩ | ⟨c, h⟩
    · cases h
      exact hS
    · exact pX11_movePlaces_l32 _ _ _ _ _ _ _ _ hS h
theorem eX11_movePlaces {σ : Shp} {R : Nat → Nat → Option Nat} {x0 : Option Nat} {x1 : Int32} {x2 : Option Nat} {x3 : Int32} {x4 : Int32} (hS : Skel σ R) : fX11_movePlaces σ R x0 x1 x2 x3 x4 = gX11_movePlaces σ R x0 x1 x2 x3 x4 := by
  unfold fX11_movePlaces gX11_movePlaces
  refine bb (fun a1 ha1 => ?_)
  refine bg (fun g2 => ?_)
  refine bb (fun a3 ha3 => ?_)
  refine bg (fun g4 => ?_)
  refine bi (fun c => ?_) (fun c => ?_)
  · rfl
  · refine bb (fun a5 ha5 => ?_)
    refine bg (fun g6 => ?_)
    refine bb (fun a7 ha7 => ?_)
    refine bg (fun g8 => ?_)
    refine bi (fun c => ?_) (fun c => ?_)
    · rfl
    · exact eX11_movePlaces_l32 _ _ _ _ _ _ _ _ hS
def gX11_shiftable (σ : Shp) (I : Nat → Nat → Int32) (x0 : Option Nat) (x1 : Option Nat) : Option ((Int32)) :=
  (gX11_isRow σ I x0).bind fun r1 =>
  if r1 = 0 then
    (gX11_isRow σ I x1).bind fun r7 =>
    if r7 = 0 then
      (x0 : Option Nat).bind fun a9 =>
      if kdx σ a9 = 11 then
      if (fX11_isPlacesForm (I a9 0)) = 0 then
        some (0 : Int32)
      else
        (x1 : Option Nat).bind fun a11 =>
        if kdx σ a11 = 11 then
        if (fX11_isPlacesForm (I a11 0)) = 0 then
          some (0 : Int32)
        else
          some (1 : Int32)
        else none
      else none
    else
      (x0 : Option Nat).bind fun a13 =>
      if kdx σ a13 = 11 then
      (x1 : Option Nat).bind fun a15 =>
      if kdx σ a15 = 11 then
      if (I a13 0) = (I a15 0) then
        some (1 : Int32)
      else
        some (0 : Int32)
      else none
      else none
  else
    (x0 : Option Nat).bind fun a3 =>
    if kdx σ a3 = 11 then
    (x1 : Option Nat).bind fun a5 =>
    if kdx σ a5 = 11 then
    if (I a3 0) = (I a5 0) then
      some (1 : Int32)
    else
      some (0 : Int32)
    else none
    else none
theorem eX11_shiftable {σ : Shp} {I : Nat → Nat → Int32} {R : Nat → Nat → Option Nat} {x0 : Option Nat} {x1 : Option Nat} (hS : Skel σ R) : fX11_shiftable σ I x0 x1 = gX11_shiftable σ I x0 x1 := by
  unfold fX11_shiftable gX11_shiftable
  refine bc (eX11_isRow hS) (fun r1 hc2 => ?_)
  refine bi (fun c => ?_) (fun c => ?_)
  · refine bc (eX11_isRow hS) (fun r7 hc8 => ?_)
    refine bi (fun c => ?_) (fun c => ?_)
    · refine bb (fun a9 ha9 => ?_)
      refine bg (fun g10 => ?_)
      refine bi (fun c => ?_) (fun c => ?_)
      · rfl
      · refine bb (fun a11 ha11 => ?_)
        refine bg (fun g12 => ?_)
        refine bi (fun c => ?_) (fun c => ?_)
        · rfl
        · rfl
    · refine bb (fun a13 ha13 => ?_)
      refine bg (fun g14 => ?_)
      refine bb (fun a15 ha15 => ?_)
      refine bg (fun g16 => ?_)
      refine bi (fun c => ?_) (fun c => ?_)
      · rfl
      · rfl
  · refine bb (fun a3 ha3 => ?_)
    refine bg (fun g4 => ?_)
    refine bb (fun a5 ha5 => ?_)
    refine bg (fun g6 => ?_)
    refine bi (fun c => ?_) (fun c => ?_)
    · rfl
    · rfl
def gX11_shift (σ : Shp) (I : Nat → Nat → Int32) (J : Nat → Nat → Int64) (R : Nat → Nat → Option Nat) (x1 : Int32) (x2 : Int32) (x3 : Int32) (x4 : Int32) (x5 : Int32) : Option ((Nat → Nat → Int32) × (Nat → Nat → Int64) × (Nat → Nat → Option Nat) × (Int32)) :=
  if (fX11_isBin x1) = 0 then
    some (I, J, R, (-2 : Int32))
  else
    if (fX11_isBin x3) = 0 then
      some (I, J, R, (-2 : Int32))
    else
      let I1 := u2 I 4 17 (0 : Int32)
      if ¬ (x1 < 0 ∨ 16 ≤ Int32.toNatClampNeg x1) then
      let v3 := (R 6 (Int32.toNatClampNeg x1))
      if ¬ (x3 < 0 ∨ 16 ≤ Int32.toNatClampNeg x3) then
      let v5 := (R 6 (Int32.toNatClampNeg x3))
      onl v3
        (
          (gX11_fail I1 (1 : Int32)).bind fun (I7, r8) =>
          some (I7, J, R, r8))
        (fun a6 =>
          onl v5
            (
              (gX11_fail I1 (1 : Int32)).bind fun (I11, r12) =>
              some (I11, J, R, r12))
            (fun a10 =>
              (gX11_shiftable σ I1 (some a6) (some a10)).bind fun r14 =>
              if r14 = 0 then
                (gX11_fail I1 (5 : Int32)).bind fun (I41, r42) =>
                some (I41, J, R, r42)
              else
                if kdx σ a6 = 11 then
                (gX10_length σ I1 R a6).bind fun r17 =>
                if (fX11_spanFits r17 x2 x5) = 0 then
                  (gX11_fail I1 (2 : Int32)).bind fun (I19, r20) =>
                  some (I19, J, R, r20)
                else
                  if kdx σ a10 = 11 then
                  (gX10_length σ I1 R a10).bind fun r23 =>
                  if (fX11_spanFits r23 x4 x5) = 0 then
                    (gX11_fail I1 (2 : Int32)).bind fun (I38, r39) =>
                    some (I38, J, R, r39)
                  else
                    (gX11_isRow σ I1 (some a6)).bind fun r25 =>
                    if r25 = 0 then
                      (gX11_leadTaken σ I1 R (some a6) x2 (some a10) x5).bind fun r27 =>
                      let I29 := u2 I1 4 17 r27
                      (gX11_movePlaces σ R (some a6) x2 (some a10) x4 (I29 4 17)).bind fun R30 =>
                      if (I29 4 17) = x5 then
                        some (I29, J, R30, x5)
                      else
                        (gX11_fail I29 (5 : Int32)).bind fun (I32, r33) =>
                        some (I32, J, R30, r33)
                    else
                      (gX11_moveCells σ J R (some a6) x2 (some a10) x4 x5).bind fun J35 =>
                      let I37 := u2 I1 4 17 x5
                      some (I37, J35, R, x5)
                  else none
                else none))
      else none
      else none
theorem pX11_shift {σ : Shp} {I : Nat → Nat → Int32} {J : Nat → Nat → Int64} {R : Nat → Nat → Option Nat} {x1 : Int32} {x2 : Int32} {x3 : Int32} {x4 : Int32} {x5 : Int32} {I9 : Nat → Nat → Int32} {J9 : Nat → Nat → Int64} {R9 : Nat → Nat → Option Nat} {r9 : Int32} (hS : Skel σ R) (h : gX11_shift σ I J R x1 x2 x3 x4 x5 = some (I9, J9, R9, r9)) : Skel σ R9 := by
  unfold gX11_shift at h
  rcases itc h with ⟨c, h⟩ | ⟨c, h⟩
  · cases h
    exact hS
  · rcases itc h with ⟨c, h⟩ | ⟨c, h⟩
    · cases h
      exact hS
    · let I1 := u2 I 4 17 (0 : Int32)
      obtain ⟨g2, h⟩ := gd h
      let v3 := (R 6 (Int32.toNatClampNeg x1))
      obtain ⟨g4, h⟩ := gd h
      let v5 := (R 6 (Int32.toNatClampNeg x3))
      rcases onl_c h with ⟨ea6, h⟩ | ⟨a6, ha6, h⟩
      · obtain ⟨⟨I7, r8⟩, hc9, h⟩ := ob h
        cases h
        exact hS
      · rcases onl_c h with ⟨ea10, h⟩ | ⟨a10, ha10, h⟩
        · obtain ⟨⟨I11, r12⟩, hc13, h⟩ := ob h
          cases h
          exact hS
        · obtain ⟨r14, hc15, h⟩ := ob h
          rcases itc h with ⟨c, h⟩ | ⟨c, h⟩
          · obtain ⟨⟨I41, r42⟩, hc43, h⟩ := ob h
            cases h
            exact hS
          · obtain ⟨g16, h⟩ := gd h
            obtain ⟨r17, hc18, h⟩ := ob h
            rcases itc h with ⟨c, h⟩ | ⟨c, h⟩
            · obtain ⟨⟨I19, r20⟩, hc21, h⟩ := ob h
              cases h
              exact hS
            · obtain ⟨g22, h⟩ := gd h
              obtain ⟨r23, hc24, h⟩ := ob h
              rcases itc h with ⟨c, h⟩ | ⟨c, h⟩
              · obtain ⟨⟨I38, r39⟩, hc40, h⟩ := ob h
                cases h
                exact hS
              · obtain ⟨r25, hc26, h⟩ := ob h
                rcases itc h with ⟨c, h⟩ | ⟨c, h⟩
                · obtain ⟨r27, hc28, h⟩ := ob h
                  let I29 := u2 I1 4 17 r27
                  obtain ⟨R30, hc31, h⟩ := ob h
                  have hS := pX11_movePlaces hS hc31
                  rcases itc h with ⟨c, h⟩ | ⟨c, h⟩
                  · cases h
                    exact hS
                  · obtain ⟨⟨I32, r33⟩, hc34, h⟩ := ob h
                    cases h
                    exact hS
                · obtain ⟨J35, hc36, h⟩ := ob h
                  let I37 := u2 I1 4 17 x5
                  cases h
                  exact hS
theorem eX11_shift {σ : Shp} {I : Nat → Nat → Int32} {J : Nat → Nat → Int64} {R : Nat → Nat → Option Nat} {x1 : Int32} {x2 : Int32} {x3 : Int32} {x4 : Int32} {x5 : Int32} (hS : Skel σ R) : fX11_shift σ I J R 4 x1 x2 x3 x4 x5 = gX11_shift σ I J R x1 x2 x3 x4 x5 := by
  unfold fX11_shift gX11_shift
  refine bi (fun c => ?_) (fun c => ?_)
  · rfl
  · refine bi (fun c => ?_) (fun c => ?_)
    · rfl
    · refine sg (kq4 hS) ?_
      let I1 := u2 I 4 17 (0 : Int32)
      try with_reducible refine sg (kq4 hS) ?_
      refine sb (rq4_1 hS) ?_
      refine sg (kq6 hS) ?_
      refine bgr (by rw [lq6 hS]) (fun g2 => ?_)
      let v3 := (R 6 (Int32.toNatClampNeg x1))
      try with_reducible refine sg (kq4 hS) ?_
      try with_reducible refine sg (kq6 hS) ?_
      refine bgr (by rw [lq6 hS]) (fun g4 => ?_)
      let v5 := (R 6 (Int32.toNatClampNeg x3))
      refine bo (fun ea6 => ?_) (fun a6 ha6 => ?_)
      · try with_reducible refine sg (kq4 hS) ?_
        refine bc (eX11_fail hS) (fun pp hc9 => ?_)
        obtain ⟨I7, r8⟩ := pp
        rfl
      · refine bo (fun ea10 => ?_) (fun a10 ha10 => ?_)
        · try with_reducible refine sg (kq4 hS) ?_
          refine bc (eX11_fail hS) (fun pp hc13 => ?_)
          obtain ⟨I11, r12⟩ := pp
          rfl
        · refine bc (eX11_shiftable hS) (fun r14 hc15 => ?_)
          refine bi (fun c => ?_) (fun c => ?_)
          · try with_reducible refine sg (kq4 hS) ?_
            refine bc (eX11_fail hS) (fun pp hc43 => ?_)
            obtain ⟨I41, r42⟩ := pp
            rfl
          · refine bg (fun g16 => ?_)
            refine bc (eX10_length hS) (fun r17 hc18 => ?_)
            refine bi (fun c => ?_) (fun c => ?_)
            · try with_reducible refine sg (kq4 hS) ?_
              refine bc (eX11_fail hS) (fun pp hc21 => ?_)
              obtain ⟨I19, r20⟩ := pp
              rfl
            · refine bg (fun g22 => ?_)
              refine bc (eX10_length hS) (fun r23 hc24 => ?_)
              refine bi (fun c => ?_) (fun c => ?_)
              · try with_reducible refine sg (kq4 hS) ?_
                refine bc (eX11_fail hS) (fun pp hc40 => ?_)
                obtain ⟨I38, r39⟩ := pp
                rfl
              · refine bc (eX11_isRow hS) (fun r25 hc26 => ?_)
                refine bi (fun c => ?_) (fun c => ?_)
                · refine bc (eX11_leadTaken hS) (fun r27 hc28 => ?_)
                  try with_reducible refine sg (kq4 hS) ?_
                  let I29 := u2 I1 4 17 r27
                  try with_reducible refine sg (kq4 hS) ?_
                  refine bc (eX11_movePlaces hS) (fun R30 hc31 => ?_)
                  have hS := pX11_movePlaces hS hc31
                  try with_reducible refine sg (kq4 hS) ?_
                  refine bi (fun c => ?_) (fun c => ?_)
                  · rfl
                  · try with_reducible refine sg (kq4 hS) ?_
                    refine bc (eX11_fail hS) (fun pp hc34 => ?_)
                    obtain ⟨I32, r33⟩ := pp
                    rfl
                · refine bc (eX11_moveCells hS) (fun J35 hc36 => ?_)
                  try with_reducible refine sg (kq4 hS) ?_
                  let I37 := u2 I1 4 17 x5
                  rfl
def gX11_came (I : Nat → Nat → Int32) : Option ((Int32)) :=
  some (I 4 17)
theorem eX11_came {σ : Shp} {I : Nat → Nat → Int32} {R : Nat → Nat → Option Nat}  (hS : Skel σ R) : fX11_came σ I 4 = gX11_came I := by
  unfold fX11_came gX11_came
  refine sg (kq4 hS) ?_
  rfl
def gX11_newCard_b24  (σ : Shp) (I : Nat → Nat → Int32) (R : Nat → Nat → Option Nat) (s0 : Nat) (s1 : Nat) (s2 : Int32) (s3 : Nat) (s4 : Nat) : Option ((Shp) × (Nat → Nat → Int32) × (Nat → Nat → Option Nat) × (Option Nat)) :=
  if kdx σ s1 = 11 then
  (gX10_init σ I R s1 s2 (some s3) (some s4)).bind fun (I6, R7) =>
  if kdx σ s0 = 11 then
  let I10 := u2 I6 s0 4 (I6 4 16)
  let I11 := u2 I10 4 16 ((I10 4 16) + (1 : Int32))
  some (σ, I11, R7, (some s0))
  else none
  else none
theorem eX11_newCard_b24 {σ : Shp} {I : Nat → Nat → Int32} {R : Nat → Nat → Option Nat} {s0 : Nat} {s1 : Nat} {s2 : Int32} {s3 : Nat} {s4 : Nat} (hS : Skel σ R) : fX11_newCard_b24 4 σ I R s0 s1 s2 s3 s4 = gX11_newCard_b24 σ I R s0 s1 s2 s3 s4 := by
  unfold fX11_newCard_b24 gX11_newCard_b24
  refine bg (fun g5 => ?_)
  refine bc (eX10_init hS) (fun pp hc8 => ?_)
  obtain ⟨I6, R7⟩ := pp
  have hS := pX10_init hS hc8
  refine sg (kq4 hS) ?_
  refine bg (fun g9 => ?_)
  let I10 := u2 I6 s0 4 (I6 4 16)
  try with_reducible refine sg (kq4 hS) ?_
  try with_reducible refine sg (kq4 hS) ?_
  let I11 := u2 I10 4 16 ((I10 4 16) + (1 : Int32))
  rfl
theorem pX11_newCard_b24 {σ : Shp} {I : Nat → Nat → Int32} {R : Nat → Nat → Option Nat} {s0 : Nat} {s1 : Nat} {s2 : Int32} {s3 : Nat} {s4 : Nat} {σ9 : Shp} {I9 : Nat → Nat → Int32} {R9 : Nat → Nat → Option Nat} {r9 : Option Nat} (hS : Skel σ R) (h : gX11_newCard_b24 σ I R s0 s1 s2 s3 s4 = some (σ9, I9, R9, r9)) : Skel σ9 R9 := by
  unfold gX11_newCard_b24 at h
  obtain ⟨g5, h⟩ := gd h
  obtain ⟨⟨I6, R7⟩, hc8, h⟩ := ob h
  have hS := pX10_init hS hc8
  obtain ⟨g9, h⟩ := gd h
  let I10 := u2 I6 s0 4 (I6 4 16)
  let I11 := u2 I10 4 16 ((I10 4 16) + (1 : Int32))
  cases h
  exact hS
def gX11_newCard_b20  (σ : Shp) (I : Nat → Nat → Int32) (R : Nat → Nat → Option Nat) (s0 : Nat) (s1 : Nat) (s2 : Int32) (s3 : Nat) : Option ((Shp) × (Nat → Nat → Int32) × (Nat → Nat → Option Nat) × (Option Nat)) :=
  let σ4 := mkA σ 26 (Int32.toNatClampNeg (2 : Int32))
  gX11_newCard_b24 σ4 I R s0 s1 s2 s3 (nxx σ + 4)
theorem eX11_newCard_b20 {σ : Shp} {I : Nat → Nat → Int32} {R : Nat → Nat → Option Nat} {s0 : Nat} {s1 : Nat} {s2 : Int32} {s3 : Nat} (hS : Skel σ R) : fX11_newCard_b20 4 σ I R s0 s1 s2 s3 = gX11_newCard_b20 σ I R s0 s1 s2 s3 := by
  unfold fX11_newCard_b20 gX11_newCard_b20
  have hS := hS.mkA (t := 26) (n := (Int32.toNatClampNeg (2 : Int32)))
  exact eX11_newCard_b24 hS
theorem pX11_newCard_b20 {σ : Shp} {I : Nat → Nat → Int32} {R : Nat → Nat → Option Nat} {s0 : Nat} {s1 : Nat} {s2 : Int32} {s3 : Nat} {σ9 : Shp} {I9 : Nat → Nat → Int32} {R9 : Nat → Nat → Option Nat} {r9 : Option Nat} (hS : Skel σ R) (h : gX11_newCard_b20 σ I R s0 s1 s2 s3 = some (σ9, I9, R9, r9)) : Skel σ9 R9 := by
  unfold gX11_newCard_b20 at h
  have hS := hS.mkA (t := 26) (n := (Int32.toNatClampNeg (2 : Int32)))
  exact pX11_newCard_b24 hS h
def gX11_newCard_b13  (σ : Shp) (I : Nat → Nat → Int32) (R : Nat → Nat → Option Nat) (s0 : Nat) : Option ((Shp) × (Nat → Nat → Int32) × (Nat → Nat → Option Nat) × (Option Nat)) :=
  let σ3 := mkA σ 21 (Int32.toNatClampNeg (8 : Int32))
  gX11_newCard_b20 σ3 I R s0 s0 (17 : Int32) (nxx σ + 4)
theorem eX11_newCard_b13 {σ : Shp} {I : Nat → Nat → Int32} {R : Nat → Nat → Option Nat} {s0 : Nat} (hS : Skel σ R) : fX11_newCard_b13 4 σ I R s0 = gX11_newCard_b13 σ I R s0 := by
  unfold fX11_newCard_b13 gX11_newCard_b13
  have hS := hS.mkA (t := 21) (n := (Int32.toNatClampNeg (8 : Int32)))
  exact eX11_newCard_b20 hS
theorem pX11_newCard_b13 {σ : Shp} {I : Nat → Nat → Int32} {R : Nat → Nat → Option Nat} {s0 : Nat} {σ9 : Shp} {I9 : Nat → Nat → Int32} {R9 : Nat → Nat → Option Nat} {r9 : Option Nat} (hS : Skel σ R) (h : gX11_newCard_b13 σ I R s0 = some (σ9, I9, R9, r9)) : Skel σ9 R9 := by
  unfold gX11_newCard_b13 at h
  have hS := hS.mkA (t := 21) (n := (Int32.toNatClampNeg (8 : Int32)))
  exact pX11_newCard_b20 hS h
def gX11_newCard (σ : Shp) (I : Nat → Nat → Int32) (R : Nat → Nat → Option Nat) : Option ((Shp) × (Nat → Nat → Int32) × (Nat → Nat → Option Nat) × (Option Nat)) :=
  let I1 := u2 I 4 12 ((I 4 12) + (1 : Int32))
  let σ2 := mkO σ 11 9
  gX11_newCard_b13 σ2 I1 R (nxx σ + 4)
theorem pX11_newCard {σ : Shp} {I : Nat → Nat → Int32} {R : Nat → Nat → Option Nat}  {σ9 : Shp} {I9 : Nat → Nat → Int32} {R9 : Nat → Nat → Option Nat} {r9 : Option Nat} (hS : Skel σ R) (h : gX11_newCard σ I R = some (σ9, I9, R9, r9)) : Skel σ9 R9 := by
  unfold gX11_newCard at h
  let I1 := u2 I 4 12 ((I 4 12) + (1 : Int32))
  have hS := hS.mkO (t := 11) (n := 9)
  exact pX11_newCard_b13 hS h
theorem eX11_newCard {σ : Shp} {I : Nat → Nat → Int32} {R : Nat → Nat → Option Nat}  (hS : Skel σ R) : fX11_newCard σ I R 4 = gX11_newCard σ I R := by
  unfold fX11_newCard gX11_newCard
  refine sg (kq4 hS) ?_
  try with_reducible refine sg (kq4 hS) ?_
  let I1 := u2 I 4 12 ((I 4 12) + (1 : Int32))
  have hS := hS.mkO (t := 11) (n := 9)
  exact eX11_newCard_b13 hS
