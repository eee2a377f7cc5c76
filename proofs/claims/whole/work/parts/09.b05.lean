def gX12_thirstOf_b36  (σ : Shp) (R : Nat → Nat → Option Nat) (I : Nat → Nat → Int32) (x1 : Int32) (x2 : Int32) : Option ((Nat → Nat → Int32) × (Int32)) :=
  (gX12_body I (10 : Int32)).bind fun I3 =>
  (gX12_sizeOf σ I3 R x1).bind fun (I5, r6) =>
  let v8 := ((3 : Int32) + r6)
  if (3 : Int32) ≤ x2 then
    some (I5, v8)
  else
    some (I5, ((2 : Int32) * v8))
theorem eX12_thirstOf_b36 {σ : Shp} {I : Nat → Nat → Int32} {R : Nat → Nat → Option Nat} {x1 : Int32} {x2 : Int32} (hS : Skel σ R) : fX12_thirstOf_b36 σ R 114 I x1 x2 = gX12_thirstOf_b36 σ R I x1 x2 := by
  unfold fX12_thirstOf_b36 gX12_thirstOf_b36
  refine sg (kq114 hS) ?_
  refine bc (eX12_body hS) (fun I3 hc4 => ?_)
  try with_reducible refine sg (kq114 hS) ?_
  refine bc (eX12_sizeOf hS) (fun pp hc7 => ?_)
  obtain ⟨I5, r6⟩ := pp
  refine bi (fun c => ?_) (fun c => ?_)
  · rfl
  · rfl
def gX12_thirstOf (σ : Shp) (I : Nat → Nat → Int32) (R : Nat → Nat → Option Nat) (x1 : Int32) : Option ((Nat → Nat → Int32) × (Int32)) :=
  if ¬ (x1 < 0 ∨ 4100 ≤ Int32.toNatClampNeg x1) then
  let v2 := (I 122 (Int32.toNatClampNeg x1))
  if v2 = (5 : Int32) then
    (gX12_body I (12 : Int32)).bind fun I11 =>
    if ¬ (x1 < 0 ∨ 4100 ≤ Int32.toNatClampNeg x1) then
    some (I11, (I11 124 (Int32.toNatClampNeg x1)))
    else none
  else
    if (3 : Int32) ≤ v2 then
      gX12_thirstOf_b36 σ R I x1 v2
    else
      (gX12_body I (11 : Int32)).bind fun I9 =>
      gX12_thirstOf_b36 σ R I9 x1 v2
  else none
theorem eX12_thirstOf {σ : Shp} {I : Nat → Nat → Int32} {R : Nat → Nat → Option Nat} {x1 : Int32} (hS : Skel σ R) : fX12_thirstOf σ I R 114 x1 = gX12_thirstOf σ I R x1 := by
  unfold fX12_thirstOf gX12_thirstOf
  refine sg (kq114 hS) ?_
  refine sb (rq114_12 hS) ?_
  refine sg (kq122 hS) ?_
  refine bgr (by rw [lq122 hS]) (fun g1 => ?_)
  refine bi (fun c => ?_) (fun c => ?_)
  · try with_reducible refine sg (kq114 hS) ?_
    refine bc (eX12_body hS) (fun I11 hc12 => ?_)
    try with_reducible refine sg (kq114 hS) ?_
    refine sb (rq114_14 hS) ?_
    refine sg (kq124 hS) ?_
    refine bgr (by rw [lq124 hS]) (fun g13 => ?_)
    rfl
  · refine bi (fun c => ?_) (fun c => ?_)
    · exact eX12_thirstOf_b36 hS
    · try with_reducible refine sg (kq114 hS) ?_
      refine bc (eX12_body hS) (fun I9 hc10 => ?_)
      exact eX12_thirstOf_b36 hS
def gX12_costOf_b16  (σ : Shp) (R : Nat → Nat → Option Nat) (I : Nat → Nat → Int32) (x1 : Int32) : Option ((Nat → Nat → Int32) × (Int32)) :=
  (gX12_body I (20 : Int32)).bind fun I2 =>
  if ¬ (x1 < 0 ∨ 4100 ≤ Int32.toNatClampNeg x1) then
  if (I2 123 (Int32.toNatClampNeg x1)) = 0 then
    let I11 := u2 I2 114 30 (6 : Int32)
    some (I11, (0 : Int32))
  else
    if ¬ (I2 123 (Int32.toNatClampNeg x1)) = 0 then
    let v6 := ((5000 : Int32) / (I2 123 (Int32.toNatClampNeg x1)))
    if ¬ (x1 < 0 ∨ 4100 ≤ Int32.toNatClampNeg x1) then
    if (I2 122 (Int32.toNatClampNeg x1)) = (3 : Int32) then
      (gX12_thirstOf σ I2 R x1).bind fun (I8, r9) =>
      some (I8, (v6 + r9))
    else
      some (I2, v6)
    else none
    else none
  else none
theorem eX12_costOf_b16 {σ : Shp} {I : Nat → Nat → Int32} {R : Nat → Nat → Option Nat} {x1 : Int32} (hS : Skel σ R) : fX12_costOf_b16 σ R 114 I x1 = gX12_costOf_b16 σ R I x1 := by
  unfold fX12_costOf_b16 gX12_costOf_b16
  refine sg (kq114 hS) ?_
  refine bc (eX12_body hS) (fun I2 hc3 => ?_)
  try with_reducible refine sg (kq114 hS) ?_
  refine sb (rq114_13 hS) ?_
  refine sg (kq123 hS) ?_
  refine bgr (by rw [lq123 hS]) (fun g4 => ?_)
  refine bi (fun c => ?_) (fun c => ?_)
  · try with_reducible refine sg (kq114 hS) ?_
    rfl
  · try with_reducible refine sg (kq114 hS) ?_
    try with_reducible refine sg (kq123 hS) ?_
    try with_reducible refine sg (by rw [lq123 hS]; exact g4) ?_
    refine bg (fun g5 => ?_)
    try with_reducible refine sg (kq114 hS) ?_
    refine sb (rq114_12 hS) ?_
    refine sg (kq122 hS) ?_
    refine bgr (by rw [lq122 hS]) (fun g7 => ?_)
    refine bi (fun c => ?_) (fun c => ?_)
    · try with_reducible refine sg (kq114 hS) ?_
      refine bc (eX12_thirstOf hS) (fun pp hc10 => ?_)
      obtain ⟨I8, r9⟩ := pp
      rfl
    · rfl
def gX12_costOf (σ : Shp) (I : Nat → Nat → Int32) (R : Nat → Nat → Option Nat) (x1 : Int32) : Option ((Nat → Nat → Int32) × (Int32)) :=
  if ¬ (x1 < 0 ∨ 4100 ≤ Int32.toNatClampNeg x1) then
  if (I 122 (Int32.toNatClampNeg x1)) = (3 : Int32) then
    (gX12_body I (21 : Int32)).bind fun I12 =>
    gX12_costOf_b16 σ R I12 x1
  else
    gX12_costOf_b16 σ R I x1
  else none
theorem eX12_costOf {σ : Shp} {I : Nat → Nat → Int32} {R : Nat → Nat → Option Nat} {x1 : Int32} (hS : Skel σ R) : fX12_costOf σ I R 114 x1 = gX12_costOf σ I R x1 := by
  unfold fX12_costOf gX12_costOf
  refine sg (kq114 hS) ?_
  refine sb (rq114_12 hS) ?_
  refine sg (kq122 hS) ?_
  refine bgr (by rw [lq122 hS]) (fun g1 => ?_)
  refine bi (fun c => ?_) (fun c => ?_)
  · try with_reducible refine sg (kq114 hS) ?_
    refine bc (eX12_body hS) (fun I12 hc13 => ?_)
    exact eX12_costOf_b16 hS
  · exact eX12_costOf_b16 hS
def gX12_askOf_b153  (σ : Shp) (R : Nat → Nat → Option Nat) (I : Nat → Nat → Int32) (x1 : Int32) (x3 : Int32) (s0 : Option Nat) (s1 : Int32) : Option ((Nat → Nat → Int32) × (Int32)) :=
  (s0 : Option Nat).bind fun a21 =>
  if kdx σ a21 = 13 then
  (fX12_body σ I R a21 s1).bind fun I23 =>
  if x3 = (2 : Int32) then
    if ¬ (x1 < 0 ∨ 4100 ≤ Int32.toNatClampNeg x1) then
    let I27 := u2 I23 114 29 ((9 : Int32) + (I23 124 (Int32.toNatClampNeg x1)))
    some (I27, (I27 114 30))
    else none
  else
    let I25 := u2 I23 114 29 (7 : Int32)
    some (I25, (I25 114 30))
  else none
theorem eX12_askOf_b153 {σ : Shp} {I : Nat → Nat → Int32} {R : Nat → Nat → Option Nat} {x1 : Int32} {x3 : Int32} {s0 : Option Nat} {s1 : Int32} (hS : Skel σ R) : fX12_askOf_b153 σ R 114 I x1 x3 s0 s1 = gX12_askOf_b153 σ R I x1 x3 s0 s1 := by
  unfold fX12_askOf_b153 gX12_askOf_b153
  refine bb (fun a21 ha21 => ?_)
  refine bg (fun g22 => ?_)
  refine bc rfl (fun I23 hc24 => ?_)
  refine bi (fun c => ?_) (fun c => ?_)
  · refine sg (kq114 hS) ?_
    refine sb (rq114_14 hS) ?_
    refine sg (kq124 hS) ?_
    refine bgr (by rw [lq124 hS]) (fun g26 => ?_)
    try with_reducible refine sg (kq114 hS) ?_
    try with_reducible refine sg (kq114 hS) ?_
    rfl
  · refine sg (kq114 hS) ?_
    try with_reducible refine sg (kq114 hS) ?_
    rfl
def gX12_askOf_b61  (σ : Shp) (R : Nat → Nat → Option Nat) (I : Nat → Nat → Int32) (x1 : Int32) (x2 : Int32) (x3 : Int32) : Option ((Nat → Nat → Int32) × (Int32)) :=
  if x2 = (0 : Int32) then
    (gX12_sizeOf σ I R x1).bind fun (I36, r37) =>
    let I39 := u2 I36 114 29 r37
    some (I39, (I39 114 30))
  else
  if x2 = (1 : Int32) then
    (gX12_thirstOf σ I R x1).bind fun (I32, r33) =>
    let I35 := u2 I32 114 29 r33
    some (I35, (I35 114 30))
  else
  if x2 = (2 : Int32) then
    (gX12_costOf σ I R x1).bind fun (I28, r29) =>
    let I31 := u2 I28 114 29 r29
    some (I31, (I31 114 30))
  else
  if x2 = (3 : Int32) then
    if x3 = (2 : Int32) then
      gX12_askOf_b153 σ R I x1 x3 (some 114) (31 : Int32)
    else
      gX12_askOf_b153 σ R I x1 x3 (some 114) (30 : Int32)
  else
  if x2 = (4 : Int32) then
    if x3 = (2 : Int32) then
      let I20 := u2 I 114 29 (9 : Int32)
      some (I20, (I20 114 30))
    else
      let I19 := u2 I 114 29 (7 : Int32)
      some (I19, (I19 114 30))
  else
  if x2 = (5 : Int32) then
    if ¬ (x1 < 0 ∨ 4100 ≤ Int32.toNatClampNeg x1) then
    let I18 := u2 I 114 29 (I 121 (Int32.toNatClampNeg x1))
    some (I18, (I18 114 30))
    else none
  else
  if x2 = (6 : Int32) then
    let I16 := u2 I 114 29 x3
    some (I16, (I16 114 30))
  else
  if ¬ (x1 < 0 ∨ 4100 ≤ Int32.toNatClampNeg x1) then
  let I15 := u2 I 114 29 (I 127 (Int32.toNatClampNeg x1))
  some (I15, (I15 114 30))
  else none
theorem eX12_askOf_b61 {σ : Shp} {I : Nat → Nat → Int32} {R : Nat → Nat → Option Nat} {x1 : Int32} {x2 : Int32} {x3 : Int32} (hS : Skel σ R) : fX12_askOf_b61 σ R 114 I x1 x2 x3 = gX12_askOf_b61 σ R I x1 x2 x3 := by
  unfold fX12_askOf_b61 gX12_askOf_b61
  refine bi (fun c => ?_) (fun c => ?_)
  · refine sg (kq114 hS) ?_
    refine bc (eX12_sizeOf hS) (fun pp hc38 => ?_)
    obtain ⟨I36, r37⟩ := pp
    try with_reducible refine sg (kq114 hS) ?_
    try with_reducible refine sg (kq114 hS) ?_
    rfl
  · refine bi (fun c => ?_) (fun c => ?_)
    · refine sg (kq114 hS) ?_
      refine bc (eX12_thirstOf hS) (fun pp hc34 => ?_)
      obtain ⟨I32, r33⟩ := pp
      try with_reducible refine sg (kq114 hS) ?_
      try with_reducible refine sg (kq114 hS) ?_
      rfl
    · refine bi (fun c => ?_) (fun c => ?_)
      · refine sg (kq114 hS) ?_
        refine bc (eX12_costOf hS) (fun pp hc30 => ?_)
        obtain ⟨I28, r29⟩ := pp
        try with_reducible refine sg (kq114 hS) ?_
        try with_reducible refine sg (kq114 hS) ?_
        rfl
      · refine bi (fun c => ?_) (fun c => ?_)
        · refine bi (fun c => ?_) (fun c => ?_)
          · exact eX12_askOf_b153 hS
          · exact eX12_askOf_b153 hS
        · refine bi (fun c => ?_) (fun c => ?_)
          · refine bi (fun c => ?_) (fun c => ?_)
            · refine sg (kq114 hS) ?_
              try with_reducible refine sg (kq114 hS) ?_
              rfl
            · refine sg (kq114 hS) ?_
              try with_reducible refine sg (kq114 hS) ?_
              rfl
          · refine bi (fun c => ?_) (fun c => ?_)
            · refine sg (kq114 hS) ?_
              refine sb (rq114_11 hS) ?_
              refine sg (kq121 hS) ?_
              refine bgr (by rw [lq121 hS]) (fun g17 => ?_)
              try with_reducible refine sg (kq114 hS) ?_
              try with_reducible refine sg (kq114 hS) ?_
              rfl
            · refine bi (fun c => ?_) (fun c => ?_)
              · refine sg (kq114 hS) ?_
                try with_reducible refine sg (kq114 hS) ?_
                rfl
              · refine sg (kq114 hS) ?_
                refine sb (rq114_17 hS) ?_
                refine sg (kq127 hS) ?_
                refine bgr (by rw [lq127 hS]) (fun g14 => ?_)
                try with_reducible refine sg (kq114 hS) ?_
                try with_reducible refine sg (kq114 hS) ?_
                rfl
def gX12_askOf (σ : Shp) (I : Nat → Nat → Int32) (R : Nat → Nat → Option Nat) (x1 : Int32) (x2 : Int32) : Option ((Nat → Nat → Int32) × (Int32)) :=
  let I1 := u2 I 114 24 (0 : Int32)
  let I2 := u2 I1 114 30 (0 : Int32)
  (gX12_isOf I2 x1 (16 : Int32)).bind fun r3 =>
  if r3 = 0 then
    some (I2, (4 : Int32))
  else
    if x1 = 0 then
      some (I2, (1 : Int32))
    else
      if ¬ (x1 < 0 ∨ 4100 ≤ Int32.toNatClampNeg x1) then
      let v6 := (I2 122 (Int32.toNatClampNeg x1))
      if x2 = (1 : Int32) then
        if v6 = 0 then
          some (I2, (4 : Int32))
        else
          if v6 = (4 : Int32) then
            some (I2, (4 : Int32))
          else
            if x2 = (2 : Int32) then
              if v6 = (5 : Int32) then
                some (I2, (4 : Int32))
              else
                gX12_askOf_b61 σ R I2 x1 x2 v6
            else
              gX12_askOf_b61 σ R I2 x1 x2 v6
      else
        if x2 = (2 : Int32) then
          if v6 = (5 : Int32) then
            some (I2, (4 : Int32))
          else
            gX12_askOf_b61 σ R I2 x1 x2 v6
        else
          gX12_askOf_b61 σ R I2 x1 x2 v6
      else none
theorem eX12_askOf {σ : Shp} {I : Nat → Nat → Int32} {R : Nat → Nat → Option Nat} {x1 : Int32} {x2 : Int32} (hS : Skel σ R) : fX12_askOf σ I R 114 x1 x2 = gX12_askOf σ I R x1 x2 := by
  unfold fX12_askOf gX12_askOf
  refine sg (kq114 hS) ?_
  try with_reducible refine sg (kq114 hS) ?_
  try with_reducible refine sg (kq114 hS) ?_
  refine bc (eX12_isOf hS) (fun r3 hc4 => ?_)
  refine bi (fun c => ?_) (fun c => ?_)
  · rfl
  · refine bi (fun c => ?_) (fun c => ?_)
    · rfl
    · try with_reducible refine sg (kq114 hS) ?_
      refine sb (rq114_12 hS) ?_
      refine sg (kq122 hS) ?_
      refine bgr (by rw [lq122 hS]) (fun g5 => ?_)
      refine bi (fun c => ?_) (fun c => ?_)
      · refine bi (fun c => ?_) (fun c => ?_)
        · rfl
        · refine bi (fun c => ?_) (fun c => ?_)
          · rfl
          · refine bi (fun c => ?_) (fun c => ?_)
            · refine bi (fun c => ?_) (fun c => ?_)
              · rfl
              · exact eX12_askOf_b61 hS
            · exact eX12_askOf_b61 hS
      · refine bi (fun c => ?_) (fun c => ?_)
        · refine bi (fun c => ?_) (fun c => ?_)
          · rfl
          · exact eX12_askOf_b61 hS
        · exact eX12_askOf_b61 hS
def gX12_ask (σ : Shp) (I : Nat → Nat → Int32) (R : Nat → Nat → Option Nat) (x1 : Int32) (x2 : Int32) : Option ((Nat → Nat → Int32) × (Int32)) :=
  if (fX12_isBin x1) = 0 then
    some (I, (-2 : Int32))
  else
    if (fX12_in x2 (0 : Int32) (7 : Int32)) = 0 then
      some (I, (-2 : Int32))
    else
      if ¬ (x1 < 0 ∨ 16 ≤ Int32.toNatClampNeg x1) then
      (gX12_askOf σ I R (I 115 (Int32.toNatClampNeg x1)) x2).bind fun (I2, r3) =>
      if r3 = 0 then
        let I5 := u2 I2 114 25 (I2 114 29)
        some (I5, (1 : Int32))
      else
        (gX12_no I2 r3).bind fun (I6, r7) =>
        some (I6, r7)
      else none
theorem eX12_ask {σ : Shp} {I : Nat → Nat → Int32} {R : Nat → Nat → Option Nat} {x1 : Int32} {x2 : Int32} (hS : Skel σ R) : fX12_ask σ I R 114 x1 x2 = gX12_ask σ I R x1 x2 := by
  unfold fX12_ask gX12_ask
  refine bi (fun c => ?_) (fun c => ?_)
  · rfl
  · refine bi (fun c => ?_) (fun c => ?_)
    · rfl
    · refine sg (kq114 hS) ?_
      refine sb (rq114_3 hS) ?_
      refine sg (kq115 hS) ?_
      refine bgr (by rw [lq115 hS]) (fun g1 => ?_)
      try with_reducible refine sg (kq114 hS) ?_
      refine bc (eX12_askOf hS) (fun pp hc4 => ?_)
      obtain ⟨I2, r3⟩ := pp
      refine bi (fun c => ?_) (fun c => ?_)
      · try with_reducible refine sg (kq114 hS) ?_
        try with_reducible refine sg (kq114 hS) ?_
        rfl
      · try with_reducible refine sg (kq114 hS) ?_
        refine bc (eX12_no hS) (fun pp hc8 => ?_)
        obtain ⟨I6, r7⟩ := pp
        rfl
def gX12_answer (I : Nat → Nat → Int32) : Option ((Int32)) :=
  some (I 114 25)
theorem eX12_answer {σ : Shp} {I : Nat → Nat → Int32} {R : Nat → Nat → Option Nat}  (hS : Skel σ R) : fX12_answer σ I 114 = gX12_answer I := by
  unfold fX12_answer gX12_answer
  refine sg (kq114 hS) ?_
  rfl
def gX12_trace (I : Nat → Nat → Int32) (x1 : Int32) : Option ((Int32)) :=
  if (fX12_in x1 (0 : Int32) ((I 114 24) - (1 : Int32))) = 0 then
    some (-1 : Int32)
  else
    if ¬ (x1 < 0 ∨ 200 ≤ Int32.toNatClampNeg x1) then
    some (I 129 (Int32.toNatClampNeg x1))
    else none
theorem eX12_trace {σ : Shp} {I : Nat → Nat → Int32} {R : Nat → Nat → Option Nat} {x1 : Int32} (hS : Skel σ R) : fX12_trace σ I R 114 x1 = gX12_trace I x1 := by
  unfold fX12_trace gX12_trace
  refine sg (kq114 hS) ?_
  refine bi (fun c => ?_) (fun c => ?_)
  · rfl
  · try with_reducible refine sg (kq114 hS) ?_
    refine sb (rq114_23 hS) ?_
    refine sg (kq129 hS) ?_
    refine bgr (by rw [lq129 hS]) (fun g1 => ?_)
    rfl
def gX12_card (I : Nat → Nat → Int32) (x1 : Int32) : Option ((Nat → Nat → Int32) × (Int32)) :=
  if (fX12_isBin x1) = 0 then
    some (I, (-2 : Int32))
  else
    (gX12_isFull I).bind fun r1 =>
    if r1 = 0 then
      (gX12_newCard I).bind fun (I3, r4) =>
      if ¬ (x1 < 0 ∨ 16 ≤ Int32.toNatClampNeg x1) then
      let I7 := u2 I3 115 (Int32.toNatClampNeg x1) r4
      if ¬ ((I7 115 (Int32.toNatClampNeg x1)) < 0 ∨ 4100 ≤ Int32.toNatClampNeg (I7 115 (Int32.toNatClampNeg x1))) then
      some (I7, (I7 121 (Int32.toNatClampNeg (I7 115 (Int32.toNatClampNeg x1)))))
      else none
      else none
    else
      some (I, (-4 : Int32))
theorem eX12_card {σ : Shp} {I : Nat → Nat → Int32} {R : Nat → Nat → Option Nat} {x1 : Int32} (hS : Skel σ R) : fX12_card σ I R 114 x1 = gX12_card I x1 := by
  unfold fX12_card gX12_card
  refine bi (fun c => ?_) (fun c => ?_)
  · rfl
  · refine sg (kq114 hS) ?_
    refine bc (eX12_isFull hS) (fun r1 hc2 => ?_)
    refine bi (fun c => ?_) (fun c => ?_)
    · try with_reducible refine sg (kq114 hS) ?_
      refine sb (rq114_3 hS) ?_
      try with_reducible refine sg (kq114 hS) ?_
      refine bc (eX12_newCard hS) (fun pp hc5 => ?_)
      obtain ⟨I3, r4⟩ := pp
      refine sg (kq115 hS) ?_
      refine bgr (by rw [lq115 hS]) (fun g6 => ?_)
      try with_reducible refine sg (kq114 hS) ?_
      refine sb (rq114_11 hS) ?_
      try with_reducible refine sg (kq114 hS) ?_
      try with_reducible refine sg (kq115 hS) ?_
      try with_reducible refine sg (by rw [lq115 hS]; exact g6) ?_
      refine sg (kq121 hS) ?_
      refine bgr (by rw [lq121 hS]) (fun g8 => ?_)
      rfl
    · rfl
def gX12_againstCard (I : Nat → Nat → Int32) (x1 : Int32) : Option ((Int32)) :=
  (gX12_isOf I x1 (17 : Int32)).bind fun r1 =>
  if r1 = 0 then
    some (4 : Int32)
  else
    if x1 = 0 then
      some (1 : Int32)
    else
      some (0 : Int32)
theorem eX12_againstCard {σ : Shp} {I : Nat → Nat → Int32} {R : Nat → Nat → Option Nat} {x1 : Int32} (hS : Skel σ R) : fX12_againstCard σ I R 114 x1 = gX12_againstCard I x1 := by
  unfold fX12_againstCard gX12_againstCard
  refine sg (kq114 hS) ?_
  refine bc (eX12_isOf hS) (fun r1 hc2 => ?_)
  refine bi (fun c => ?_) (fun c => ?_)
  · rfl
  · refine bi (fun c => ?_) (fun c => ?_)
    · rfl
    · rfl
def gX12_field (I : Nat → Nat → Int32) (J : Nat → Nat → Int64) (x1 : Int32) (x2 : Int32) : Option ((Nat → Nat → Int32) × (Int64)) :=
  if (fX12_isBin x1) = 0 then
    some (I, (0 : Int64))
  else
    if (fX12_in x2 (0 : Int32) (7 : Int32)) = 0 then
      some (I, (0 : Int64))
    else
      if ¬ (x1 < 0 ∨ 16 ≤ Int32.toNatClampNeg x1) then
      (gX12_againstCard I (I 115 (Int32.toNatClampNeg x1))).bind fun r2 =>
      if r2 = 0 then
        if ¬ ((I 115 (Int32.toNatClampNeg x1)) < 0 ∨ 4100 ≤ Int32.toNatClampNeg (I 115 (Int32.toNatClampNeg x1))) then
        if ¬ (((I 118 (Int32.toNatClampNeg (I 115 (Int32.toNatClampNeg x1)))) + x2) < 0 ∨ 164000 ≤ Int32.toNatClampNeg ((I 118 (Int32.toNatClampNeg (I 115 (Int32.toNatClampNeg x1)))) + x2)) then
        some (I, (J 119 (Int32.toNatClampNeg ((I 118 (Int32.toNatClampNeg (I 115 (Int32.toNatClampNeg x1)))) + x2))))
        else none
        else none
      else
        (gX12_noBits I r2).bind fun (I6, r7) =>
        some (I6, r7)
      else none
theorem eX12_field {σ : Shp} {I : Nat → Nat → Int32} {J : Nat → Nat → Int64} {R : Nat → Nat → Option Nat} {x1 : Int32} {x2 : Int32} (hS : Skel σ R) : fX12_field σ I J R 114 x1 x2 = gX12_field I J x1 x2 := by
  unfold fX12_field gX12_field
  refine bi (fun c => ?_) (fun c => ?_)
  · rfl
  · refine bi (fun c => ?_) (fun c => ?_)
    · rfl
    · refine sg (kq114 hS) ?_
      refine sb (rq114_3 hS) ?_
      refine sg (kq115 hS) ?_
      refine bgr (by rw [lq115 hS]) (fun g1 => ?_)
      try with_reducible refine sg (kq114 hS) ?_
      refine bc (eX12_againstCard hS) (fun r2 hc3 => ?_)
      refine bi (fun c => ?_) (fun c => ?_)
      · try with_reducible refine sg (kq114 hS) ?_
        refine sb (rq114_8 hS) ?_
        try with_reducible refine sg (kq114 hS) ?_
        refine sb (rq114_6 hS) ?_
        try with_reducible refine sg (kq114 hS) ?_
        try with_reducible refine sg (kq115 hS) ?_
        try with_reducible refine sg (by rw [lq115 hS]; exact g1) ?_
        refine sg (kq118 hS) ?_
        refine bgr (by rw [lq118 hS]) (fun g4 => ?_)
        refine sg (kq119 hS) ?_
        refine bgr (by rw [lq119 hS]) (fun g5 => ?_)
        rfl
      · try with_reducible refine sg (kq114 hS) ?_
        refine bc (eX12_noBits hS) (fun pp hc8 => ?_)
        obtain ⟨I6, r7⟩ := pp
        rfl
def gX12_setField (I : Nat → Nat → Int32) (J : Nat → Nat → Int64) (x1 : Int32) (x2 : Int32) (x3 : Int64) : Option ((Nat → Nat → Int32) × (Nat → Nat → Int64) × (Int32)) :=
  if (fX12_isBin x1) = 0 then
    some (I, J, (-2 : Int32))
  else
    if (fX12_in x2 (0 : Int32) (7 : Int32)) = 0 then
      some (I, J, (-2 : Int32))
    else
      if ¬ (x1 < 0 ∨ 16 ≤ Int32.toNatClampNeg x1) then
      (gX12_againstCard I (I 115 (Int32.toNatClampNeg x1))).bind fun r2 =>
      if r2 = 0 then
        if ¬ ((I 115 (Int32.toNatClampNeg x1)) < 0 ∨ 4100 ≤ Int32.toNatClampNeg (I 115 (Int32.toNatClampNeg x1))) then
        if ¬ (((I 118 (Int32.toNatClampNeg (I 115 (Int32.toNatClampNeg x1)))) + x2) < 0 ∨ 164000 ≤ Int32.toNatClampNeg ((I 118 (Int32.toNatClampNeg (I 115 (Int32.toNatClampNeg x1)))) + x2)) then
        let J6 := u2 J 119 (Int32.toNatClampNeg ((I 118 (Int32.toNatClampNeg (I 115 (Int32.toNatClampNeg x1)))) + x2)) (fX12_fitted x2 x3)
        some (I, J6, (1 : Int32))
        else none
        else none
      else
        (gX12_no I r2).bind fun (I7, r8) =>
        some (I7, J, r8)
      else none
theorem eX12_setField {σ : Shp} {I : Nat → Nat → Int32} {J : Nat → Nat → Int64} {R : Nat → Nat → Option Nat} {x1 : Int32} {x2 : Int32} {x3 : Int64} (hS : Skel σ R) : fX12_setField σ I J R 114 x1 x2 x3 = gX12_setField I J x1 x2 x3 := by
  unfold fX12_setField gX12_setField
  refine bi (fun c => ?_) (fun c => ?_)
  · rfl
  · refine bi (fun c => ?_) (fun c => ?_)
    · rfl
    · refine sg (kq114 hS) ?_
      refine sb (rq114_3 hS) ?_
      refine sg (kq115 hS) ?_
      refine bgr (by rw [lq115 hS]) (fun g1 => ?_)
      try with_reducible refine sg (kq114 hS) ?_
      refine bc (eX12_againstCard hS) (fun r2 hc3 => ?_)
      refine bi (fun c => ?_) (fun c => ?_)
      · try with_reducible refine sg (kq114 hS) ?_
        refine sb (rq114_8 hS) ?_
        try with_reducible refine sg (kq114 hS) ?_
        refine sb (rq114_6 hS) ?_
        try with_reducible refine sg (kq114 hS) ?_
        try with_reducible refine sg (kq115 hS) ?_
        try with_reducible refine sg (by rw [lq115 hS]; exact g1) ?_
        refine sg (kq118 hS) ?_
        refine bgr (by rw [lq118 hS]) (fun g4 => ?_)
        refine sg (kq119 hS) ?_
        refine bgr (by rw [lq119 hS]) (fun g5 => ?_)
        rfl
      · try with_reducible refine sg (kq114 hS) ?_
        refine bc (eX12_no hS) (fun pp hc9 => ?_)
        obtain ⟨I7, r8⟩ := pp
        rfl
def gX12_lead_b83  (σ : Shp) (R : Nat → Nat → Option Nat) (I : Nat → Nat → Int32) (x2 : Int32) (x3 : Int32) (x4 : Int32) (s0 : Int32) : Option ((Nat → Nat → Int32) × (Int32)) :=
  if s0 = 0 then
    if x2 = 0 then
      if ¬ (x3 < 0 ∨ 16 ≤ Int32.toNatClampNeg x3) then
      if ¬ (x4 < 0 ∨ 4100 ≤ Int32.toNatClampNeg x4) then
      let I10 := u2 I 125 (Int32.toNatClampNeg x4) ((Int32.toInt16 ((Int32.toInt16 (I 115 (Int32.toNatClampNeg x3))).toInt32)).toInt32)
      some (I10, (1 : Int32))
      else none
      else none
    else
      if ¬ (x3 < 0 ∨ 16 ≤ Int32.toNatClampNeg x3) then
      if ¬ (x4 < 0 ∨ 4100 ≤ Int32.toNatClampNeg x4) then
      let I7 := u2 I 126 (Int32.toNatClampNeg x4) ((Int32.toInt16 ((Int32.toInt16 (I 115 (Int32.toNatClampNeg x3))).toInt32)).toInt32)
      some (I7, (1 : Int32))
      else none
      else none
  else
    (gX12_no I s0).bind fun (I11, r12) =>
    some (I11, r12)
theorem eX12_lead_b83 {σ : Shp} {I : Nat → Nat → Int32} {R : Nat → Nat → Option Nat} {x2 : Int32} {x3 : Int32} {x4 : Int32} {s0 : Int32} (hS : Skel σ R) : fX12_lead_b83 σ R 114 I x2 x3 x4 s0 = gX12_lead_b83 σ R I x2 x3 x4 s0 := by
  unfold fX12_lead_b83 gX12_lead_b83
  refine bi (fun c => ?_) (fun c => ?_)
  · refine bi (fun c => ?_) (fun c => ?_)
    · refine sg (kq114 hS) ?_
      refine sb (rq114_15 hS) ?_
      try with_reducible refine sg (kq114 hS) ?_
      refine sb (rq114_3 hS) ?_
      refine sg (kq115 hS) ?_
      refine bgr (by rw [lq115 hS]) (fun g8 => ?_)
      refine sg (kq125 hS) ?_
      refine bgr (by rw [lq125 hS]) (fun g9 => ?_)
      rfl
    · refine sg (kq114 hS) ?_
      refine sb (rq114_16 hS) ?_
      try with_reducible refine sg (kq114 hS) ?_
      refine sb (rq114_3 hS) ?_
      refine sg (kq115 hS) ?_
      refine bgr (by rw [lq115 hS]) (fun g5 => ?_)
      refine sg (kq126 hS) ?_
      refine bgr (by rw [lq126 hS]) (fun g6 => ?_)
      rfl
  · refine sg (kq114 hS) ?_
    refine bc (eX12_no hS) (fun pp hc13 => ?_)
    obtain ⟨I11, r12⟩ := pp
    rfl
def gX12_lead (σ : Shp) (I : Nat → Nat → Int32) (R : Nat → Nat → Option Nat) (x1 : Int32) (x2 : Int32) (x3 : Int32) : Option ((Nat → Nat → Int32) × (Int32)) :=
  if (fX12_isBin x1) = 0 then
    some (I, (-2 : Int32))
  else
    if (fX12_in x2 (0 : Int32) (1 : Int32)) = 0 then
      some (I, (-2 : Int32))
    else
      if (fX12_isBin x3) = 0 then
        some (I, (-2 : Int32))
      else
        if ¬ (x1 < 0 ∨ 16 ≤ Int32.toNatClampNeg x1) then
        let v2 := (I 115 (Int32.toNatClampNeg x1))
        (gX12_isOf I v2 (17 : Int32)).bind fun r3 =>
        if r3 = 0 then
          gX12_lead_b83 σ R I x2 x3 v2 (4 : Int32)
        else
          if ¬ (x3 < 0 ∨ 16 ≤ Int32.toNatClampNeg x3) then
          if x2 = 0 then
            (gX12_isOf I (I 115 (Int32.toNatClampNeg x3)) (17 : Int32)).bind fun r17 =>
            if r17 = 0 then
              gX12_lead_b83 σ R I x2 x3 v2 (4 : Int32)
            else
              if v2 = 0 then
                gX12_lead_b83 σ R I x2 x3 v2 (1 : Int32)
              else
                gX12_lead_b83 σ R I x2 x3 v2 (0 : Int32)
          else
            (gX12_isOf I (I 115 (Int32.toNatClampNeg x3)) (16 : Int32)).bind fun r15 =>
            if r15 = 0 then
              gX12_lead_b83 σ R I x2 x3 v2 (4 : Int32)
            else
              if v2 = 0 then
                gX12_lead_b83 σ R I x2 x3 v2 (1 : Int32)
              else
                gX12_lead_b83 σ R I x2 x3 v2 (0 : Int32)
          else none
        else none
theorem eX12_lead {σ : Shp} {I : Nat → Nat → Int32} {R : Nat → Nat → Option Nat} {x1 : Int32} {x2 : Int32} {x3 : Int32} (hS : Skel σ R) : fX12_lead σ I R 114 x1 x2 x3 = gX12_lead σ I R x1 x2 x3 := by
  unfold fX12_lead gX12_lead
  refine bi (fun c => ?_) (fun c => ?_)
  · rfl
  · refine bi (fun c => ?_) (fun c => ?_)
    · rfl
    · refine bi (fun c => ?_) (fun c => ?_)
      · rfl
      · refine sg (kq114 hS) ?_
        refine sb (rq114_3 hS) ?_
        refine sg (kq115 hS) ?_
        refine bgr (by rw [lq115 hS]) (fun g1 => ?_)
        try with_reducible refine sg (kq114 hS) ?_
        refine bc (eX12_isOf hS) (fun r3 hc4 => ?_)
        refine bi (fun c => ?_) (fun c => ?_)
        · exact eX12_lead_b83 hS
        · try with_reducible refine sg (kq114 hS) ?_
          try with_reducible refine sg (kq115 hS) ?_
          refine bgr (by rw [lq115 hS]) (fun g14 => ?_)
          refine bi (fun c => ?_) (fun c => ?_)
          · try with_reducible refine sg (kq114 hS) ?_
            refine bc (eX12_isOf hS) (fun r17 hc18 => ?_)
            refine bi (fun c => ?_) (fun c => ?_)
            · exact eX12_lead_b83 hS
            · refine bi (fun c => ?_) (fun c => ?_)
              · exact eX12_lead_b83 hS
              · exact eX12_lead_b83 hS
          · try with_reducible refine sg (kq114 hS) ?_
            refine bc (eX12_isOf hS) (fun r15 hc16 => ?_)
            refine bi (fun c => ?_) (fun c => ?_)
            · exact eX12_lead_b83 hS
            · refine bi (fun c => ?_) (fun c => ?_)
              · exact eX12_lead_b83 hS
              · exact eX12_lead_b83 hS
def gX12_follow (I : Nat → Nat → Int32) (x1 : Int32) (x2 : Int32) (x3 : Int32) : Option ((Nat → Nat → Int32) × (Int32)) :=
  if (fX12_isBin x1) = 0 then
    some (I, (-2 : Int32))
  else
    if (fX12_isBin x2) = 0 then
      some (I, (-2 : Int32))
    else
      if (fX12_in x3 (0 : Int32) (1 : Int32)) = 0 then
        some (I, (-2 : Int32))
      else
        if ¬ (x2 < 0 ∨ 16 ≤ Int32.toNatClampNeg x2) then
        let v2 := (I 115 (Int32.toNatClampNeg x2))
        (gX12_againstCard I v2).bind fun r3 =>
        if r3 = 0 then
          if x3 = 0 then
            if ¬ (v2 < 0 ∨ 4100 ≤ Int32.toNatClampNeg v2) then
            if ¬ (x1 < 0 ∨ 16 ≤ Int32.toNatClampNeg x1) then
            let I10 := u2 I 115 (Int32.toNatClampNeg x1) (I 125 (Int32.toNatClampNeg v2))
            some (I10, (1 : Int32))
            else none
            else none
          else
            if ¬ (v2 < 0 ∨ 4100 ≤ Int32.toNatClampNeg v2) then
            if ¬ (x1 < 0 ∨ 16 ≤ Int32.toNatClampNeg x1) then
            let I7 := u2 I 115 (Int32.toNatClampNeg x1) (I 126 (Int32.toNatClampNeg v2))
            some (I7, (1 : Int32))
            else none
            else none
        else
          (gX12_no I r3).bind fun (I11, r12) =>
          some (I11, r12)
        else none
theorem eX12_follow {σ : Shp} {I : Nat → Nat → Int32} {R : Nat → Nat → Option Nat} {x1 : Int32} {x2 : Int32} {x3 : Int32} (hS : Skel σ R) : fX12_follow σ I R 114 x1 x2 x3 = gX12_follow I x1 x2 x3 := by
  unfold fX12_follow gX12_follow
  refine bi (fun c => ?_) (fun c => ?_)
  · rfl
  · refine bi (fun c => ?_) (fun c => ?_)
    · rfl
    · refine bi (fun c => ?_) (fun c => ?_)
      · rfl
      · refine sg (kq114 hS) ?_
        refine sb (rq114_3 hS) ?_
        refine sg (kq115 hS) ?_
        refine bgr (by rw [lq115 hS]) (fun g1 => ?_)
        try with_reducible refine sg (kq114 hS) ?_
        refine bc (eX12_againstCard hS) (fun r3 hc4 => ?_)
        refine bi (fun c => ?_) (fun c => ?_)
        · try with_reducible refine sg (kq114 hS) ?_
          refine bi (fun c => ?_) (fun c => ?_)
          · try with_reducible refine sg (kq114 hS) ?_
            refine sb (rq114_15 hS) ?_
            refine sg (kq125 hS) ?_
            refine bgr (by rw [lq125 hS]) (fun g8 => ?_)
            try with_reducible refine sg (kq115 hS) ?_
            refine bgr (by rw [lq115 hS]) (fun g9 => ?_)
            rfl
          · try with_reducible refine sg (kq114 hS) ?_
            refine sb (rq114_16 hS) ?_
            refine sg (kq126 hS) ?_
            refine bgr (by rw [lq126 hS]) (fun g5 => ?_)
            try with_reducible refine sg (kq115 hS) ?_
            refine bgr (by rw [lq115 hS]) (fun g6 => ?_)
            rfl
        · try with_reducible refine sg (kq114 hS) ?_
          refine bc (eX12_no hS) (fun pp hc13 => ?_)
          obtain ⟨I11, r12⟩ := pp
          rfl
def gX12_led_b113  (σ : Shp) (R : Nat → Nat → Option Nat) (I : Nat → Nat → Int32) (x2 : Int32) (x4 : Int32) (x5 : Int32) (x6 : Int32) : Option ((Nat → Nat → Int32) × (Int32)) :=
  if x2 = 0 then
    some (I, x4)
  else
    if x2 = (1 : Int32) then
      if x6 = 0 then
        some (I, (-1 : Int32))
      else
        if ¬ (x6 < 0 ∨ 4100 ≤ Int32.toNatClampNeg x6) then
        some (I, (I 121 (Int32.toNatClampNeg x6)))
        else none
    else
      if ¬ (x5 < 0 ∨ 4100 ≤ Int32.toNatClampNeg x5) then
      some (I, (I 121 (Int32.toNatClampNeg x5)))
      else none
theorem eX12_led_b113 {σ : Shp} {I : Nat → Nat → Int32} {R : Nat → Nat → Option Nat} {x2 : Int32} {x4 : Int32} {x5 : Int32} {x6 : Int32} (hS : Skel σ R) : fX12_led_b113 σ R 114 I x2 x4 x5 x6 = gX12_led_b113 σ R I x2 x4 x5 x6 := by
  unfold fX12_led_b113 gX12_led_b113
  refine bi (fun c => ?_) (fun c => ?_)
  · rfl
  · refine bi (fun c => ?_) (fun c => ?_)
    · refine bi (fun c => ?_) (fun c => ?_)
      · rfl
      · refine sg (kq114 hS) ?_
        refine sb (rq114_11 hS) ?_
        refine sg (kq121 hS) ?_
        refine bgr (by rw [lq121 hS]) (fun g7 => ?_)
        rfl
    · refine sg (kq114 hS) ?_
      refine sb (rq114_11 hS) ?_
      refine sg (kq121 hS) ?_
      refine bgr (by rw [lq121 hS]) (fun g6 => ?_)
      rfl
def gX12_led_l64  (σ : Shp) (R : Nat → Nat → Option Nat) : Nat → (Nat → Nat → Int32) → (Int32) → (Int32) → (Int32) → (Int32) → Option ((Nat → Nat → Int32) × (Int32))
  | 0, _, _, _, _, _ => none
  | n + 1, I, x2, x4, x5, x6 =>
    if x6 = 0 then
      gX12_led_b113 σ R I x2 x4 x5 x6
    else
      if ¬ (x6 < 0 ∨ 4100 ≤ Int32.toNatClampNeg x6) then
      if (I 133 (Int32.toNatClampNeg x6)) = (I 114 32) then
        gX12_led_b113 σ R I x2 x4 x5 x6
      else
        let I9 := u2 I 133 (Int32.toNatClampNeg x6) (I 114 32)
        let v10 := x4 + (1 : Int32)
        if ¬ (x6 < 0 ∨ 4100 ≤ Int32.toNatClampNeg x6) then
        let v12 := (I9 125 (Int32.toNatClampNeg x6))
        gX12_led_l64 σ R n I9 x2 v10 x6 v12
        else none
      else none
theorem eX12_led_l64 {σ : Shp} {R : Nat → Nat → Option Nat} (hS : Skel σ R) : ∀ (n : Nat) (I : Nat → Nat → Int32) (x2 : Int32) (x4 : Int32) (x5 : Int32) (x6 : Int32), fX12_led_l64 σ R 114 n I x2 x4 x5 x6 = gX12_led_l64 σ R n I x2 x4 x5 x6 := by
  intro n
  induction n with
  | zero => intro I x2 x4 x5 x6; rfl
  | succ n ih =>
    intro I x2 x4 x5 x6
    rw [fX12_led_l64, gX12_led_l64]
    refine bi (fun c => ?_) (fun c => ?_)
    · exact eX12_led_b113 hS
    · refine sg (kq114 hS) ?_
      refine sb (rq114_31 hS) ?_
      refine sg (kq133 hS) ?_
      refine bgr (by rw [lq133 hS]) (fun g8 => ?_)
      try with_reducible refine sg (kq114 hS) ?_
      refine bi (fun c => ?_) (fun c => ?_)
      · exact eX12_led_b113 hS
      · try with_reducible refine sg (kq114 hS) ?_
        try with_reducible refine sg (kq114 hS) ?_
        try with_reducible refine sg (kq133 hS) ?_
        try with_reducible refine sg (by rw [lq133 hS]; exact g8) ?_
        try with_reducible refine sg (kq114 hS) ?_
        refine sb (rq114_15 hS) ?_
        refine sg (kq125 hS) ?_
        refine bgr (by rw [lq125 hS]) (fun g11 => ?_)
        exact ih _ _ _ _ _
def gX12_led (σ : Shp) (I : Nat → Nat → Int32) (R : Nat → Nat → Option Nat) (x1 : Int32) (x2 : Int32) : Option ((Nat → Nat → Int32) × (Int32)) :=
  if (fX12_isBin x1) = 0 then
    some (I, (-2 : Int32))
  else
    if (fX12_in x2 (0 : Int32) (2 : Int32)) = 0 then
      some (I, (-2 : Int32))
    else
      if ¬ (x1 < 0 ∨ 16 ≤ Int32.toNatClampNeg x1) then
      (gX12_againstCard I (I 115 (Int32.toNatClampNeg x1))).bind fun r2 =>
      if r2 = 0 then
        let I4 := u2 I 114 32 ((I 114 32) + (1 : Int32))
        let v5 := (I4 115 (Int32.toNatClampNeg x1))
        gX12_led_l64 σ R FUx I4 x2 (0 : Int32) (0 : Int32) v5
      else
        (gX12_no I r2).bind fun (I13, r14) =>
        some (I13, r14)
      else none
theorem eX12_led {σ : Shp} {I : Nat → Nat → Int32} {R : Nat → Nat → Option Nat} {x1 : Int32} {x2 : Int32} (hS : Skel σ R) : fX12_led σ I R 114 x1 x2 = gX12_led σ I R x1 x2 := by
  unfold fX12_led gX12_led
  refine bi (fun c => ?_) (fun c => ?_)
  · rfl
  · refine bi (fun c => ?_) (fun c => ?_)
    · rfl
    · refine sg (kq114 hS) ?_
      refine sb (rq114_3 hS) ?_
      refine sg (kq115 hS) ?_
      refine bgr (by rw [lq115 hS]) (fun g1 => ?_)
      try with_reducible refine sg (kq114 hS) ?_
      refine bc (eX12_againstCard hS) (fun r2 hc3 => ?_)
      refine bi (fun c => ?_) (fun c => ?_)
      · try with_reducible refine sg (kq114 hS) ?_
        try with_reducible refine sg (kq114 hS) ?_
        try with_reducible refine sg (kq114 hS) ?_
        try with_reducible refine sg (kq115 hS) ?_
        try with_reducible refine sg (by rw [lq115 hS]; exact g1) ?_
        exact eX12_led_l64 hS _ _ _ _ _ _
      · try with_reducible refine sg (kq114 hS) ?_
        refine bc (eX12_no hS) (fun pp hc15 => ?_)
        obtain ⟨I13, r14⟩ := pp
        rfl
def gX12_step (I : Nat → Nat → Int32) (x1 : Int32) (x2 : Int32) (x3 : Int32) (x4 : Int32) (x5 : Int32) : Option ((Nat → Nat → Int32) × (Int32)) :=
  if (fX12_in x1 (0 : Int32) (3 : Int32)) = 0 then
    some (I, (-2 : Int32))
  else
    if (fX12_in x2 (0 : Int32) (20 : Int32)) = 0 then
      some (I, (-2 : Int32))
    else
      if ¬ (x1 < 0 ∨ 4 ≤ Int32.toNatClampNeg x1) then
      if (I 134 (Int32.toNatClampNeg x1)) = (40 : Int32) then
        some (I, (-4 : Int32))
      else
        let v2 := (((40 : Int32) * x1) + (I 134 (Int32.toNatClampNeg x1)))
        if ¬ (v2 < 0 ∨ 160 ≤ Int32.toNatClampNeg v2) then
        let I4 := u2 I 135 (Int32.toNatClampNeg v2) x2
        if ¬ (v2 < 0 ∨ 160 ≤ Int32.toNatClampNeg v2) then
        let I6 := u2 I4 136 (Int32.toNatClampNeg v2) x3
        if ¬ (v2 < 0 ∨ 160 ≤ Int32.toNatClampNeg v2) then
        let I8 := u2 I6 137 (Int32.toNatClampNeg v2) x4
        if ¬ (v2 < 0 ∨ 160 ≤ Int32.toNatClampNeg v2) then
        let I10 := u2 I8 138 (Int32.toNatClampNeg v2) x5
        let I11 := u2 I10 134 (Int32.toNatClampNeg x1) ((I10 134 (Int32.toNatClampNeg x1)) + (1 : Int32))
        some (I11, ((I11 134 (Int32.toNatClampNeg x1)) - (1 : Int32)))
        else none
        else none
        else none
        else none
      else none
theorem eX12_step {σ : Shp} {I : Nat → Nat → Int32} {R : Nat → Nat → Option Nat} {x1 : Int32} {x2 : Int32} {x3 : Int32} {x4 : Int32} {x5 : Int32} (hS : Skel σ R) : fX12_step σ I R 114 x1 x2 x3 x4 x5 = gX12_step I x1 x2 x3 x4 x5 := by
  unfold fX12_step gX12_step
  refine bi (fun c => ?_) (fun c => ?_)
  · rfl
  · refine bi (fun c => ?_) (fun c => ?_)
    · rfl
    · refine sg (kq114 hS) ?_
      refine sb (rq114_33 hS) ?_
      refine sg (kq134 hS) ?_
      refine bgr (by rw [lq134 hS]) (fun g1 => ?_)
      refine bi (fun c => ?_) (fun c => ?_)
      · rfl
      · try with_reducible refine sg (kq114 hS) ?_
        try with_reducible refine sg (kq134 hS) ?_
        try with_reducible refine sg (by rw [lq134 hS]; exact g1) ?_
        try with_reducible refine sg (kq114 hS) ?_
        refine sb (rq114_34 hS) ?_
        refine sg (kq135 hS) ?_
        refine bgr (by rw [lq135 hS]) (fun g3 => ?_)
        try with_reducible refine sg (kq114 hS) ?_
        refine sb (rq114_35 hS) ?_
        refine sg (kq136 hS) ?_
        refine bgr (by rw [lq136 hS]) (fun g5 => ?_)
        try with_reducible refine sg (kq114 hS) ?_
        refine sb (rq114_36 hS) ?_
        refine sg (kq137 hS) ?_
        refine bgr (by rw [lq137 hS]) (fun g7 => ?_)
        try with_reducible refine sg (kq114 hS) ?_
        refine sb (rq114_37 hS) ?_
        refine sg (kq138 hS) ?_
        refine bgr (by rw [lq138 hS]) (fun g9 => ?_)
        try with_reducible refine sg (kq114 hS) ?_
        try with_reducible refine sg (kq134 hS) ?_
        try with_reducible refine sg (by rw [lq134 hS]; exact g1) ?_
        try with_reducible refine sg (kq134 hS) ?_
        try with_reducible refine sg (by rw [lq134 hS]; exact g1) ?_
        try with_reducible refine sg (kq114 hS) ?_
        try with_reducible refine sg (kq134 hS) ?_
        try with_reducible refine sg (by rw [lq134 hS]; exact g1) ?_
        rfl
def gX12_drop (I : Nat → Nat → Int32) (x1 : Int32) : Option ((Nat → Nat → Int32) × (Int32)) :=
  if (fX12_in x1 (0 : Int32) (3 : Int32)) = 0 then
    some (I, (-2 : Int32))
  else
    if ¬ (x1 < 0 ∨ 4 ≤ Int32.toNatClampNeg x1) then
    let v2 := (I 134 (Int32.toNatClampNeg x1))
    let I3 := u2 I 134 (Int32.toNatClampNeg x1) (0 : Int32)
    some (I3, v2)
    else none
theorem eX12_drop {σ : Shp} {I : Nat → Nat → Int32} {R : Nat → Nat → Option Nat} {x1 : Int32} (hS : Skel σ R) : fX12_drop σ I R 114 x1 = gX12_drop I x1 := by
  unfold fX12_drop gX12_drop
  refine bi (fun c => ?_) (fun c => ?_)
  · rfl
  · refine sg (kq114 hS) ?_
    refine sb (rq114_33 hS) ?_
    refine sg (kq134 hS) ?_
    refine bgr (by rw [lq134 hS]) (fun g1 => ?_)
    try with_reducible refine sg (kq114 hS) ?_
    try with_reducible refine sg (kq134 hS) ?_
    try with_reducible refine sg (by rw [lq134 hS]; exact g1) ?_
    rfl
def gX12_wrong_b99 (q7 : (Nat → Nat → Int32) → (Int32) → (Int32) → (Int32) → (Int32) → (Option ((Nat → Nat → Int32) × (Int32)))) (σ : Shp) (R : Nat → Nat → Option Nat) (I : Nat → Nat → Int32) (x1 : Int32) (x2 : Int32) (x4 : Int32) (x5 : Int32) : Option ((Nat → Nat → Int32) × (Int32)) :=
  if (fX12_hasBody x5) = 0 then
    let v4 := x4 + (1 : Int32)
    q7 I x1 x2 (0 : Int32) v4
  else
    if ¬ (x2 < 0 ∨ 44 ≤ Int32.toNatClampNeg x2) then
    let I6 := u2 I 142 (Int32.toNatClampNeg x2) x5
    let v7 := x2 + (1 : Int32)
    let v8 := x4 + (1 : Int32)
    q7 I6 x1 v7 (0 : Int32) v8
    else none
theorem eX12_wrong_b99 {σ : Shp} {I : Nat → Nat → Int32} {R : Nat → Nat → Option Nat} {x1 : Int32} {x2 : Int32} {x4 : Int32} {x5 : Int32} (hS : Skel σ R) {qf7 q7 : (Nat → Nat → Int32) → (Int32) → (Int32) → (Int32) → (Int32) → (Option ((Nat → Nat → Int32) × (Int32)))} (hq7 : ∀ (I : Nat → Nat → Int32) (x1 : Int32) (x2 : Int32) (x3 : Int32) (x4 : Int32), qf7 I x1 x2 x3 x4 = q7 I x1 x2 x3 x4) : fX12_wrong_b99 qf7 σ R 114 I x1 x2 x4 x5 = gX12_wrong_b99 q7 σ R I x1 x2 x4 x5 := by
  unfold fX12_wrong_b99 gX12_wrong_b99
  refine bi (fun c => ?_) (fun c => ?_)
  · exact hq7 _ _ _ _ _
  · refine sg (kq114 hS) ?_
    refine sb (rq114_41 hS) ?_
    refine sg (kq142 hS) ?_
    refine bgr (by rw [lq142 hS]) (fun g5 => ?_)
    exact hq7 _ _ _ _ _
def gX12_wrong_l7  (σ : Shp) (R : Nat → Nat → Option Nat) : Nat → (Nat → Nat → Int32) → (Int32) → (Int32) → (Int32) → (Int32) → Option ((Nat → Nat → Int32) × (Int32))
  | 0, _, _, _, _, _ => none
  | n + 1, I, x1, x2, x3, x4 =>
    if ¬ (x1 < 0 ∨ 4 ≤ Int32.toNatClampNeg x1) then
    if (I 134 (Int32.toNatClampNeg x1)) ≤ x4 then
      if x2 ≤ 0 then
        some (I, (-1 : Int32))
      else
        some (I, (I 134 (Int32.toNatClampNeg x1)))
    else
      if ¬ ((((40 : Int32) * x1) + x4) < 0 ∨ 160 ≤ Int32.toNatClampNeg (((40 : Int32) * x1) + x4)) then
      let v3 := (I 135 (Int32.toNatClampNeg (((40 : Int32) * x1) + x4)))
      if v3 = 0 then
        if x2 = 0 then
          some (I, x4)
        else
          let v9 := x2 + (-1 : Int32)
          if ¬ (v9 < 0 ∨ 44 ≤ Int32.toNatClampNeg v9) then
          if (I 142 (Int32.toNatClampNeg v9)) = (16 : Int32) then
            let v11 := x4 + (1 : Int32)
            gX12_wrong_l7 σ R n I x1 v9 (1 : Int32) v11
          else
            if (I 142 (Int32.toNatClampNeg v9)) = (17 : Int32) then
              let v13 := x4 + (1 : Int32)
              gX12_wrong_l7 σ R n I x1 v9 (1 : Int32) v13
            else
              let v12 := x4 + (1 : Int32)
              gX12_wrong_l7 σ R n I x1 v9 (0 : Int32) v12
          else none
      else
        if v3 = (17 : Int32) then
          if x3 = 0 then
            some (I, x4)
          else
            gX12_wrong_b99 (gX12_wrong_l7 σ R n) σ R I x1 x2 x4 v3
        else
          if v3 = (18 : Int32) then
            if x3 = 0 then
              some (I, x4)
            else
              gX12_wrong_b99 (gX12_wrong_l7 σ R n) σ R I x1 x2 x4 v3
          else
            gX12_wrong_b99 (gX12_wrong_l7 σ R n) σ R I x1 x2 x4 v3
      else none
    else none
theorem eX12_wrong_l7 {σ : Shp} {R : Nat → Nat → Option Nat} (hS : Skel σ R) : ∀ (n : Nat) (I : Nat → Nat → Int32) (x1 : Int32) (x2 : Int32) (x3 : Int32) (x4 : Int32), fX12_wrong_l7 σ R 114 n I x1 x2 x3 x4 = gX12_wrong_l7 σ R n I x1 x2 x3 x4 := by
  intro n
  induction n with
  | zero => intro I x1 x2 x3 x4; rfl
  | succ n ih =>
    intro I x1 x2 x3 x4
    rw [fX12_wrong_l7, gX12_wrong_l7]
    refine sg (kq114 hS) ?_
    refine sb (rq114_33 hS) ?_
    refine sg (kq134 hS) ?_
    refine bgr (by rw [lq134 hS]) (fun g1 => ?_)
    refine bi (fun c => ?_) (fun c => ?_)
    · refine bi (fun c => ?_) (fun c => ?_)
      · rfl
      · try with_reducible refine sg (kq114 hS) ?_
        try with_reducible refine sg (kq134 hS) ?_
        try with_reducible refine sg (by rw [lq134 hS]; exact g1) ?_
        rfl
    · try with_reducible refine sg (kq114 hS) ?_
      refine sb (rq114_34 hS) ?_
      refine sg (kq135 hS) ?_
      refine bgr (by rw [lq135 hS]) (fun g2 => ?_)
      refine bi (fun c => ?_) (fun c => ?_)
      · refine bi (fun c => ?_) (fun c => ?_)
        · rfl
        · try with_reducible refine sg (kq114 hS) ?_
          refine sb (rq114_41 hS) ?_
          refine sg (kq142 hS) ?_
          refine bgr (by rw [lq142 hS]) (fun g10 => ?_)
          refine bi (fun c => ?_) (fun c => ?_)
          · exact ih _ _ _ _ _
          · try with_reducible refine sg (kq114 hS) ?_
            try with_reducible refine sg (kq142 hS) ?_
            try with_reducible refine sg (by rw [lq142 hS]; exact g10) ?_
            refine bi (fun c => ?_) (fun c => ?_)
            · exact ih _ _ _ _ _
            · exact ih _ _ _ _ _
      · refine bi (fun c => ?_) (fun c => ?_)
        · refine bi (fun c => ?_) (fun c => ?_)
          · rfl
          · exact eX12_wrong_b99 hS ih
        · refine bi (fun c => ?_) (fun c => ?_)
          · refine bi (fun c => ?_) (fun c => ?_)
            · rfl
            · exact eX12_wrong_b99 hS ih
          · exact eX12_wrong_b99 hS ih
def gX12_wrong (σ : Shp) (I : Nat → Nat → Int32) (R : Nat → Nat → Option Nat) (x1 : Int32) : Option ((Nat → Nat → Int32) × (Int32)) :=
  gX12_wrong_l7 σ R FUx I x1 (0 : Int32) (0 : Int32) (0 : Int32)
theorem eX12_wrong {σ : Shp} {I : Nat → Nat → Int32} {R : Nat → Nat → Option Nat} {x1 : Int32} (hS : Skel σ R) : fX12_wrong σ I R 114 x1 = gX12_wrong σ I R x1 := by
  unfold fX12_wrong gX12_wrong
  exact eX12_wrong_l7 hS _ _ _ _ _ _
def gX12_formed (σ : Shp) (I : Nat → Nat → Int32) (R : Nat → Nat → Option Nat) (x1 : Int32) : Option ((Nat → Nat → Int32) × (Int32)) :=
  if (fX12_in x1 (0 : Int32) (3 : Int32)) = 0 then
    some (I, (0 : Int32))
  else
    (gX12_wrong σ I R x1).bind fun (I1, r2) =>
    some (I1, r2)
theorem eX12_formed {σ : Shp} {I : Nat → Nat → Int32} {R : Nat → Nat → Option Nat} {x1 : Int32} (hS : Skel σ R) : fX12_formed σ I R 114 x1 = gX12_formed σ I R x1 := by
  unfold fX12_formed gX12_formed
  refine bi (fun c => ?_) (fun c => ?_)
  · rfl
  · refine sg (kq114 hS) ?_
    refine bc (eX12_wrong hS) (fun pp hc3 => ?_)
    obtain ⟨I1, r2⟩ := pp
    rfl
def gX12_endOf_l5  (σ : Shp) (I : Nat → Nat → Int32) (R : Nat → Nat → Option Nat) : Nat → (Int32) → (Int32) → (Int32) → Option ((Int32))
  | 0, _, _, _ => none
  | n + 1, x1, x3, x4 =>
    if x3 ≤ 0 then
      some x4
    else
      let v1 := x4 + (1 : Int32)
      if ¬ ((((40 : Int32) * x1) + v1) < 0 ∨ 160 ≤ Int32.toNatClampNeg (((40 : Int32) * x1) + v1)) then
      let v3 := (I 135 (Int32.toNatClampNeg (((40 : Int32) * x1) + v1)))
      if v3 = 0 then
        let v6 := (x3 + (-1 : Int32))
        gX12_endOf_l5 σ I R n x1 v6 v1
      else
        if (fX12_hasBody v3) = 0 then
          let v4 := (x3 + (0 : Int32))
          gX12_endOf_l5 σ I R n x1 v4 v1
        else
          let v5 := (x3 + (1 : Int32))
          gX12_endOf_l5 σ I R n x1 v5 v1
      else none
theorem eX12_endOf_l5 {σ : Shp} {I : Nat → Nat → Int32} {R : Nat → Nat → Option Nat} (hS : Skel σ R) : ∀ (n : Nat) (x1 : Int32) (x3 : Int32) (x4 : Int32), fX12_endOf_l5 σ I R 114 n x1 x3 x4 = gX12_endOf_l5 σ I R n x1 x3 x4 := by
  intro n
  induction n with
  | zero => intro x1 x3 x4; rfl
  | succ n ih =>
    intro x1 x3 x4
    rw [fX12_endOf_l5, gX12_endOf_l5]
    refine bi (fun c => ?_) (fun c => ?_)
    · rfl
    · refine sg (kq114 hS) ?_
      refine sb (rq114_34 hS) ?_
      refine sg (kq135 hS) ?_
      refine bgr (by rw [lq135 hS]) (fun g2 => ?_)
      refine bi (fun c => ?_) (fun c => ?_)
      · exact ih _ _ _
      · refine bi (fun c => ?_) (fun c => ?_)
        · exact ih _ _ _
        · exact ih _ _ _
def gX12_endOf (σ : Shp) (I : Nat → Nat → Int32) (R : Nat → Nat → Option Nat) (x1 : Int32) (x2 : Int32) : Option ((Int32)) :=
  gX12_endOf_l5 σ I R FUx x1 (1 : Int32) x2
theorem eX12_endOf {σ : Shp} {I : Nat → Nat → Int32} {R : Nat → Nat → Option Nat} {x1 : Int32} {x2 : Int32} (hS : Skel σ R) : fX12_endOf σ I R 114 x1 x2 = gX12_endOf σ I R x1 x2 := by
  unfold fX12_endOf gX12_endOf
  exact eX12_endOf_l5 hS _ _ _ _
def gX12_note (I : Nat → Nat → Int32) (J : Nat → Nat → Int64) (x1 : Int32) (x2 : Int64) : Option ((Nat → Nat → Int32) × (Nat → Nat → Int64)) :=
  if ¬ ((I 114 54) < 0 ∨ 2000 ≤ Int32.toNatClampNeg (I 114 54)) then
  let I2 := u2 I 154 (Int32.toNatClampNeg (I 114 54)) x1
  if ¬ ((I2 114 54) < 0 ∨ 2000 ≤ Int32.toNatClampNeg (I2 114 54)) then
  let J4 := u2 J 155 (Int32.toNatClampNeg (I2 114 54)) x2
  let I5 := u2 I2 114 54 ((I2 114 54) + (1 : Int32))
  some (I5, J4)
  else none
  else none
theorem eX12_note {σ : Shp} {I : Nat → Nat → Int32} {J : Nat → Nat → Int64} {R : Nat → Nat → Option Nat} {x1 : Int32} {x2 : Int64} (hS : Skel σ R) : fX12_note σ I J R 114 x1 x2 = gX12_note I J x1 x2 := by
  unfold fX12_note gX12_note
  refine sg (kq114 hS) ?_
  refine sb (rq114_55 hS) ?_
  try with_reducible refine sg (kq114 hS) ?_
  refine sg (kq154 hS) ?_
  refine bgr (by rw [lq154 hS]) (fun g1 => ?_)
  try with_reducible refine sg (kq114 hS) ?_
  refine sb (rq114_56 hS) ?_
  try with_reducible refine sg (kq114 hS) ?_
  refine sg (kq155 hS) ?_
  refine bgr (by rw [lq155 hS]) (fun g3 => ?_)
  try with_reducible refine sg (kq114 hS) ?_
  try with_reducible refine sg (kq114 hS) ?_
  rfl
def gX12_setCell (I : Nat → Nat → Int32) (J : Nat → Nat → Int64) (x1 : Int32) (x2 : Int64) : Option ((Nat → Nat → Int32) × (Nat → Nat → Int64)) :=
  if ¬ (x1 < 0 ∨ 164000 ≤ Int32.toNatClampNeg x1) then
  (gX12_note I J x1 (J 119 (Int32.toNatClampNeg x1))).bind fun (I2, J3) =>
  let J5 := u2 J3 119 (Int32.toNatClampNeg x1) x2
  some (I2, J5)
  else none
theorem eX12_setCell {σ : Shp} {I : Nat → Nat → Int32} {J : Nat → Nat → Int64} {R : Nat → Nat → Option Nat} {x1 : Int32} {x2 : Int64} (hS : Skel σ R) : fX12_setCell σ I J R 114 x1 x2 = gX12_setCell I J x1 x2 := by
  unfold fX12_setCell gX12_setCell
  refine sg (kq114 hS) ?_
  refine sb (rq114_8 hS) ?_
  refine sg (kq119 hS) ?_
  refine bgr (by rw [lq119 hS]) (fun g1 => ?_)
  try with_reducible refine sg (kq114 hS) ?_
  refine bc (eX12_note hS) (fun pp hc4 => ?_)
  obtain ⟨I2, J3⟩ := pp
  try with_reducible refine sg (kq114 hS) ?_
  try with_reducible refine sg (kq119 hS) ?_
  try with_reducible refine sg (by rw [lq119 hS]; exact g1) ?_
  rfl
def gX12_changeStock (I : Nat → Nat → Int32) (J : Nat → Nat → Int64) (x1 : Int32) (x2 : Int64) : Option ((Nat → Nat → Int32) × (Nat → Nat → Int64)) :=
  if ¬ (x1 < 0 ∨ 6 ≤ Int32.toNatClampNeg x1) then
  (gX12_note I J ((-1 : Int32) - x1) (J 139 (Int32.toNatClampNeg x1))).bind fun (I2, J3) =>
  let J5 := u2 J3 139 (Int32.toNatClampNeg x1) x2
  some (I2, J5)
  else none
theorem eX12_changeStock {σ : Shp} {I : Nat → Nat → Int32} {J : Nat → Nat → Int64} {R : Nat → Nat → Option Nat} {x1 : Int32} {x2 : Int64} (hS : Skel σ R) : fX12_changeStock σ I J R 114 x1 x2 = gX12_changeStock I J x1 x2 := by
  unfold fX12_changeStock gX12_changeStock
  refine sg (kq114 hS) ?_
  refine sb (rq114_38 hS) ?_
  refine sg (kq139 hS) ?_
  refine bgr (by rw [lq139 hS]) (fun g1 => ?_)
  try with_reducible refine sg (kq114 hS) ?_
  refine bc (eX12_note hS) (fun pp hc4 => ?_)
  obtain ⟨I2, J3⟩ := pp
  try with_reducible refine sg (kq114 hS) ?_
  try with_reducible refine sg (kq139 hS) ?_
  try with_reducible refine sg (by rw [lq139 hS]; exact g1) ?_
  rfl
def gX12_undoTo_l0  (σ : Shp) (R : Nat → Nat → Option Nat) : Nat → (Nat → Nat → Int32) → (Nat → Nat → Int64) → (Int32) → Option ((Nat → Nat → Int32) × (Nat → Nat → Int64))
  | 0, _, _, _ => none
  | n + 1, I, J, x1 =>
    if (I 114 54) ≤ x1 then
      some (I, J)
    else
      let I1 := u2 I 114 54 ((I 114 54) - (1 : Int32))
      if ¬ ((I1 114 54) < 0 ∨ 2000 ≤ Int32.toNatClampNeg (I1 114 54)) then
      let v3 := (I1 154 (Int32.toNatClampNeg (I1 114 54)))
      if 0 ≤ v3 then
        if ¬ ((I1 114 54) < 0 ∨ 2000 ≤ Int32.toNatClampNeg (I1 114 54)) then
        if ¬ (v3 < 0 ∨ 164000 ≤ Int32.toNatClampNeg v3) then
        let J6 := u2 J 119 (Int32.toNatClampNeg v3) (J 155 (Int32.toNatClampNeg (I1 114 54)))
        gX12_undoTo_l0 σ R n I1 J6 x1
        else none
        else none
      else
        if ¬ ((I1 114 54) < 0 ∨ 2000 ≤ Int32.toNatClampNeg (I1 114 54)) then
        if ¬ (((-1 : Int32) - v3) < 0 ∨ 6 ≤ Int32.toNatClampNeg ((-1 : Int32) - v3)) then
        let J9 := u2 J 139 (Int32.toNatClampNeg ((-1 : Int32) - v3)) (J 155 (Int32.toNatClampNeg (I1 114 54)))
        gX12_undoTo_l0 σ R n I1 J9 x1
        else none
        else none
      else none
theorem eX12_undoTo_l0 {σ : Shp} {R : Nat → Nat → Option Nat} (hS : Skel σ R) : ∀ (n : Nat) (I : Nat → Nat → Int32) (J : Nat → Nat → Int64) (x1 : Int32), fX12_undoTo_l0 σ R 114 n I J x1 = gX12_undoTo_l0 σ R n I J x1 := by
  intro n
  induction n with
  | zero => intro I J x1; rfl
  | succ n ih =>
    intro I J x1
    rw [fX12_undoTo_l0, gX12_undoTo_l0]
    refine sg (kq114 hS) ?_
    refine bi (fun c => ?_) (fun c => ?_)
    · rfl
    · try with_reducible refine sg (kq114 hS) ?_
      try with_reducible refine sg (kq114 hS) ?_
      try with_reducible refine sg (kq114 hS) ?_
      refine sb (rq114_55 hS) ?_
      try with_reducible refine sg (kq114 hS) ?_
      refine sg (kq154 hS) ?_
      refine bgr (by rw [lq154 hS]) (fun g2 => ?_)
      refine bi (fun c => ?_) (fun c => ?_)
      · try with_reducible refine sg (kq114 hS) ?_
        refine sb (rq114_8 hS) ?_
        try with_reducible refine sg (kq114 hS) ?_
        refine sb (rq114_56 hS) ?_
        try with_reducible refine sg (kq114 hS) ?_
        refine sg (kq155 hS) ?_
        refine bgr (by rw [lq155 hS]) (fun g4 => ?_)
        refine sg (kq119 hS) ?_
        refine bgr (by rw [lq119 hS]) (fun g5 => ?_)
        exact ih _ _ _
      · try with_reducible refine sg (kq114 hS) ?_
        refine sb (rq114_38 hS) ?_
        try with_reducible refine sg (kq114 hS) ?_
        refine sb (rq114_56 hS) ?_
        try with_reducible refine sg (kq114 hS) ?_
        refine sg (kq155 hS) ?_
        refine bgr (by rw [lq155 hS]) (fun g7 => ?_)
        refine sg (kq139 hS) ?_
        refine bgr (by rw [lq139 hS]) (fun g8 => ?_)
        exact ih _ _ _
def gX12_undoTo (σ : Shp) (I : Nat → Nat → Int32) (J : Nat → Nat → Int64) (R : Nat → Nat → Option Nat) (x1 : Int32) : Option ((Nat → Nat → Int32) × (Nat → Nat → Int64)) :=
  gX12_undoTo_l0 σ R FUx I J x1
theorem eX12_undoTo {σ : Shp} {I : Nat → Nat → Int32} {J : Nat → Nat → Int64} {R : Nat → Nat → Option Nat} {x1 : Int32} (hS : Skel σ R) : fX12_undoTo σ I J R 114 x1 = gX12_undoTo σ I J R x1 := by
  unfold fX12_undoTo gX12_undoTo
  exact eX12_undoTo_l0 hS _ _ _ _
def gX12_fails_b22  (σ : Shp) (I : Nat → Nat → Int32) (s0 : Option Nat) (s1 : Int32) : Option ((Nat → Nat → Int32)) :=
  (s0 : Option Nat).bind fun a3 =>
  if kdx σ a3 = 13 then
  let I5 := u2 I a3 61 s1
  let I6 := u2 I5 114 62 (I5 114 58)
  let I7 := u2 I6 114 63 (0 : Int32)
  let I8 := u2 I7 114 70 ((I7 114 70) + (1 : Int32))
  let I9 := u2 I8 114 1 ((I8 114 1) + (1 : Int32))
  some I9
  else none
theorem eX12_fails_b22 {σ : Shp} {I : Nat → Nat → Int32} {R : Nat → Nat → Option Nat} {s0 : Option Nat} {s1 : Int32} (hS : Skel σ R) : fX12_fails_b22 σ 114 I s0 s1 = gX12_fails_b22 σ I s0 s1 := by
  unfold fX12_fails_b22 gX12_fails_b22
  refine bb (fun a3 ha3 => ?_)
  refine bg (fun g4 => ?_)
  refine sg (kq114 hS) ?_
  try with_reducible refine sg (kq114 hS) ?_
  try with_reducible refine sg (kq114 hS) ?_
  try with_reducible refine sg (kq114 hS) ?_
  try with_reducible refine sg (kq114 hS) ?_
  try with_reducible refine sg (kq114 hS) ?_
  try with_reducible refine sg (kq114 hS) ?_
  rfl
def gX12_fails (σ : Shp) (I : Nat → Nat → Int32) (x1 : Int32) (x2 : Int32) : Option ((Nat → Nat → Int32)) :=
  let I1 := u2 I 114 59 (1 : Int32)
  let I2 := u2 I1 114 60 x1
  if x1 = (8 : Int32) then
    gX12_fails_b22 σ I2 (some 114) x2
  else
    gX12_fails_b22 σ I2 (some 114) (0 : Int32)
theorem eX12_fails {σ : Shp} {I : Nat → Nat → Int32} {R : Nat → Nat → Option Nat} {x1 : Int32} {x2 : Int32} (hS : Skel σ R) : fX12_fails σ I 114 x1 x2 = gX12_fails σ I x1 x2 := by
  unfold fX12_fails gX12_fails
  refine sg (kq114 hS) ?_
  try with_reducible refine sg (kq114 hS) ?_
  refine bi (fun c => ?_) (fun c => ?_)
  · exact eX12_fails_b22 hS
  · exact eX12_fails_b22 hS
def gX12_push (I : Nat → Nat → Int32) (x1 : Int32) : Option ((Nat → Nat → Int32)) :=
  if ¬ ((I 114 42) < 0 ∨ 400 ≤ Int32.toNatClampNeg (I 114 42)) then
  let I2 := u2 I 143 (Int32.toNatClampNeg (I 114 42)) x1
  if ¬ ((I2 114 42) < 0 ∨ 400 ≤ Int32.toNatClampNeg (I2 114 42)) then
  let I4 := u2 I2 144 (Int32.toNatClampNeg (I2 114 42)) (I2 114 57)
  if ¬ ((I4 114 42) < 0 ∨ 400 ≤ Int32.toNatClampNeg (I4 114 42)) then
  let I6 := u2 I4 145 (Int32.toNatClampNeg (I4 114 42)) (I4 114 58)
  if ¬ ((I6 114 42) < 0 ∨ 400 ≤ Int32.toNatClampNeg (I6 114 42)) then
  let I8 := u2 I6 146 (Int32.toNatClampNeg (I6 114 42)) (I6 114 54)
  if ¬ ((I8 114 42) < 0 ∨ 400 ≤ Int32.toNatClampNeg (I8 114 42)) then
  let I10 := u2 I8 147 (Int32.toNatClampNeg (I8 114 42)) (1 : Int32)
  let I11 := u2 I10 114 42 ((I10 114 42) + (1 : Int32))
  some I11
  else none
  else none
  else none
  else none
  else none
theorem eX12_push {σ : Shp} {I : Nat → Nat → Int32} {R : Nat → Nat → Option Nat} {x1 : Int32} (hS : Skel σ R) : fX12_push σ I R 114 x1 = gX12_push I x1 := by
  unfold fX12_push gX12_push
  refine sg (kq114 hS) ?_
  refine sb (rq114_43 hS) ?_
  try with_reducible refine sg (kq114 hS) ?_
  refine sg (kq143 hS) ?_
  refine bgr (by rw [lq143 hS]) (fun g1 => ?_)
  try with_reducible refine sg (kq114 hS) ?_
  refine sb (rq114_44 hS) ?_
  try with_reducible refine sg (kq114 hS) ?_
  try with_reducible refine sg (kq114 hS) ?_
  refine sg (kq144 hS) ?_
  refine bgr (by rw [lq144 hS]) (fun g3 => ?_)
  try with_reducible refine sg (kq114 hS) ?_
  refine sb (rq114_45 hS) ?_
  try with_reducible refine sg (kq114 hS) ?_
  try with_reducible refine sg (kq114 hS) ?_
  refine sg (kq145 hS) ?_
  refine bgr (by rw [lq145 hS]) (fun g5 => ?_)
  try with_reducible refine sg (kq114 hS) ?_
  refine sb (rq114_46 hS) ?_
  try with_reducible refine sg (kq114 hS) ?_
  try with_reducible refine sg (kq114 hS) ?_
  refine sg (kq146 hS) ?_
  refine bgr (by rw [lq146 hS]) (fun g7 => ?_)
  try with_reducible refine sg (kq114 hS) ?_
  refine sb (rq114_47 hS) ?_
  try with_reducible refine sg (kq114 hS) ?_
  refine sg (kq147 hS) ?_
  refine bgr (by rw [lq147 hS]) (fun g9 => ?_)
  try with_reducible refine sg (kq114 hS) ?_
  try with_reducible refine sg (kq114 hS) ?_
  rfl
def gX12_a (I : Nat → Nat → Int32) : Option ((Int32)) :=
  if ¬ ((((40 : Int32) * (I 114 57)) + (I 114 58)) < 0 ∨ 160 ≤ Int32.toNatClampNeg (((40 : Int32) * (I 114 57)) + (I 114 58))) then
  some (I 136 (Int32.toNatClampNeg (((40 : Int32) * (I 114 57)) + (I 114 58))))
  else none
theorem eX12_a {σ : Shp} {I : Nat → Nat → Int32} {R : Nat → Nat → Option Nat}  (hS : Skel σ R) : fX12_a σ I R 114 = gX12_a I := by
  unfold fX12_a gX12_a
  refine sg (kq114 hS) ?_
  refine sb (rq114_35 hS) ?_
  try with_reducible refine sg (kq114 hS) ?_
  try with_reducible refine sg (kq114 hS) ?_
  refine sg (kq136 hS) ?_
  refine bgr (by rw [lq136 hS]) (fun g1 => ?_)
  rfl
def gX12_b (I : Nat → Nat → Int32) : Option ((Int32)) :=
  if ¬ ((((40 : Int32) * (I 114 57)) + (I 114 58)) < 0 ∨ 160 ≤ Int32.toNatClampNeg (((40 : Int32) * (I 114 57)) + (I 114 58))) then
  some (I 137 (Int32.toNatClampNeg (((40 : Int32) * (I 114 57)) + (I 114 58))))
  else none
theorem eX12_b {σ : Shp} {I : Nat → Nat → Int32} {R : Nat → Nat → Option Nat}  (hS : Skel σ R) : fX12_b σ I R 114 = gX12_b I := by
  unfold fX12_b gX12_b
  refine sg (kq114 hS) ?_
  refine sb (rq114_36 hS) ?_
  try with_reducible refine sg (kq114 hS) ?_
  try with_reducible refine sg (kq114 hS) ?_
  refine sg (kq137 hS) ?_
  refine bgr (by rw [lq137 hS]) (fun g1 => ?_)
  rfl
def gX12_c (I : Nat → Nat → Int32) : Option ((Int32)) :=
  if ¬ ((((40 : Int32) * (I 114 57)) + (I 114 58)) < 0 ∨ 160 ≤ Int32.toNatClampNeg (((40 : Int32) * (I 114 57)) + (I 114 58))) then
  some (I 138 (Int32.toNatClampNeg (((40 : Int32) * (I 114 57)) + (I 114 58))))
  else none
theorem eX12_c {σ : Shp} {I : Nat → Nat → Int32} {R : Nat → Nat → Option Nat}  (hS : Skel σ R) : fX12_c σ I R 114 = gX12_c I := by
  unfold fX12_c gX12_c
  refine sg (kq114 hS) ?_
  refine sb (rq114_37 hS) ?_
  try with_reducible refine sg (kq114 hS) ?_
  try with_reducible refine sg (kq114 hS) ?_
  refine sg (kq138 hS) ?_
  refine bgr (by rw [lq138 hS]) (fun g1 => ?_)
  rfl
def gX12_enter_b194  (σ : Shp) (R : Nat → Nat → Option Nat) (I : Nat → Nat → Int32) (J : Nat → Nat → Int64) (x1 : Int32) : Option ((Nat → Nat → Int32) × (Nat → Nat → Int64)) :=
  (gX12_push I x1).bind fun I4 =>
  if x1 = (11 : Int32) then
    (gX12_a I4).bind fun r25 =>
    if ¬ (r25 < 0 ∨ 3 ≤ Int32.toNatClampNeg r25) then
    let I28 := u2 I4 141 (Int32.toNatClampNeg r25) ((I4 141 (Int32.toNatClampNeg r25)) + (1 : Int32))
    if ¬ ((0 : Int32) < 0 ∨ 3 ≤ Int32.toNatClampNeg (0 : Int32)) then
    if ¬ ((1 : Int32) < 0 ∨ 3 ≤ Int32.toNatClampNeg (1 : Int32)) then
    if ¬ ((2 : Int32) < 0 ∨ 3 ≤ Int32.toNatClampNeg (2 : Int32)) then
    let v32 := (((I28 141 (Int32.toNatClampNeg (0 : Int32))) + (I28 141 (Int32.toNatClampNeg (1 : Int32)))) + (I28 141 (Int32.toNatClampNeg (2 : Int32))))
    if v32 ≤ (I28 114 69) then
      let I33 := u2 I28 114 69 (I28 114 69)
      let I34 := u2 I33 114 58 ((I33 114 58) + (1 : Int32))
      some (I34, J)
    else
      let I35 := u2 I28 114 69 v32
      let I36 := u2 I35 114 58 ((I35 114 58) + (1 : Int32))
      some (I36, J)
    else none
    else none
    else none
    else none
  else
    if x1 = (12 : Int32) then
      (gX12_a I4).bind fun r14 =>
      (gX12_a I4).bind fun r16 =>
      if ¬ (r16 < 0 ∨ 6 ≤ Int32.toNatClampNeg r16) then
      (gX12_b I4).bind fun r19 =>
      (gX12_changeStock I4 J r14 ((J 139 (Int32.toNatClampNeg r16)) - (Int32.toInt64 r19))).bind fun (I21, J22) =>
      let I24 := u2 I21 114 58 ((I21 114 58) + (1 : Int32))
      some (I24, J22)
      else none
    else
      if x1 = (13 : Int32) then
        (gX12_a I4).bind fun r7 =>
        (gX12_b I4).bind fun r9 =>
        if ¬ (r7 < 0 ∨ 3 ≤ Int32.toNatClampNeg r7) then
        let I12 := u2 I4 140 (Int32.toNatClampNeg r7) r9
        let I13 := u2 I12 114 58 ((I12 114 58) + (1 : Int32))
        some (I13, J)
        else none
      else
        let I6 := u2 I4 114 58 ((I4 114 58) + (1 : Int32))
        some (I6, J)
theorem eX12_enter_b194 {σ : Shp} {I : Nat → Nat → Int32} {J : Nat → Nat → Int64} {R : Nat → Nat → Option Nat} {x1 : Int32} (hS : Skel σ R) : fX12_enter_b194 σ R 114 I J x1 = gX12_enter_b194 σ R I J x1 := by
  unfold fX12_enter_b194 gX12_enter_b194
  refine sg (kq114 hS) ?_
  refine bc (eX12_push hS) (fun I4 hc5 => ?_)
  refine bi (fun c => ?_) (fun c => ?_)
  · try with_reducible refine sg (kq114 hS) ?_
    refine sb (rq114_40 hS) ?_
    try with_reducible refine sg (kq114 hS) ?_
    refine bc (eX12_a hS) (fun r25 hc26 => ?_)
    refine sg (kq141 hS) ?_
    refine bgr (by rw [lq141 hS]) (fun g27 => ?_)
    try with_reducible refine sg (kq141 hS) ?_
    try with_reducible refine sg (by rw [lq141 hS]; exact g27) ?_
    try with_reducible refine sg (kq114 hS) ?_
    try with_reducible refine sg (kq141 hS) ?_
    refine bgr (by rw [lq141 hS]) (fun g29 => ?_)
    try with_reducible refine sg (kq114 hS) ?_
    try with_reducible refine sg (kq141 hS) ?_
    refine bgr (by rw [lq141 hS]) (fun g30 => ?_)
    try with_reducible refine sg (kq114 hS) ?_
    try with_reducible refine sg (kq141 hS) ?_
    refine bgr (by rw [lq141 hS]) (fun g31 => ?_)
    try with_reducible refine sg (kq114 hS) ?_
    refine bi (fun c => ?_) (fun c => ?_)
    · try with_reducible refine sg (kq114 hS) ?_
      try with_reducible refine sg (kq114 hS) ?_
      try with_reducible refine sg (kq114 hS) ?_
      try with_reducible refine sg (kq114 hS) ?_
      rfl
    · try with_reducible refine sg (kq114 hS) ?_
      try with_reducible refine sg (kq114 hS) ?_
      try with_reducible refine sg (kq114 hS) ?_
      rfl
  · refine bi (fun c => ?_) (fun c => ?_)
    · try with_reducible refine sg (kq114 hS) ?_
      refine bc (eX12_a hS) (fun r14 hc15 => ?_)
      try with_reducible refine sg (kq114 hS) ?_
      refine sb (rq114_38 hS) ?_
      try with_reducible refine sg (kq114 hS) ?_
      refine bc (eX12_a hS) (fun r16 hc17 => ?_)
      refine sg (kq139 hS) ?_
      refine bgr (by rw [lq139 hS]) (fun g18 => ?_)
      try with_reducible refine sg (kq114 hS) ?_
      refine bc (eX12_b hS) (fun r19 hc20 => ?_)
      try with_reducible refine sg (kq114 hS) ?_
      refine bc (eX12_changeStock hS) (fun pp hc23 => ?_)
      obtain ⟨I21, J22⟩ := pp
      try with_reducible refine sg (kq114 hS) ?_
      try with_reducible refine sg (kq114 hS) ?_
      rfl
    · refine bi (fun c => ?_) (fun c => ?_)
      · try with_reducible refine sg (kq114 hS) ?_
        refine sb (rq114_39 hS) ?_
        try with_reducible refine sg (kq114 hS) ?_
        refine bc (eX12_a hS) (fun r7 hc8 => ?_)
        try with_reducible refine sg (kq114 hS) ?_
        refine bc (eX12_b hS) (fun r9 hc10 => ?_)
        refine sg (kq140 hS) ?_
        refine bgr (by rw [lq140 hS]) (fun g11 => ?_)
        try with_reducible refine sg (kq114 hS) ?_
        try with_reducible refine sg (kq114 hS) ?_
        rfl
      · try with_reducible refine sg (kq114 hS) ?_
        try with_reducible refine sg (kq114 hS) ?_
        rfl
def gX12_enter_b161  (σ : Shp) (R : Nat → Nat → Option Nat) (I : Nat → Nat → Int32) (J : Nat → Nat → Int64) (x1 : Int32) : Option ((Nat → Nat → Int32) × (Nat → Nat → Int64)) :=
  (gX12_a I).bind fun r1 =>
  if ¬ (r1 < 0 ∨ 6 ≤ Int32.toNatClampNeg r1) then
  if (0 : Int64) < (J 139 (Int32.toNatClampNeg r1)) then
    gX12_enter_b194 σ R I J x1
  else
    (gX12_endOf σ I R (I 114 57) (I 114 58)).bind fun r37 =>
    let I39 := u2 I 114 58 (r37 + (1 : Int32))
    some (I39, J)
  else none
theorem eX12_enter_b161 {σ : Shp} {I : Nat → Nat → Int32} {J : Nat → Nat → Int64} {R : Nat → Nat → Option Nat} {x1 : Int32} (hS : Skel σ R) : fX12_enter_b161 σ R 114 I J x1 = gX12_enter_b161 σ R I J x1 := by
  unfold fX12_enter_b161 gX12_enter_b161
  refine sg (kq114 hS) ?_
  refine sb (rq114_38 hS) ?_
  try with_reducible refine sg (kq114 hS) ?_
  refine bc (eX12_a hS) (fun r1 hc2 => ?_)
  refine sg (kq139 hS) ?_
  refine bgr (by rw [lq139 hS]) (fun g3 => ?_)
  refine bi (fun c => ?_) (fun c => ?_)
  · exact eX12_enter_b194 hS
  · try with_reducible refine sg (kq114 hS) ?_
    try with_reducible refine sg (kq114 hS) ?_
    try with_reducible refine sg (kq114 hS) ?_
    refine bc (eX12_endOf hS) (fun r37 hc38 => ?_)
    try with_reducible refine sg (kq114 hS) ?_
    rfl
def gX12_enter_b121  (σ : Shp) (R : Nat → Nat → Option Nat) (I : Nat → Nat → Int32) (J : Nat → Nat → Int64) (x1 : Int32) : Option ((Nat → Nat → Int32) × (Nat → Nat → Int64)) :=
  if x1 = (15 : Int32) then
    (gX12_a I).bind fun r40 =>
    if (fX12_in r40 (1 : Int32) (9 : Int32)) = 0 then
      (gX12_fails σ I (8 : Int32) (96 : Int32)).bind fun I42 =>
      some (I42, J)
    else
      if x1 = (19 : Int32) then
        gX12_enter_b161 σ R I J x1
      else
        if x1 = (20 : Int32) then
          gX12_enter_b161 σ R I J x1
        else
          gX12_enter_b194 σ R I J x1
  else
    if x1 = (19 : Int32) then
      gX12_enter_b161 σ R I J x1
    else
      if x1 = (20 : Int32) then
        gX12_enter_b161 σ R I J x1
      else
        gX12_enter_b194 σ R I J x1
theorem eX12_enter_b121 {σ : Shp} {I : Nat → Nat → Int32} {J : Nat → Nat → Int64} {R : Nat → Nat → Option Nat} {x1 : Int32} (hS : Skel σ R) : fX12_enter_b121 σ R 114 I J x1 = gX12_enter_b121 σ R I J x1 := by
  unfold fX12_enter_b121 gX12_enter_b121
  refine bi (fun c => ?_) (fun c => ?_)
  · refine sg (kq114 hS) ?_
    refine bc (eX12_a hS) (fun r40 hc41 => ?_)
    refine bi (fun c => ?_) (fun c => ?_)
    · try with_reducible refine sg (kq114 hS) ?_
      refine bc (eX12_fails hS) (fun I42 hc43 => ?_)
      rfl
    · refine bi (fun c => ?_) (fun c => ?_)
      · exact eX12_enter_b161 hS
      · refine bi (fun c => ?_) (fun c => ?_)
        · exact eX12_enter_b161 hS
        · exact eX12_enter_b194 hS
  · refine bi (fun c => ?_) (fun c => ?_)
    · exact eX12_enter_b161 hS
    · refine bi (fun c => ?_) (fun c => ?_)
      · exact eX12_enter_b161 hS
      · exact eX12_enter_b194 hS
def gX12_enter_b81  (σ : Shp) (R : Nat → Nat → Option Nat) (I : Nat → Nat → Int32) (J : Nat → Nat → Int64) (x1 : Int32) : Option ((Nat → Nat → Int32) × (Nat → Nat → Int64)) :=
  if x1 = (12 : Int32) then
    (gX12_b I).bind fun r44 =>
    if r44 < 0 then
      (gX12_fails σ I (8 : Int32) (97 : Int32)).bind fun I46 =>
      some (I46, J)
    else
      (gX12_a I).bind fun r48 =>
      if ¬ (r48 < 0 ∨ 6 ≤ Int32.toNatClampNeg r48) then
      (gX12_b I).bind fun r51 =>
      if (Int32.toInt64 r51) ≤ (J 139 (Int32.toNatClampNeg r48)) then
        gX12_enter_b121 σ R I J x1
      else
        (gX12_fails σ I (8 : Int32) (97 : Int32)).bind fun I53 =>
        some (I53, J)
      else none
  else
    gX12_enter_b121 σ R I J x1
theorem eX12_enter_b81 {σ : Shp} {I : Nat → Nat → Int32} {J : Nat → Nat → Int64} {R : Nat → Nat → Option Nat} {x1 : Int32} (hS : Skel σ R) : fX12_enter_b81 σ R 114 I J x1 = gX12_enter_b81 σ R I J x1 := by
  unfold fX12_enter_b81 gX12_enter_b81
  refine bi (fun c => ?_) (fun c => ?_)
  · refine sg (kq114 hS) ?_
    refine bc (eX12_b hS) (fun r44 hc45 => ?_)
    refine bi (fun c => ?_) (fun c => ?_)
    · try with_reducible refine sg (kq114 hS) ?_
      refine bc (eX12_fails hS) (fun I46 hc47 => ?_)
      rfl
    · try with_reducible refine sg (kq114 hS) ?_
      refine sb (rq114_38 hS) ?_
      try with_reducible refine sg (kq114 hS) ?_
      refine bc (eX12_a hS) (fun r48 hc49 => ?_)
      refine sg (kq139 hS) ?_
      refine bgr (by rw [lq139 hS]) (fun g50 => ?_)
      try with_reducible refine sg (kq114 hS) ?_
      refine bc (eX12_b hS) (fun r51 hc52 => ?_)
      refine bi (fun c => ?_) (fun c => ?_)
      · exact eX12_enter_b121 hS
      · try with_reducible refine sg (kq114 hS) ?_
        refine bc (eX12_fails hS) (fun I53 hc54 => ?_)
        rfl
  · exact eX12_enter_b121 hS
def gX12_enter_b58  (σ : Shp) (R : Nat → Nat → Option Nat) (I : Nat → Nat → Int32) (J : Nat → Nat → Int64) (x1 : Int32) (x3 : Int32) : Option ((Nat → Nat → Int32) × (Nat → Nat → Int64)) :=
  if x3 = 0 then
    gX12_enter_b81 σ R I J x1
  else
    (gX12_a I).bind fun r55 =>
    if (fX12_in r55 (0 : Int32) (2 : Int32)) = 0 then
      (gX12_fails σ I (2 : Int32) (0 : Int32)).bind fun I57 =>
      some (I57, J)
    else
      gX12_enter_b81 σ R I J x1
theorem eX12_enter_b58 {σ : Shp} {I : Nat → Nat → Int32} {J : Nat → Nat → Int64} {R : Nat → Nat → Option Nat} {x1 : Int32} {x3 : Int32} (hS : Skel σ R) : fX12_enter_b58 σ R 114 I J x1 x3 = gX12_enter_b58 σ R I J x1 x3 := by
  unfold fX12_enter_b58 gX12_enter_b58
  refine bi (fun c => ?_) (fun c => ?_)
  · exact eX12_enter_b81 hS
  · refine sg (kq114 hS) ?_
    refine bc (eX12_a hS) (fun r55 hc56 => ?_)
    refine bi (fun c => ?_) (fun c => ?_)
    · try with_reducible refine sg (kq114 hS) ?_
      refine bc (eX12_fails hS) (fun I57 hc58 => ?_)
      rfl
    · exact eX12_enter_b81 hS
def gX12_enter_b41  (σ : Shp) (R : Nat → Nat → Option Nat) (I : Nat → Nat → Int32) (J : Nat → Nat → Int64) (x1 : Int32) (x2 : Int32) (s0 : Int32) : Option ((Nat → Nat → Int32) × (Nat → Nat → Int64)) :=
  if x2 = 0 then
    gX12_enter_b58 σ R I J x1 s0
  else
    (gX12_a I).bind fun r59 =>
    if (fX12_in r59 (0 : Int32) (5 : Int32)) = 0 then
      (gX12_fails σ I (2 : Int32) (0 : Int32)).bind fun I61 =>
      some (I61, J)
    else
      gX12_enter_b58 σ R I J x1 s0
theorem eX12_enter_b41 {σ : Shp} {I : Nat → Nat → Int32} {J : Nat → Nat → Int64} {R : Nat → Nat → Option Nat} {x1 : Int32} {x2 : Int32} {s0 : Int32} (hS : Skel σ R) : fX12_enter_b41 σ R 114 I J x1 x2 s0 = gX12_enter_b41 σ R I J x1 x2 s0 := by
  unfold fX12_enter_b41 gX12_enter_b41
  refine bi (fun c => ?_) (fun c => ?_)
  · exact eX12_enter_b58 hS
  · refine sg (kq114 hS) ?_
    refine bc (eX12_a hS) (fun r59 hc60 => ?_)
    refine bi (fun c => ?_) (fun c => ?_)
    · try with_reducible refine sg (kq114 hS) ?_
      refine bc (eX12_fails hS) (fun I61 hc62 => ?_)
      rfl
    · exact eX12_enter_b58 hS
def gX12_enter_b23  (σ : Shp) (R : Nat → Nat → Option Nat) (I : Nat → Nat → Int32) (J : Nat → Nat → Int64) (x1 : Int32) (s0 : Int32) : Option ((Nat → Nat → Int32) × (Nat → Nat → Int64)) :=
  if x1 = (11 : Int32) then
    gX12_enter_b41 σ R I J x1 s0 (1 : Int32)
  else
    if x1 = (13 : Int32) then
      gX12_enter_b41 σ R I J x1 s0 (1 : Int32)
    else
      gX12_enter_b41 σ R I J x1 s0 (0 : Int32)
theorem eX12_enter_b23 {σ : Shp} {I : Nat → Nat → Int32} {J : Nat → Nat → Int64} {R : Nat → Nat → Option Nat} {x1 : Int32} {s0 : Int32} (hS : Skel σ R) : fX12_enter_b23 σ R 114 I J x1 s0 = gX12_enter_b23 σ R I J x1 s0 := by
  unfold fX12_enter_b23 gX12_enter_b23
  refine bi (fun c => ?_) (fun c => ?_)
  · exact eX12_enter_b41 hS
  · refine bi (fun c => ?_) (fun c => ?_)
    · exact eX12_enter_b41 hS
    · exact eX12_enter_b41 hS
def gX12_enter (σ : Shp) (I : Nat → Nat → Int32) (J : Nat → Nat → Int64) (R : Nat → Nat → Option Nat) (x1 : Int32) : Option ((Nat → Nat → Int32) × (Nat → Nat → Int64)) :=
  if x1 = (12 : Int32) then
    gX12_enter_b23 σ R I J x1 (1 : Int32)
  else
    if x1 = (19 : Int32) then
      gX12_enter_b23 σ R I J x1 (1 : Int32)
    else
      if x1 = (20 : Int32) then
        gX12_enter_b23 σ R I J x1 (1 : Int32)
      else
        gX12_enter_b23 σ R I J x1 (0 : Int32)
theorem eX12_enter {σ : Shp} {I : Nat → Nat → Int32} {J : Nat → Nat → Int64} {R : Nat → Nat → Option Nat} {x1 : Int32} (hS : Skel σ R) : fX12_enter σ I J R 114 x1 = gX12_enter σ I J R x1 := by
  unfold fX12_enter gX12_enter
  refine bi (fun c => ?_) (fun c => ?_)
  · exact eX12_enter_b23 hS
  · refine bi (fun c => ?_) (fun c => ?_)
    · exact eX12_enter_b23 hS
    · refine bi (fun c => ?_) (fun c => ?_)
      · exact eX12_enter_b23 hS
      · exact eX12_enter_b23 hS
def gX12_areNumbers (I : Nat → Nat → Int32) (x1 : Int32) : Option ((Int32)) :=
  if x1 = (1 : Int32) then
    (gX12_a I).bind fun r31 =>
    some (fX12_in r31 (0 : Int32) (5 : Int32))
  else
  if x1 = (2 : Int32) then
    (gX12_a I).bind fun r29 =>
    some (fX12_in r29 (0 : Int32) (5 : Int32))
  else
  if x1 = (3 : Int32) then
    (gX12_a I).bind fun r27 =>
    some (fX12_isBin r27)
  else
  if x1 = (4 : Int32) then
    (gX12_a I).bind fun r23 =>
    if (fX12_isBin r23) = 0 then
      some (0 : Int32)
    else
      (gX12_c I).bind fun r25 =>
      if (fX12_in r25 (0 : Int32) (5 : Int32)) = 0 then
        some (0 : Int32)
      else
        some (1 : Int32)
  else
  if x1 = (5 : Int32) then
    (gX12_a I).bind fun r21 =>
    some (fX12_isBin r21)
  else
  if x1 = (6 : Int32) then
    (gX12_a I).bind fun r15 =>
    if (fX12_isBin r15) = 0 then
      some (0 : Int32)
    else
      (gX12_b I).bind fun r17 =>
      if (fX12_in r17 (0 : Int32) (3 : Int32)) = 0 then
        some (0 : Int32)
      else
        (gX12_c I).bind fun r19 =>
        if (fX12_in r19 (0 : Int32) (5 : Int32)) = 0 then
          some (0 : Int32)
        else
          some (1 : Int32)
  else
  if x1 = (7 : Int32) then
    some (1 : Int32)
  else
  if x1 = (8 : Int32) then
    some (1 : Int32)
  else
  if x1 = (9 : Int32) then
    (gX12_a I).bind fun r13 =>
    some (fX12_in r13 (0 : Int32) (2 : Int32))
  else
  if x1 = (10 : Int32) then
    (gX12_a I).bind fun r11 =>
    some (fX12_in r11 (0 : Int32) (3 : Int32))
  else
  some (1 : Int32)
theorem eX12_areNumbers {σ : Shp} {I : Nat → Nat → Int32} {R : Nat → Nat → Option Nat} {x1 : Int32} (hS : Skel σ R) : fX12_areNumbers σ I R 114 x1 = gX12_areNumbers I x1 := by
  unfold fX12_areNumbers gX12_areNumbers
  refine bi (fun c => ?_) (fun c => ?_)
  · refine sg (kq114 hS) ?_
    refine bc (eX12_a hS) (fun r31 hc32 => ?_)
    rfl
  · refine bi (fun c => ?_) (fun c => ?_)
    · refine sg (kq114 hS) ?_
      refine bc (eX12_a hS) (fun r29 hc30 => ?_)
      rfl
    · refine bi (fun c => ?_) (fun c => ?_)
      · refine sg (kq114 hS) ?_
        refine bc (eX12_a hS) (fun r27 hc28 => ?_)
        rfl
      · refine bi (fun c => ?_) (fun c => ?_)
        · refine sg (kq114 hS) ?_
          refine bc (eX12_a hS) (fun r23 hc24 => ?_)
          refine bi (fun c => ?_) (fun c => ?_)
          · rfl
          · try with_reducible refine sg (kq114 hS) ?_
            refine bc (eX12_c hS) (fun r25 hc26 => ?_)
            refine bi (fun c => ?_) (fun c => ?_)
            · rfl
            · rfl
        · refine bi (fun c => ?_) (fun c => ?_)
          · refine sg (kq114 hS) ?_
            refine bc (eX12_a hS) (fun r21 hc22 => ?_)
            rfl
          · refine bi (fun c => ?_) (fun c => ?_)
            · refine sg (kq114 hS) ?_
              refine bc (eX12_a hS) (fun r15 hc16 => ?_)
              refine bi (fun c => ?_) (fun c => ?_)
              · rfl
              · try with_reducible refine sg (kq114 hS) ?_
                refine bc (eX12_b hS) (fun r17 hc18 => ?_)
                refine bi (fun c => ?_) (fun c => ?_)
                · rfl
                · try with_reducible refine sg (kq114 hS) ?_
                  refine bc (eX12_c hS) (fun r19 hc20 => ?_)
                  refine bi (fun c => ?_) (fun c => ?_)
                  · rfl
                  · rfl
            · refine bi (fun c => ?_) (fun c => ?_)
              · rfl
              · refine bi (fun c => ?_) (fun c => ?_)
                · rfl
                · refine bi (fun c => ?_) (fun c => ?_)
                  · refine sg (kq114 hS) ?_
                    refine bc (eX12_a hS) (fun r13 hc14 => ?_)
                    rfl
                  · refine bi (fun c => ?_) (fun c => ?_)
                    · refine sg (kq114 hS) ?_
                      refine bc (eX12_a hS) (fun r11 hc12 => ?_)
                      rfl
                    · rfl
def gX12_plain_b100  (σ : Shp) (R : Nat → Nat → Option Nat) (I : Nat → Nat → Int32) (J : Nat → Nat → Int64) (x1 : Int32) : Option ((Nat → Nat → Int32) × (Nat → Nat → Int64) × (Int32)) :=
  (gX12_a I).bind fun r35 =>
  if ¬ (r35 < 0 ∨ 16 ≤ Int32.toNatClampNeg r35) then
  let v38 := (I 115 (Int32.toNatClampNeg r35))
  (gX12_b I).bind fun r39 =>
  (gX12_against I v38 (4 : Int32) r39).bind fun r41 =>
  if r41 = 0 then
    if x1 = (3 : Int32) then
      if ¬ (v38 < 0 ∨ 4100 ≤ Int32.toNatClampNeg v38) then
      (gX12_b I).bind fun r53 =>
      (gX12_c I).bind fun r55 =>
      (gX12_setCell I J ((I 118 (Int32.toNatClampNeg v38)) + r53) (Int32.toInt64 r55)).bind fun (I57, J58) =>
      some (I57, J58, (0 : Int32))
      else none
    else
      (gX12_c I).bind fun r43 =>
      if ¬ (v38 < 0 ∨ 4100 ≤ Int32.toNatClampNeg v38) then
      (gX12_b I).bind fun r46 =>
      if ¬ (((I 118 (Int32.toNatClampNeg v38)) + r46) < 0 ∨ 164000 ≤ Int32.toNatClampNeg ((I 118 (Int32.toNatClampNeg v38)) + r46)) then
      (gX12_changeStock I J r43 (J 119 (Int32.toNatClampNeg ((I 118 (Int32.toNatClampNeg v38)) + r46)))).bind fun (I49, J50) =>
      some (I49, J50, (0 : Int32))
      else none
      else none
  else
    some (I, J, r41)
  else none
theorem eX12_plain_b100 {σ : Shp} {I : Nat → Nat → Int32} {J : Nat → Nat → Int64} {R : Nat → Nat → Option Nat} {x1 : Int32} (hS : Skel σ R) : fX12_plain_b100 σ R 114 I J x1 = gX12_plain_b100 σ R I J x1 := by
  unfold fX12_plain_b100 gX12_plain_b100
  refine sg (kq114 hS) ?_
  refine sb (rq114_3 hS) ?_
  try with_reducible refine sg (kq114 hS) ?_
  refine bc (eX12_a hS) (fun r35 hc36 => ?_)
  refine sg (kq115 hS) ?_
  refine bgr (by rw [lq115 hS]) (fun g37 => ?_)
  try with_reducible refine sg (kq114 hS) ?_
  refine bc (eX12_b hS) (fun r39 hc40 => ?_)
  try with_reducible refine sg (kq114 hS) ?_
  refine bc (eX12_against hS) (fun r41 hc42 => ?_)
  refine bi (fun c => ?_) (fun c => ?_)
  · refine bi (fun c => ?_) (fun c => ?_)
    · try with_reducible refine sg (kq114 hS) ?_
      refine sb (rq114_6 hS) ?_
      refine sg (kq118 hS) ?_
      refine bgr (by rw [lq118 hS]) (fun g52 => ?_)
      try with_reducible refine sg (kq114 hS) ?_
      refine bc (eX12_b hS) (fun r53 hc54 => ?_)
      try with_reducible refine sg (kq114 hS) ?_
      refine bc (eX12_c hS) (fun r55 hc56 => ?_)
      try with_reducible refine sg (kq114 hS) ?_
      refine bc (eX12_setCell hS) (fun pp hc59 => ?_)
      obtain ⟨I57, J58⟩ := pp
      rfl
    · try with_reducible refine sg (kq114 hS) ?_
      refine bc (eX12_c hS) (fun r43 hc44 => ?_)
      try with_reducible refine sg (kq114 hS) ?_
      refine sb (rq114_8 hS) ?_
      try with_reducible refine sg (kq114 hS) ?_
      refine sb (rq114_6 hS) ?_
      refine sg (kq118 hS) ?_
      refine bgr (by rw [lq118 hS]) (fun g45 => ?_)
      try with_reducible refine sg (kq114 hS) ?_
      refine bc (eX12_b hS) (fun r46 hc47 => ?_)
      refine sg (kq119 hS) ?_
      refine bgr (by rw [lq119 hS]) (fun g48 => ?_)
      try with_reducible refine sg (kq114 hS) ?_
      refine bc (eX12_changeStock hS) (fun pp hc51 => ?_)
      obtain ⟨I49, J50⟩ := pp
      rfl
  · rfl
def gX12_plain (σ : Shp) (I : Nat → Nat → Int32) (J : Nat → Nat → Int64) (R : Nat → Nat → Option Nat) (x1 : Int32) : Option ((Nat → Nat → Int32) × (Nat → Nat → Int64) × (Int32)) :=
  if x1 = (1 : Int32) then
    (gX12_a I).bind fun r73 =>
    (gX12_a I).bind fun r75 =>
    if ¬ (r75 < 0 ∨ 6 ≤ Int32.toNatClampNeg r75) then
    (gX12_b I).bind fun r78 =>
    (gX12_changeStock I J r73 ((J 139 (Int32.toNatClampNeg r75)) + (Int32.toInt64 r78))).bind fun (I80, J81) =>
    some (I80, J81, (0 : Int32))
    else none
  else
  if x1 = (2 : Int32) then
    (gX12_b I).bind fun r60 =>
    if r60 = 0 then
      some (I, J, (6 : Int32))
    else
      (gX12_a I).bind fun r62 =>
      (gX12_a I).bind fun r64 =>
      if ¬ (r64 < 0 ∨ 6 ≤ Int32.toNatClampNeg r64) then
      (gX12_b I).bind fun r67 =>
      if ¬ (Int32.toInt64 r67) = 0 then
      (gX12_changeStock I J r62 ((J 139 (Int32.toNatClampNeg r64)) / (Int32.toInt64 r67))).bind fun (I70, J71) =>
      some (I70, J71, (0 : Int32))
      else none
      else none
  else
  if x1 = (3 : Int32) then
    gX12_plain_b100 σ R I J x1
  else
  if x1 = (4 : Int32) then
    gX12_plain_b100 σ R I J x1
  else
  if x1 = (5 : Int32) then
    (gX12_a I).bind fun r23 =>
    if ¬ (r23 < 0 ∨ 16 ≤ Int32.toNatClampNeg r23) then
    let v26 := (I 115 (Int32.toNatClampNeg r23))
    (gX12_againstCard I v26).bind fun r27 =>
    if r27 = 0 then
      if ¬ (v26 < 0 ∨ 4100 ≤ Int32.toNatClampNeg v26) then
      (gX12_b I).bind fun r30 =>
      (gX12_setCell I J ((I 118 (Int32.toNatClampNeg v26)) + (4 : Int32)) (Int32.toInt64 r30)).bind fun (I32, J33) =>
      some (I32, J33, r27)
      else none
    else
      some (I, J, r27)
    else none
  else
  if x1 = (6 : Int32) then
    (gX12_a I).bind fun r10 =>
    if ¬ (r10 < 0 ∨ 16 ≤ Int32.toNatClampNeg r10) then
    (gX12_b I).bind fun r13 =>
    (gX12_askOf σ I R (I 115 (Int32.toNatClampNeg r10)) r13).bind fun (I15, r16) =>
    if r16 = 0 then
      (gX12_c I15).bind fun r18 =>
      (gX12_changeStock I15 J r18 (Int32.toInt64 (I15 114 29))).bind fun (I20, J21) =>
      some (I20, J21, r16)
    else
      some (I15, J, r16)
    else none
  else
  (gX12_a I).bind fun r7 =>
  if ¬ (r7 < 0 ∨ 3 ≤ Int32.toNatClampNeg r7) then
  if (I 141 (Int32.toNatClampNeg r7)) = 0 then
    some (I, J, (7 : Int32))
  else
    some (I, J, (0 : Int32))
  else none
theorem eX12_plain {σ : Shp} {I : Nat → Nat → Int32} {J : Nat → Nat → Int64} {R : Nat → Nat → Option Nat} {x1 : Int32} (hS : Skel σ R) : fX12_plain σ I J R 114 x1 = gX12_plain σ I J R x1 := by
  unfold fX12_plain gX12_plain
  refine bi (fun c => ?_) (fun c => ?_)
  · refine sg (kq114 hS) ?_
    refine bc (eX12_a hS) (fun r73 hc74 => ?_)
    try with_reducible refine sg (kq114 hS) ?_
    refine sb (rq114_38 hS) ?_
    try with_reducible refine sg (kq114 hS) ?_
    refine bc (eX12_a hS) (fun r75 hc76 => ?_)
    refine sg (kq139 hS) ?_
    refine bgr (by rw [lq139 hS]) (fun g77 => ?_)
    try with_reducible refine sg (kq114 hS) ?_
    refine bc (eX12_b hS) (fun r78 hc79 => ?_)
    try with_reducible refine sg (kq114 hS) ?_
    refine bc (eX12_changeStock hS) (fun pp hc82 => ?_)
    obtain ⟨I80, J81⟩ := pp
    rfl
  · refine bi (fun c => ?_) (fun c => ?_)
    · refine sg (kq114 hS) ?_
      refine bc (eX12_b hS) (fun r60 hc61 => ?_)
      refine bi (fun c => ?_) (fun c => ?_)
      · rfl
      · try with_reducible refine sg (kq114 hS) ?_
        refine bc (eX12_a hS) (fun r62 hc63 => ?_)
        try with_reducible refine sg (kq114 hS) ?_
        refine sb (rq114_38 hS) ?_
        try with_reducible refine sg (kq114 hS) ?_
        refine bc (eX12_a hS) (fun r64 hc65 => ?_)
        refine sg (kq139 hS) ?_
        refine bgr (by rw [lq139 hS]) (fun g66 => ?_)
        try with_reducible refine sg (kq114 hS) ?_
        refine bc (eX12_b hS) (fun r67 hc68 => ?_)
        refine bg (fun g69 => ?_)
        try with_reducible refine sg (kq114 hS) ?_
        refine bc (eX12_changeStock hS) (fun pp hc72 => ?_)
        obtain ⟨I70, J71⟩ := pp
        rfl
    · refine bi (fun c => ?_) (fun c => ?_)
      · exact eX12_plain_b100 hS
      · refine bi (fun c => ?_) (fun c => ?_)
        · exact eX12_plain_b100 hS
        · refine bi (fun c => ?_) (fun c => ?_)
          · refine sg (kq114 hS) ?_
            refine sb (rq114_3 hS) ?_
            try with_reducible refine sg (kq114 hS) ?_
            refine bc (eX12_a hS) (fun r23 hc24 => ?_)
            refine sg (kq115 hS) ?_
            refine bgr (by rw [lq115 hS]) (fun g25 => ?_)
            try with_reducible refine sg (kq114 hS) ?_
            refine bc (eX12_againstCard hS) (fun r27 hc28 => ?_)
            refine bi (fun c => ?_) (fun c => ?_)
            · try with_reducible refine sg (kq114 hS) ?_
              refine sb (rq114_6 hS) ?_
              refine sg (kq118 hS) ?_
              refine bgr (by rw [lq118 hS]) (fun g29 => ?_)
              try with_reducible refine sg (kq114 hS) ?_
              refine bc (eX12_b hS) (fun r30 hc31 => ?_)
              try with_reducible refine sg (kq114 hS) ?_
              refine bc (eX12_setCell hS) (fun pp hc34 => ?_)
              obtain ⟨I32, J33⟩ := pp
              rfl
            · rfl
          · refine bi (fun c => ?_) (fun c => ?_)
            · refine sg (kq114 hS) ?_
              refine sb (rq114_3 hS) ?_
              try with_reducible refine sg (kq114 hS) ?_
              refine bc (eX12_a hS) (fun r10 hc11 => ?_)
              refine sg (kq115 hS) ?_
              refine bgr (by rw [lq115 hS]) (fun g12 => ?_)
              try with_reducible refine sg (kq114 hS) ?_
              refine bc (eX12_b hS) (fun r13 hc14 => ?_)
              try with_reducible refine sg (kq114 hS) ?_
              refine bc (eX12_askOf hS) (fun pp hc17 => ?_)
              obtain ⟨I15, r16⟩ := pp
              refine bi (fun c => ?_) (fun c => ?_)
              · try with_reducible refine sg (kq114 hS) ?_
                refine bc (eX12_c hS) (fun r18 hc19 => ?_)
                try with_reducible refine sg (kq114 hS) ?_
                try with_reducible refine sg (kq114 hS) ?_
                refine bc (eX12_changeStock hS) (fun pp hc22 => ?_)
                obtain ⟨I20, J21⟩ := pp
                rfl
              · rfl
            · refine sg (kq114 hS) ?_
              refine sb (rq114_40 hS) ?_
              try with_reducible refine sg (kq114 hS) ?_
              refine bc (eX12_a hS) (fun r7 hc8 => ?_)
              refine sg (kq141 hS) ?_
              refine bgr (by rw [lq141 hS]) (fun g9 => ?_)
              refine bi (fun c => ?_) (fun c => ?_)
              · rfl
              · rfl
def gX12_isStep (I : Nat → Nat → Int32) : Option ((Nat → Nat → Int32) × (Int32)) :=
  if (I 114 65) = (300 : Int32) then
    let I2 := u2 I 114 59 (3 : Int32)
    some (I2, (0 : Int32))
  else
    let I1 := u2 I 114 65 ((I 114 65) + (1 : Int32))
    some (I1, (1 : Int32))
theorem eX12_isStep {σ : Shp} {I : Nat → Nat → Int32} {R : Nat → Nat → Option Nat}  (hS : Skel σ R) : fX12_isStep σ I 114 = gX12_isStep I := by
  unfold fX12_isStep gX12_isStep
  refine sg (kq114 hS) ?_
  refine bi (fun c => ?_) (fun c => ?_)
  · try with_reducible refine sg (kq114 hS) ?_
    rfl
  · try with_reducible refine sg (kq114 hS) ?_
    try with_reducible refine sg (kq114 hS) ?_
    rfl
def gX12_call (σ : Shp) (I : Nat → Nat → Int32) (R : Nat → Nat → Option Nat) : Option ((Nat → Nat → Int32)) :=
  (gX12_a I).bind fun r1 =>
  (gX12_wrong σ I R r1).bind fun (I3, r4) =>
  if r4 = (-1 : Int32) then
    if (I3 114 66) = (6 : Int32) then
      (gX12_fails σ I3 (8 : Int32) (99 : Int32)).bind fun I13 =>
      some I13
    else
      (gX12_a I3).bind fun r6 =>
      (gX12_push I3 (10 : Int32)).bind fun I8 =>
      let I10 := u2 I8 114 66 ((I8 114 66) + (1 : Int32))
      let I11 := u2 I10 114 57 r6
      let I12 := u2 I11 114 58 (0 : Int32)
      some I12
  else
    (gX12_fails σ I3 (8 : Int32) (98 : Int32)).bind fun I15 =>
    some I15
theorem eX12_call {σ : Shp} {I : Nat → Nat → Int32} {R : Nat → Nat → Option Nat}  (hS : Skel σ R) : fX12_call σ I R 114 = gX12_call σ I R := by
  unfold fX12_call gX12_call
  refine sg (kq114 hS) ?_
  refine bc (eX12_a hS) (fun r1 hc2 => ?_)
  try with_reducible refine sg (kq114 hS) ?_
  refine bc (eX12_wrong hS) (fun pp hc5 => ?_)
  obtain ⟨I3, r4⟩ := pp
  refine bi (fun c => ?_) (fun c => ?_)
  · try with_reducible refine sg (kq114 hS) ?_
    refine bi (fun c => ?_) (fun c => ?_)
    · try with_reducible refine sg (kq114 hS) ?_
      refine bc (eX12_fails hS) (fun I13 hc14 => ?_)
      rfl
    · try with_reducible refine sg (kq114 hS) ?_
      refine bc (eX12_a hS) (fun r6 hc7 => ?_)
      try with_reducible refine sg (kq114 hS) ?_
      refine bc (eX12_push hS) (fun I8 hc9 => ?_)
      try with_reducible refine sg (kq114 hS) ?_
      try with_reducible refine sg (kq114 hS) ?_
      try with_reducible refine sg (kq114 hS) ?_
      try with_reducible refine sg (kq114 hS) ?_
      rfl
  · try with_reducible refine sg (kq114 hS) ?_
    refine bc (eX12_fails hS) (fun I15 hc16 => ?_)
    rfl
def gX12_begin (σ : Shp) (I : Nat → Nat → Int32) (J : Nat → Nat → Int64) (R : Nat → Nat → Option Nat) (x1 : Int32) : Option ((Nat → Nat → Int32) × (Nat → Nat → Int64)) :=
  (gX12_isStep I).bind fun (I1, r2) =>
  if r2 = 0 then
    some (I1, J)
  else
    if (fX12_hasBody x1) = 0 then
      (gX12_areNumbers I1 x1).bind fun r4 =>
      if r4 = 0 then
        (gX12_fails σ I1 (2 : Int32) (0 : Int32)).bind fun I23 =>
        some (I23, J)
      else
        if x1 = (7 : Int32) then
          (gX12_a I1).bind fun r19 =>
          (gX12_fails σ I1 (8 : Int32) r19).bind fun I21 =>
          some (I21, J)
        else
          if x1 = (8 : Int32) then
            let I15 := u2 I1 114 59 (2 : Int32)
            (gX12_a I15).bind fun r16 =>
            let I18 := u2 I15 114 64 r16
            some (I18, J)
          else
            if x1 = (10 : Int32) then
              (gX12_call σ I1 R).bind fun I13 =>
              some (I13, J)
            else
              (gX12_plain σ I1 J R x1).bind fun (I6, J7, r8) =>
              if r8 = 0 then
                let I10 := u2 I6 114 58 ((I6 114 58) + (1 : Int32))
                some (I10, J7)
              else
                (gX12_fails σ I6 r8 (0 : Int32)).bind fun I11 =>
                some (I11, J7)
    else
      (gX12_enter σ I1 J R x1).bind fun (I25, J26) =>
      some (I25, J26)
theorem eX12_begin {σ : Shp} {I : Nat → Nat → Int32} {J : Nat → Nat → Int64} {R : Nat → Nat → Option Nat} {x1 : Int32} (hS : Skel σ R) : fX12_begin σ I J R 114 x1 = gX12_begin σ I J R x1 := by
  unfold fX12_begin gX12_begin
  refine sg (kq114 hS) ?_
  refine bc (eX12_isStep hS) (fun pp hc3 => ?_)
  obtain ⟨I1, r2⟩ := pp
  refine bi (fun c => ?_) (fun c => ?_)
  · rfl
  · refine bi (fun c => ?_) (fun c => ?_)
    · try with_reducible refine sg (kq114 hS) ?_
      refine bc (eX12_areNumbers hS) (fun r4 hc5 => ?_)
      refine bi (fun c => ?_) (fun c => ?_)
      · try with_reducible refine sg (kq114 hS) ?_
        refine bc (eX12_fails hS) (fun I23 hc24 => ?_)
        rfl
      · refine bi (fun c => ?_) (fun c => ?_)
        · try with_reducible refine sg (kq114 hS) ?_
          refine bc (eX12_a hS) (fun r19 hc20 => ?_)
          try with_reducible refine sg (kq114 hS) ?_
          refine bc (eX12_fails hS) (fun I21 hc22 => ?_)
          rfl
        · refine bi (fun c => ?_) (fun c => ?_)
          · try with_reducible refine sg (kq114 hS) ?_
            try with_reducible refine sg (kq114 hS) ?_
            refine bc (eX12_a hS) (fun r16 hc17 => ?_)
            try with_reducible refine sg (kq114 hS) ?_
            rfl
          · refine bi (fun c => ?_) (fun c => ?_)
            · try with_reducible refine sg (kq114 hS) ?_
              refine bc (eX12_call hS) (fun I13 hc14 => ?_)
              rfl
            · try with_reducible refine sg (kq114 hS) ?_
              refine bc (eX12_plain hS) (fun pp hc9 => ?_)
              obtain ⟨I6, J7, r8⟩ := pp
              refine bi (fun c => ?_) (fun c => ?_)
              · try with_reducible refine sg (kq114 hS) ?_
                try with_reducible refine sg (kq114 hS) ?_
                rfl
              · try with_reducible refine sg (kq114 hS) ?_
                refine bc (eX12_fails hS) (fun I11 hc12 => ?_)
                rfl
    · try with_reducible refine sg (kq114 hS) ?_
      refine bc (eX12_enter hS) (fun pp hc27 => ?_)
      obtain ⟨I25, J26⟩ := pp
      rfl
def gX12_giveBack (I : Nat → Nat → Int32) (J : Nat → Nat → Int64) (x1 : Int32) : Option ((Nat → Nat → Int32) × (Nat → Nat → Int64)) :=
  if ¬ (x1 < 0 ∨ 400 ≤ Int32.toNatClampNeg x1) then
  if ¬ (x1 < 0 ∨ 400 ≤ Int32.toNatClampNeg x1) then
  let v3 := (((40 : Int32) * (I 144 (Int32.toNatClampNeg x1))) + (I 145 (Int32.toNatClampNeg x1)))
  if ¬ (x1 < 0 ∨ 400 ≤ Int32.toNatClampNeg x1) then
  if (I 143 (Int32.toNatClampNeg x1)) = (11 : Int32) then
    if ¬ (v3 < 0 ∨ 160 ≤ Int32.toNatClampNeg v3) then
    if ¬ ((I 136 (Int32.toNatClampNeg v3)) < 0 ∨ 3 ≤ Int32.toNatClampNeg (I 136 (Int32.toNatClampNeg v3))) then
    let I17 := u2 I 141 (Int32.toNatClampNeg (I 136 (Int32.toNatClampNeg v3))) ((I 141 (Int32.toNatClampNeg (I 136 (Int32.toNatClampNeg v3)))) - (1 : Int32))
    some (I17, J)
    else none
    else none
  else
    if (I 143 (Int32.toNatClampNeg x1)) = (12 : Int32) then
      if ¬ (v3 < 0 ∨ 160 ≤ Int32.toNatClampNeg v3) then
      if ¬ ((I 136 (Int32.toNatClampNeg v3)) < 0 ∨ 6 ≤ Int32.toNatClampNeg (I 136 (Int32.toNatClampNeg v3))) then
      if ¬ (v3 < 0 ∨ 160 ≤ Int32.toNatClampNeg v3) then
      (gX12_changeStock I J (I 136 (Int32.toNatClampNeg v3)) ((J 139 (Int32.toNatClampNeg (I 136 (Int32.toNatClampNeg v3)))) + (Int32.toInt64 (I 137 (Int32.toNatClampNeg v3))))).bind fun (I12, J13) =>
      some (I12, J13)
      else none
      else none
      else none
    else
      if (I 143 (Int32.toNatClampNeg x1)) = (13 : Int32) then
        if ¬ (v3 < 0 ∨ 160 ≤ Int32.toNatClampNeg v3) then
        if ¬ (v3 < 0 ∨ 160 ≤ Int32.toNatClampNeg v3) then
        if ¬ ((I 136 (Int32.toNatClampNeg v3)) < 0 ∨ 3 ≤ Int32.toNatClampNeg (I 136 (Int32.toNatClampNeg v3))) then
        let I8 := u2 I 140 (Int32.toNatClampNeg (I 136 (Int32.toNatClampNeg v3))) (I 138 (Int32.toNatClampNeg v3))
        some (I8, J)
        else none
        else none
        else none
      else
        some (I, J)
  else none
  else none
  else none
theorem eX12_giveBack {σ : Shp} {I : Nat → Nat → Int32} {J : Nat → Nat → Int64} {R : Nat → Nat → Option Nat} {x1 : Int32} (hS : Skel σ R) : fX12_giveBack σ I J R 114 x1 = gX12_giveBack I J x1 := by
  unfold fX12_giveBack gX12_giveBack
  refine sg (kq114 hS) ?_
  refine sb (rq114_44 hS) ?_
  refine sg (kq144 hS) ?_
  refine bgr (by rw [lq144 hS]) (fun g1 => ?_)
  try with_reducible refine sg (kq114 hS) ?_
  refine sb (rq114_45 hS) ?_
  refine sg (kq145 hS) ?_
  refine bgr (by rw [lq145 hS]) (fun g2 => ?_)
  try with_reducible refine sg (kq114 hS) ?_
  refine sb (rq114_43 hS) ?_
  refine sg (kq143 hS) ?_
  refine bgr (by rw [lq143 hS]) (fun g4 => ?_)
  refine bi (fun c => ?_) (fun c => ?_)
  · try with_reducible refine sg (kq114 hS) ?_
    refine sb (rq114_40 hS) ?_
    try with_reducible refine sg (kq114 hS) ?_
    refine sb (rq114_35 hS) ?_
    refine sg (kq136 hS) ?_
    refine bgr (by rw [lq136 hS]) (fun g15 => ?_)
    refine sg (kq141 hS) ?_
    refine bgr (by rw [lq141 hS]) (fun g16 => ?_)
    try with_reducible refine sg (kq141 hS) ?_
    try with_reducible refine sg (by rw [lq141 hS]; exact g16) ?_
    rfl
  · try with_reducible refine sg (kq114 hS) ?_
    try with_reducible refine sg (kq143 hS) ?_
    try with_reducible refine sg (by rw [lq143 hS]; exact g4) ?_
    refine bi (fun c => ?_) (fun c => ?_)
    · try with_reducible refine sg (kq114 hS) ?_
      refine sb (rq114_35 hS) ?_
      refine sg (kq136 hS) ?_
      refine bgr (by rw [lq136 hS]) (fun g9 => ?_)
      try with_reducible refine sg (kq114 hS) ?_
      refine sb (rq114_38 hS) ?_
      try with_reducible refine sg (kq114 hS) ?_
      try with_reducible refine sg (kq136 hS) ?_
      try with_reducible refine sg (by rw [lq136 hS]; exact g9) ?_
      refine sg (kq139 hS) ?_
      refine bgr (by rw [lq139 hS]) (fun g10 => ?_)
      try with_reducible refine sg (kq114 hS) ?_
      refine sb (rq114_36 hS) ?_
      refine sg (kq137 hS) ?_
      refine bgr (by rw [lq137 hS]) (fun g11 => ?_)
      try with_reducible refine sg (kq114 hS) ?_
      refine bc (eX12_changeStock hS) (fun pp hc14 => ?_)
      obtain ⟨I12, J13⟩ := pp
      rfl
    · try with_reducible refine sg (kq114 hS) ?_
      try with_reducible refine sg (kq143 hS) ?_
      try with_reducible refine sg (by rw [lq143 hS]; exact g4) ?_
      refine bi (fun c => ?_) (fun c => ?_)
      · try with_reducible refine sg (kq114 hS) ?_
        refine sb (rq114_39 hS) ?_
        try with_reducible refine sg (kq114 hS) ?_
        refine sb (rq114_35 hS) ?_
        refine sg (kq136 hS) ?_
        refine bgr (by rw [lq136 hS]) (fun g5 => ?_)
        try with_reducible refine sg (kq114 hS) ?_
        refine sb (rq114_37 hS) ?_
        refine sg (kq138 hS) ?_
        refine bgr (by rw [lq138 hS]) (fun g6 => ?_)
        refine sg (kq140 hS) ?_
        refine bgr (by rw [lq140 hS]) (fun g7 => ?_)
        rfl
      · rfl
def gX12_behind_b40  (σ : Shp) (R : Nat → Nat → Option Nat) (I : Nat → Nat → Int32) (x1 : Int32) (x3 : Int32) : Option ((Nat → Nat → Int32)) :=
  let I2 := u2 I 114 57 x1
  let I3 := u2 I2 114 58 x3
  if ¬ (x1 < 0 ∨ 4 ≤ Int32.toNatClampNeg x1) then
  if (I3 134 (Int32.toNatClampNeg x1)) ≤ x3 then
    some I3
  else
    if ¬ ((((40 : Int32) * x1) + x3) < 0 ∨ 160 ≤ Int32.toNatClampNeg (((40 : Int32) * x1) + x3)) then
    if (I3 135 (Int32.toNatClampNeg (((40 : Int32) * x1) + x3))) = (18 : Int32) then
      (gX12_push I3 (18 : Int32)).bind fun I6 =>
      let v8 := ((I6 114 42) - (1 : Int32))
      if ¬ (v8 < 0 ∨ 400 ≤ Int32.toNatClampNeg v8) then
      let I10 := u2 I6 148 (Int32.toNatClampNeg v8) (I6 114 59)
      if ¬ (v8 < 0 ∨ 400 ≤ Int32.toNatClampNeg v8) then
      let I12 := u2 I10 149 (Int32.toNatClampNeg v8) (I10 114 60)
      if ¬ (v8 < 0 ∨ 400 ≤ Int32.toNatClampNeg v8) then
      let I14 := u2 I12 150 (Int32.toNatClampNeg v8) (I12 114 61)
      if ¬ (v8 < 0 ∨ 400 ≤ Int32.toNatClampNeg v8) then
      let I16 := u2 I14 151 (Int32.toNatClampNeg v8) (I14 114 62)
      if ¬ (v8 < 0 ∨ 400 ≤ Int32.toNatClampNeg v8) then
      let I18 := u2 I16 152 (Int32.toNatClampNeg v8) (I16 114 63)
      if ¬ (v8 < 0 ∨ 400 ≤ Int32.toNatClampNeg v8) then
      let I20 := u2 I18 153 (Int32.toNatClampNeg v8) (I18 114 64)
      let I21 := u2 I20 114 59 (0 : Int32)
      let I22 := u2 I21 114 68 ((I21 114 68) + (1 : Int32))
      let I23 := u2 I22 114 58 (x3 + (1 : Int32))
      some I23
      else none
      else none
      else none
      else none
      else none
      else none
    else
      some I3
    else none
  else none
theorem eX12_behind_b40 {σ : Shp} {I : Nat → Nat → Int32} {R : Nat → Nat → Option Nat} {x1 : Int32} {x3 : Int32} (hS : Skel σ R) : fX12_behind_b40 σ R 114 I x1 x3 = gX12_behind_b40 σ R I x1 x3 := by
  unfold fX12_behind_b40 gX12_behind_b40
  refine sg (kq114 hS) ?_
  try with_reducible refine sg (kq114 hS) ?_
  try with_reducible refine sg (kq114 hS) ?_
  refine sb (rq114_33 hS) ?_
  refine sg (kq134 hS) ?_
  refine bgr (by rw [lq134 hS]) (fun g4 => ?_)
  refine bi (fun c => ?_) (fun c => ?_)
  · rfl
  · try with_reducible refine sg (kq114 hS) ?_
    refine sb (rq114_34 hS) ?_
    refine sg (kq135 hS) ?_
    refine bgr (by rw [lq135 hS]) (fun g5 => ?_)
    refine bi (fun c => ?_) (fun c => ?_)
    · try with_reducible refine sg (kq114 hS) ?_
      refine bc (eX12_push hS) (fun I6 hc7 => ?_)
      try with_reducible refine sg (kq114 hS) ?_
      try with_reducible refine sg (kq114 hS) ?_
      refine sb (rq114_48 hS) ?_
      try with_reducible refine sg (kq114 hS) ?_
      refine sg (kq148 hS) ?_
      refine bgr (by rw [lq148 hS]) (fun g9 => ?_)
      try with_reducible refine sg (kq114 hS) ?_
      refine sb (rq114_49 hS) ?_
      try with_reducible refine sg (kq114 hS) ?_
      refine sg (kq149 hS) ?_
      refine bgr (by rw [lq149 hS]) (fun g11 => ?_)
      try with_reducible refine sg (kq114 hS) ?_
      refine sb (rq114_50 hS) ?_
      try with_reducible refine sg (kq114 hS) ?_
      refine sg (kq150 hS) ?_
      refine bgr (by rw [lq150 hS]) (fun g13 => ?_)
      try with_reducible refine sg (kq114 hS) ?_
      refine sb (rq114_51 hS) ?_
      try with_reducible refine sg (kq114 hS) ?_
      refine sg (kq151 hS) ?_
      refine bgr (by rw [lq151 hS]) (fun g15 => ?_)
      try with_reducible refine sg (kq114 hS) ?_
      refine sb (rq114_52 hS) ?_
      try with_reducible refine sg (kq114 hS) ?_
      refine sg (kq152 hS) ?_
      refine bgr (by rw [lq152 hS]) (fun g17 => ?_)
      try with_reducible refine sg (kq114 hS) ?_
      refine sb (rq114_53 hS) ?_
      try with_reducible refine sg (kq114 hS) ?_
      refine sg (kq153 hS) ?_
      refine bgr (by rw [lq153 hS]) (fun g19 => ?_)
      try with_reducible refine sg (kq114 hS) ?_
      try with_reducible refine sg (kq114 hS) ?_
      try with_reducible refine sg (kq114 hS) ?_
      try with_reducible refine sg (kq114 hS) ?_
      rfl
    · rfl
def gX12_behind_l2  (σ : Shp) (R : Nat → Nat → Option Nat) : Nat → (Nat → Nat → Int32) → (Int32) → (Int32) → Option ((Nat → Nat → Int32))
  | 0, _, _, _ => none
  | n + 1, I, x1, x3 =>
    if ¬ (x1 < 0 ∨ 4 ≤ Int32.toNatClampNeg x1) then
    if (I 134 (Int32.toNatClampNeg x1)) ≤ x3 then
      gX12_behind_b40 σ R I x1 x3
    else
      if ¬ ((((40 : Int32) * x1) + x3) < 0 ∨ 160 ≤ Int32.toNatClampNeg (((40 : Int32) * x1) + x3)) then
      if (I 135 (Int32.toNatClampNeg (((40 : Int32) * x1) + x3))) = (17 : Int32) then
        (gX12_endOf σ I R x1 x3).bind fun r25 =>
        let v27 := (r25 + (1 : Int32))
        gX12_behind_l2 σ R n I x1 v27
      else
        gX12_behind_b40 σ R I x1 x3
      else none
    else none
theorem eX12_behind_l2 {σ : Shp} {R : Nat → Nat → Option Nat} (hS : Skel σ R) : ∀ (n : Nat) (I : Nat → Nat → Int32) (x1 : Int32) (x3 : Int32), fX12_behind_l2 σ R 114 n I x1 x3 = gX12_behind_l2 σ R n I x1 x3 := by
  intro n
  induction n with
  | zero => intro I x1 x3; rfl
  | succ n ih =>
    intro I x1 x3
    rw [fX12_behind_l2, gX12_behind_l2]
    refine sg (kq114 hS) ?_
    refine sb (rq114_33 hS) ?_
    refine sg (kq134 hS) ?_
    refine bgr (by rw [lq134 hS]) (fun g1 => ?_)
    refine bi (fun c => ?_) (fun c => ?_)
    · exact eX12_behind_b40 hS
    · try with_reducible refine sg (kq114 hS) ?_
      refine sb (rq114_34 hS) ?_
      refine sg (kq135 hS) ?_
      refine bgr (by rw [lq135 hS]) (fun g24 => ?_)
      refine bi (fun c => ?_) (fun c => ?_)
      · try with_reducible refine sg (kq114 hS) ?_
        refine bc (eX12_endOf hS) (fun r25 hc26 => ?_)
        exact ih _ _ _
      · exact eX12_behind_b40 hS
def gX12_behind (σ : Shp) (I : Nat → Nat → Int32) (R : Nat → Nat → Option Nat) (x1 : Int32) (x2 : Int32) : Option ((Nat → Nat → Int32)) :=
  gX12_behind_l2 σ R FUx I x1 x2
theorem eX12_behind {σ : Shp} {I : Nat → Nat → Int32} {R : Nat → Nat → Option Nat} {x1 : Int32} {x2 : Int32} (hS : Skel σ R) : fX12_behind σ I R 114 x1 x2 = gX12_behind σ I R x1 x2 := by
  unfold fX12_behind gX12_behind
  exact eX12_behind_l2 hS _ _ _ _
def gX12_close (σ : Shp) (I : Nat → Nat → Int32) (J : Nat → Nat → Int64) (R : Nat → Nat → Option Nat) : Option ((Nat → Nat → Int32) × (Nat → Nat → Int64)) :=
  let v1 := ((I 114 42) - (1 : Int32))
  if ¬ (v1 < 0 ∨ 400 ≤ Int32.toNatClampNeg v1) then
  let v3 := (I 143 (Int32.toNatClampNeg v1))
  (gX12_giveBack I J v1).bind fun (I4, J5) =>
  let I7 := u2 I4 114 42 ((I4 114 42) - (1 : Int32))
  let v8 := (I7 114 58)
  if v3 = (16 : Int32) then
    (gX12_behind σ I7 R (I7 114 57) (v8 + (1 : Int32))).bind fun I33 =>
    some (I33, J5)
  else
  if v3 = (17 : Int32) then
    (gX12_behind σ I7 R (I7 114 57) (v8 + (1 : Int32))).bind fun I31 =>
    some (I31, J5)
  else
  if v3 = (18 : Int32) then
    let I18 := u2 I7 114 58 (v8 + (1 : Int32))
    if ¬ (v1 < 0 ∨ 400 ≤ Int32.toNatClampNeg v1) then
    let I20 := u2 I18 114 59 (I18 148 (Int32.toNatClampNeg v1))
    if ¬ (v1 < 0 ∨ 400 ≤ Int32.toNatClampNeg v1) then
    let I22 := u2 I20 114 60 (I20 149 (Int32.toNatClampNeg v1))
    if ¬ (v1 < 0 ∨ 400 ≤ Int32.toNatClampNeg v1) then
    let I24 := u2 I22 114 61 (I22 150 (Int32.toNatClampNeg v1))
    if ¬ (v1 < 0 ∨ 400 ≤ Int32.toNatClampNeg v1) then
    let I26 := u2 I24 114 62 (I24 151 (Int32.toNatClampNeg v1))
    if ¬ (v1 < 0 ∨ 400 ≤ Int32.toNatClampNeg v1) then
    let I28 := u2 I26 114 63 (I26 152 (Int32.toNatClampNeg v1))
    if ¬ (v1 < 0 ∨ 400 ≤ Int32.toNatClampNeg v1) then
    let I30 := u2 I28 114 64 (I28 153 (Int32.toNatClampNeg v1))
    some (I30, J5)
    else none
    else none
    else none
    else none
    else none
    else none
  else
  if v3 = (19 : Int32) then
    let I17 := u2 I7 114 58 (v8 + (1 : Int32))
    some (I17, J5)
  else
  if v3 = (20 : Int32) then
    if ¬ (v1 < 0 ∨ 400 ≤ Int32.toNatClampNeg v1) then
    let I16 := u2 I7 114 58 (I7 145 (Int32.toNatClampNeg v1))
    some (I16, J5)
    else none
  else
  let I14 := u2 I7 114 58 (v8 + (1 : Int32))
  some (I14, J5)
  else none
theorem eX12_close {σ : Shp} {I : Nat → Nat → Int32} {J : Nat → Nat → Int64} {R : Nat → Nat → Option Nat}  (hS : Skel σ R) : fX12_close σ I J R 114 = gX12_close σ I J R := by
  unfold fX12_close gX12_close
  refine sg (kq114 hS) ?_
  try with_reducible refine sg (kq114 hS) ?_
  refine sb (rq114_43 hS) ?_
  refine sg (kq143 hS) ?_
  refine bgr (by rw [lq143 hS]) (fun g2 => ?_)
  try with_reducible refine sg (kq114 hS) ?_
  refine bc (eX12_giveBack hS) (fun pp hc6 => ?_)
  obtain ⟨I4, J5⟩ := pp
  try with_reducible refine sg (kq114 hS) ?_
  try with_reducible refine sg (kq114 hS) ?_
  try with_reducible refine sg (kq114 hS) ?_
  refine bi (fun c => ?_) (fun c => ?_)
  · try with_reducible refine sg (kq114 hS) ?_
    try with_reducible refine sg (kq114 hS) ?_
    refine bc (eX12_behind hS) (fun I33 hc34 => ?_)
    rfl
  · refine bi (fun c => ?_) (fun c => ?_)
    · try with_reducible refine sg (kq114 hS) ?_
      try with_reducible refine sg (kq114 hS) ?_
      refine bc (eX12_behind hS) (fun I31 hc32 => ?_)
      rfl
    · refine bi (fun c => ?_) (fun c => ?_)
      · try with_reducible refine sg (kq114 hS) ?_
        try with_reducible refine sg (kq114 hS) ?_
        refine sb (rq114_48 hS) ?_
        refine sg (kq148 hS) ?_
        refine bgr (by rw [lq148 hS]) (fun g19 => ?_)
        try with_reducible refine sg (kq114 hS) ?_
        try with_reducible refine sg (kq114 hS) ?_
        refine sb (rq114_49 hS) ?_
        refine sg (kq149 hS) ?_
        refine bgr (by rw [lq149 hS]) (fun g21 => ?_)
        try with_reducible refine sg (kq114 hS) ?_
        try with_reducible refine sg (kq114 hS) ?_
        refine sb (rq114_50 hS) ?_
        refine sg (kq150 hS) ?_
        refine bgr (by rw [lq150 hS]) (fun g23 => ?_)
        try with_reducible refine sg (kq114 hS) ?_
        try with_reducible refine sg (kq114 hS) ?_
        refine sb (rq114_51 hS) ?_
        refine sg (kq151 hS) ?_
        refine bgr (by rw [lq151 hS]) (fun g25 => ?_)
        try with_reducible refine sg (kq114 hS) ?_
        try with_reducible refine sg (kq114 hS) ?_
        refine sb (rq114_52 hS) ?_
        refine sg (kq152 hS) ?_
        refine bgr (by rw [lq152 hS]) (fun g27 => ?_)
        try with_reducible refine sg (kq114 hS) ?_
        try with_reducible refine sg (kq114 hS) ?_
        refine sb (rq114_53 hS) ?_
        refine sg (kq153 hS) ?_
        refine bgr (by rw [lq153 hS]) (fun g29 => ?_)
        try with_reducible refine sg (kq114 hS) ?_
        rfl
      · refine bi (fun c => ?_) (fun c => ?_)
        · try with_reducible refine sg (kq114 hS) ?_
          rfl
        · refine bi (fun c => ?_) (fun c => ?_)
          · try with_reducible refine sg (kq114 hS) ?_
            refine sb (rq114_45 hS) ?_
            refine sg (kq145 hS) ?_
            refine bgr (by rw [lq145 hS]) (fun g15 => ?_)
            try with_reducible refine sg (kq114 hS) ?_
            rfl
          · try with_reducible refine sg (kq114 hS) ?_
            rfl
def gX12_isMet_b62  (σ : Shp) (R : Nat → Nat → Option Nat) (I : Nat → Nat → Int32) (x1 : Int32) (x3 : Int32) : Option ((Nat → Nat → Int32) × (Int32)) :=
  let I8 := u2 I 114 57 x1
  let I9 := u2 I8 114 58 x3
  (gX12_push I9 (17 : Int32)).bind fun I10 =>
  if ¬ (((I10 114 42) - (1 : Int32)) < 0 ∨ 400 ≤ Int32.toNatClampNeg ((I10 114 42) - (1 : Int32))) then
  let I13 := u2 I10 149 (Int32.toNatClampNeg ((I10 114 42) - (1 : Int32))) (I10 114 60)
  let I14 := u2 I13 114 67 ((I13 114 67) + (1 : Int32))
  let I15 := u2 I14 114 59 (0 : Int32)
  let I16 := u2 I15 114 58 ((I15 114 58) + (1 : Int32))
  some (I16, (1 : Int32))
  else none
theorem eX12_isMet_b62 {σ : Shp} {I : Nat → Nat → Int32} {R : Nat → Nat → Option Nat} {x1 : Int32} {x3 : Int32} (hS : Skel σ R) : fX12_isMet_b62 σ R 114 I x1 x3 = gX12_isMet_b62 σ R I x1 x3 := by
  unfold fX12_isMet_b62 gX12_isMet_b62
  refine sg (kq114 hS) ?_
  try with_reducible refine sg (kq114 hS) ?_
  try with_reducible refine sg (kq114 hS) ?_
  refine bc (eX12_push hS) (fun I10 hc11 => ?_)
  try with_reducible refine sg (kq114 hS) ?_
  refine sb (rq114_49 hS) ?_
  try with_reducible refine sg (kq114 hS) ?_
  try with_reducible refine sg (kq114 hS) ?_
  refine sg (kq149 hS) ?_
  refine bgr (by rw [lq149 hS]) (fun g12 => ?_)
  try with_reducible refine sg (kq114 hS) ?_
  try with_reducible refine sg (kq114 hS) ?_
  try with_reducible refine sg (kq114 hS) ?_
  try with_reducible refine sg (kq114 hS) ?_
  try with_reducible refine sg (kq114 hS) ?_
  rfl
def gX12_isMet_l9  (σ : Shp) (R : Nat → Nat → Option Nat) : Nat → (Nat → Nat → Int32) → (Int32) → (Int32) → Option ((Nat → Nat → Int32) × (Int32))
  | 0, _, _, _ => none
  | n + 1, I, x1, x3 =>
    if ¬ (x1 < 0 ∨ 4 ≤ Int32.toNatClampNeg x1) then
    if (I 134 (Int32.toNatClampNeg x1)) ≤ x3 then
      some (I, (0 : Int32))
    else
      if ¬ ((((40 : Int32) * x1) + x3) < 0 ∨ 160 ≤ Int32.toNatClampNeg (((40 : Int32) * x1) + x3)) then
      if (I 135 (Int32.toNatClampNeg (((40 : Int32) * x1) + x3))) = (17 : Int32) then
        if ¬ ((((40 : Int32) * x1) + x3) < 0 ∨ 160 ≤ Int32.toNatClampNeg (((40 : Int32) * x1) + x3)) then
        let v7 := (I 136 (Int32.toNatClampNeg (((40 : Int32) * x1) + x3)))
        if v7 = 0 then
          gX12_isMet_b62 σ R I x1 x3
        else
          if v7 = (I 114 60) then
            gX12_isMet_b62 σ R I x1 x3
          else
            (gX12_endOf σ I R x1 x3).bind fun r17 =>
            let v19 := (r17 + (1 : Int32))
            gX12_isMet_l9 σ R n I x1 v19
        else none
      else
        some (I, (0 : Int32))
      else none
    else none
theorem eX12_isMet_l9 {σ : Shp} {R : Nat → Nat → Option Nat} (hS : Skel σ R) : ∀ (n : Nat) (I : Nat → Nat → Int32) (x1 : Int32) (x3 : Int32), fX12_isMet_l9 σ R 114 n I x1 x3 = gX12_isMet_l9 σ R n I x1 x3 := by
  intro n
  induction n with
  | zero => intro I x1 x3; rfl
  | succ n ih =>
    intro I x1 x3
    rw [fX12_isMet_l9, gX12_isMet_l9]
    refine sg (kq114 hS) ?_
    refine sb (rq114_33 hS) ?_
    refine sg (kq134 hS) ?_
    refine bgr (by rw [lq134 hS]) (fun g4 => ?_)
    refine bi (fun c => ?_) (fun c => ?_)
    · rfl
    · try with_reducible refine sg (kq114 hS) ?_
      refine sb (rq114_34 hS) ?_
      refine sg (kq135 hS) ?_
      refine bgr (by rw [lq135 hS]) (fun g5 => ?_)
      refine bi (fun c => ?_) (fun c => ?_)
      · try with_reducible refine sg (kq114 hS) ?_
        refine sb (rq114_35 hS) ?_
        refine sg (kq136 hS) ?_
        refine bgr (by rw [lq136 hS]) (fun g6 => ?_)
        refine bi (fun c => ?_) (fun c => ?_)
        · exact eX12_isMet_b62 hS
        · try with_reducible refine sg (kq114 hS) ?_
          refine bi (fun c => ?_) (fun c => ?_)
          · exact eX12_isMet_b62 hS
          · try with_reducible refine sg (kq114 hS) ?_
            refine bc (eX12_endOf hS) (fun r17 hc18 => ?_)
            exact ih _ _ _
      · rfl
def gX12_isMet (σ : Shp) (I : Nat → Nat → Int32) (R : Nat → Nat → Option Nat) (x1 : Int32) (x2 : Int32) : Option ((Nat → Nat → Int32) × (Int32)) :=
  (gX12_endOf σ I R x1 x2).bind fun r1 =>
  let v3 := (r1 + (1 : Int32))
  gX12_isMet_l9 σ R FUx I x1 v3
theorem eX12_isMet {σ : Shp} {I : Nat → Nat → Int32} {R : Nat → Nat → Option Nat} {x1 : Int32} {x2 : Int32} (hS : Skel σ R) : fX12_isMet σ I R 114 x1 x2 = gX12_isMet σ I R x1 x2 := by
  unfold fX12_isMet gX12_isMet
  refine sg (kq114 hS) ?_
  refine bc (eX12_endOf hS) (fun r1 hc2 => ?_)
  exact eX12_isMet_l9 hS _ _ _ _
def gX12_again (I : Nat → Nat → Int32) (x1 : Int32) : Option ((Nat → Nat → Int32)) :=
  if ¬ (x1 < 0 ∨ 400 ≤ Int32.toNatClampNeg x1) then
  if ¬ (x1 < 0 ∨ 400 ≤ Int32.toNatClampNeg x1) then
  let v3 := (((40 : Int32) * (I 144 (Int32.toNatClampNeg x1))) + (I 145 (Int32.toNatClampNeg x1)))
  if ¬ (x1 < 0 ∨ 400 ≤ Int32.toNatClampNeg x1) then
  if (I 143 (Int32.toNatClampNeg x1)) = (15 : Int32) then
    if ¬ (x1 < 0 ∨ 400 ≤ Int32.toNatClampNeg x1) then
    if ¬ (v3 < 0 ∨ 160 ≤ Int32.toNatClampNeg v3) then
    if (I 136 (Int32.toNatClampNeg v3)) ≤ (I 147 (Int32.toNatClampNeg x1)) then
      some I
    else
      (gX12_isStep I).bind fun (I7, r8) =>
      if r8 = 0 then
        some I7
      else
        let I10 := u2 I7 147 (Int32.toNatClampNeg x1) ((I7 147 (Int32.toNatClampNeg x1)) + (1 : Int32))
        let I11 := u2 I10 114 42 ((I10 114 42) + (1 : Int32))
        let I12 := u2 I11 114 59 (0 : Int32)
        let I13 := u2 I12 114 57 (I12 144 (Int32.toNatClampNeg x1))
        let I14 := u2 I13 114 58 ((I13 145 (Int32.toNatClampNeg x1)) + (1 : Int32))
        some I14
    else none
    else none
  else
    some I
  else none
  else none
  else none
theorem eX12_again {σ : Shp} {I : Nat → Nat → Int32} {R : Nat → Nat → Option Nat} {x1 : Int32} (hS : Skel σ R) : fX12_again σ I R 114 x1 = gX12_again I x1 := by
  unfold fX12_again gX12_again
  refine sg (kq114 hS) ?_
  refine sb (rq114_44 hS) ?_
  refine sg (kq144 hS) ?_
  refine bgr (by rw [lq144 hS]) (fun g1 => ?_)
  try with_reducible refine sg (kq114 hS) ?_
  refine sb (rq114_45 hS) ?_
  refine sg (kq145 hS) ?_
  refine bgr (by rw [lq145 hS]) (fun g2 => ?_)
  try with_reducible refine sg (kq114 hS) ?_
  refine sb (rq114_43 hS) ?_
  refine sg (kq143 hS) ?_
  refine bgr (by rw [lq143 hS]) (fun g4 => ?_)
  refine bi (fun c => ?_) (fun c => ?_)
  · try with_reducible refine sg (kq114 hS) ?_
    refine sb (rq114_47 hS) ?_
    refine sg (kq147 hS) ?_
    refine bgr (by rw [lq147 hS]) (fun g5 => ?_)
    try with_reducible refine sg (kq114 hS) ?_
    refine sb (rq114_35 hS) ?_
    refine sg (kq136 hS) ?_
    refine bgr (by rw [lq136 hS]) (fun g6 => ?_)
    refine bi (fun c => ?_) (fun c => ?_)
    · rfl
    · try with_reducible refine sg (kq114 hS) ?_
      refine bc (eX12_isStep hS) (fun pp hc9 => ?_)
      obtain ⟨I7, r8⟩ := pp
      refine bi (fun c => ?_) (fun c => ?_)
      · rfl
      · try with_reducible refine sg (kq114 hS) ?_
        try with_reducible refine sg (kq147 hS) ?_
        try with_reducible refine sg (by rw [lq147 hS]; exact g5) ?_
        try with_reducible refine sg (kq147 hS) ?_
        try with_reducible refine sg (by rw [lq147 hS]; exact g5) ?_
        try with_reducible refine sg (kq114 hS) ?_
        try with_reducible refine sg (kq114 hS) ?_
        try with_reducible refine sg (kq114 hS) ?_
        try with_reducible refine sg (kq114 hS) ?_
        try with_reducible refine sg (kq144 hS) ?_
        try with_reducible refine sg (by rw [lq144 hS]; exact g1) ?_
        try with_reducible refine sg (kq114 hS) ?_
        try with_reducible refine sg (kq114 hS) ?_
        try with_reducible refine sg (kq145 hS) ?_
        try with_reducible refine sg (by rw [lq145 hS]; exact g2) ?_
        try with_reducible refine sg (kq114 hS) ?_
        rfl
  · rfl
def gX12_leave_b47  (σ : Shp) (R : Nat → Nat → Option Nat) (I : Nat → Nat → Int32) (x1 : Int32) (x3 : Int32) : Option ((Nat → Nat → Int32)) :=
  if ¬ (x1 < 0 ∨ 4 ≤ Int32.toNatClampNeg x1) then
  if (I 134 (Int32.toNatClampNeg x1)) ≤ x3 then
    some I
  else
    if ¬ ((((40 : Int32) * x1) + x3) < 0 ∨ 160 ≤ Int32.toNatClampNeg (((40 : Int32) * x1) + x3)) then
    if (I 135 (Int32.toNatClampNeg (((40 : Int32) * x1) + x3))) = (18 : Int32) then
      (gX12_behind σ I R x1 x3).bind fun I7 =>
      some I7
    else
      some I
    else none
  else none
theorem eX12_leave_b47 {σ : Shp} {I : Nat → Nat → Int32} {R : Nat → Nat → Option Nat} {x1 : Int32} {x3 : Int32} (hS : Skel σ R) : fX12_leave_b47 σ R 114 I x1 x3 = gX12_leave_b47 σ R I x1 x3 := by
  unfold fX12_leave_b47 gX12_leave_b47
  refine sg (kq114 hS) ?_
  refine sb (rq114_33 hS) ?_
  refine sg (kq134 hS) ?_
  refine bgr (by rw [lq134 hS]) (fun g5 => ?_)
  refine bi (fun c => ?_) (fun c => ?_)
  · rfl
  · try with_reducible refine sg (kq114 hS) ?_
    refine sb (rq114_34 hS) ?_
    refine sg (kq135 hS) ?_
    refine bgr (by rw [lq135 hS]) (fun g6 => ?_)
    refine bi (fun c => ?_) (fun c => ?_)
    · try with_reducible refine sg (kq114 hS) ?_
      refine bc (eX12_behind hS) (fun I7 hc8 => ?_)
      rfl
    · rfl
def gX12_leave_l9  (σ : Shp) (R : Nat → Nat → Option Nat) : Nat → (Nat → Nat → Int32) → (Int32) → (Int32) → Option ((Nat → Nat → Int32))
  | 0, _, _, _ => none
  | n + 1, I, x1, x3 =>
    if ¬ (x1 < 0 ∨ 4 ≤ Int32.toNatClampNeg x1) then
    if (I 134 (Int32.toNatClampNeg x1)) ≤ x3 then
      gX12_leave_b47 σ R I x1 x3
    else
      if ¬ ((((40 : Int32) * x1) + x3) < 0 ∨ 160 ≤ Int32.toNatClampNeg (((40 : Int32) * x1) + x3)) then
      if (I 135 (Int32.toNatClampNeg (((40 : Int32) * x1) + x3))) = (17 : Int32) then
        (gX12_endOf σ I R x1 x3).bind fun r10 =>
        let v12 := (r10 + (1 : Int32))
        gX12_leave_l9 σ R n I x1 v12
      else
        gX12_leave_b47 σ R I x1 x3
      else none
    else none
theorem eX12_leave_l9 {σ : Shp} {R : Nat → Nat → Option Nat} (hS : Skel σ R) : ∀ (n : Nat) (I : Nat → Nat → Int32) (x1 : Int32) (x3 : Int32), fX12_leave_l9 σ R 114 n I x1 x3 = gX12_leave_l9 σ R n I x1 x3 := by
  intro n
  induction n with
  | zero => intro I x1 x3; rfl
  | succ n ih =>
    intro I x1 x3
    rw [fX12_leave_l9, gX12_leave_l9]
    refine sg (kq114 hS) ?_
    refine sb (rq114_33 hS) ?_
    refine sg (kq134 hS) ?_
    refine bgr (by rw [lq134 hS]) (fun g4 => ?_)
    refine bi (fun c => ?_) (fun c => ?_)
    · exact eX12_leave_b47 hS
    · try with_reducible refine sg (kq114 hS) ?_
      refine sb (rq114_34 hS) ?_
      refine sg (kq135 hS) ?_
      refine bgr (by rw [lq135 hS]) (fun g9 => ?_)
      refine bi (fun c => ?_) (fun c => ?_)
      · try with_reducible refine sg (kq114 hS) ?_
        refine bc (eX12_endOf hS) (fun r10 hc11 => ?_)
        exact ih _ _ _
      · exact eX12_leave_b47 hS
def gX12_leave (σ : Shp) (I : Nat → Nat → Int32) (R : Nat → Nat → Option Nat) (x1 : Int32) (x2 : Int32) : Option ((Nat → Nat → Int32)) :=
  (gX12_endOf σ I R x1 x2).bind fun r1 =>
  let v3 := (r1 + (1 : Int32))
  gX12_leave_l9 σ R FUx I x1 v3
theorem eX12_leave {σ : Shp} {I : Nat → Nat → Int32} {R : Nat → Nat → Option Nat} {x1 : Int32} {x2 : Int32} (hS : Skel σ R) : fX12_leave σ I R 114 x1 x2 = gX12_leave σ I R x1 x2 := by
  unfold fX12_leave gX12_leave
  refine sg (kq114 hS) ?_
  refine bc (eX12_endOf hS) (fun r1 hc2 => ?_)
  exact eX12_leave_l9 hS _ _ _ _
def gX12_unwind_b133  (σ : Shp) (R : Nat → Nat → Option Nat) (I : Nat → Nat → Int32) (J : Nat → Nat → Int64) (x1 : Int32) : Option ((Nat → Nat → Int32) × (Nat → Nat → Int64)) :=
  if (I 114 59) = (1 : Int32) then
    if ¬ (x1 < 0 ∨ 400 ≤ Int32.toNatClampNeg x1) then
    (gX12_undoTo σ I J R (I 146 (Int32.toNatClampNeg x1))).bind fun (I46, J47) =>
    (gX12_again I46 x1).bind fun I49 =>
    some (I49, J47)
    else none
  else
    some (I, J)
theorem eX12_unwind_b133 {σ : Shp} {I : Nat → Nat → Int32} {J : Nat → Nat → Int64} {R : Nat → Nat → Option Nat} {x1 : Int32} (hS : Skel σ R) : fX12_unwind_b133 σ R 114 I J x1 = gX12_unwind_b133 σ R I J x1 := by
  unfold fX12_unwind_b133 gX12_unwind_b133
  refine sg (kq114 hS) ?_
  refine bi (fun c => ?_) (fun c => ?_)
  · try with_reducible refine sg (kq114 hS) ?_
    refine sb (rq114_46 hS) ?_
    refine sg (kq146 hS) ?_
    refine bgr (by rw [lq146 hS]) (fun g45 => ?_)
    try with_reducible refine sg (kq114 hS) ?_
    refine bc (eX12_undoTo hS) (fun pp hc48 => ?_)
    obtain ⟨I46, J47⟩ := pp
    try with_reducible refine sg (kq114 hS) ?_
    refine bc (eX12_again hS) (fun I49 hc50 => ?_)
    rfl
  · rfl
def gX12_unwind (σ : Shp) (I : Nat → Nat → Int32) (J : Nat → Nat → Int64) (R : Nat → Nat → Option Nat) : Option ((Nat → Nat → Int32) × (Nat → Nat → Int64)) :=
  let I1 := u2 I 114 42 ((I 114 42) - (1 : Int32))
  let v2 := (I1 114 42)
  if ¬ (v2 < 0 ∨ 400 ≤ Int32.toNatClampNeg v2) then
  let v4 := (I1 144 (Int32.toNatClampNeg v2))
  if ¬ (v2 < 0 ∨ 400 ≤ Int32.toNatClampNeg v2) then
  let v6 := (I1 145 (Int32.toNatClampNeg v2))
  (gX12_giveBack I1 J v2).bind fun (I7, J8) =>
  if ¬ (v2 < 0 ∨ 400 ≤ Int32.toNatClampNeg v2) then
  if (I7 143 (Int32.toNatClampNeg v2)) = (10 : Int32) then
    let I51 := u2 I7 114 66 ((I7 114 66) - (1 : Int32))
    some (I51, J8)
  else
  if (I7 143 (Int32.toNatClampNeg v2)) = (11 : Int32) then
    some (I7, J8)
  else
  if (I7 143 (Int32.toNatClampNeg v2)) = (12 : Int32) then
    some (I7, J8)
  else
  if (I7 143 (Int32.toNatClampNeg v2)) = (13 : Int32) then
    some (I7, J8)
  else
  if (I7 143 (Int32.toNatClampNeg v2)) = (14 : Int32) then
    gX12_unwind_b133 σ R I7 J8 v2
  else
  if (I7 143 (Int32.toNatClampNeg v2)) = (15 : Int32) then
    gX12_unwind_b133 σ R I7 J8 v2
  else
  if (I7 143 (Int32.toNatClampNeg v2)) = (16 : Int32) then
    if (I7 114 59) = (1 : Int32) then
      (gX12_isMet σ I7 R v4 v6).bind fun (I40, r41) =>
      if r41 = 0 then
        if (I40 114 59) = (3 : Int32) then
          some (I40, J8)
        else
          (gX12_leave σ I40 R v4 v6).bind fun I43 =>
          some (I43, J8)
      else
        some (I40, J8)
    else
      if (I7 114 59) = (3 : Int32) then
        some (I7, J8)
      else
        (gX12_leave σ I7 R v4 v6).bind fun I38 =>
        some (I38, J8)
  else
  if (I7 143 (Int32.toNatClampNeg v2)) = (17 : Int32) then
    if (I7 114 59) = (1 : Int32) then
      if ¬ (v2 < 0 ∨ 400 ≤ Int32.toNatClampNeg v2) then
      let I35 := u2 I7 114 63 (I7 149 (Int32.toNatClampNeg v2))
      if (I35 114 59) = (3 : Int32) then
        some (I35, J8)
      else
        (gX12_leave σ I35 R v4 v6).bind fun I36 =>
        some (I36, J8)
      else none
    else
      let I31 := u2 I7 114 63 (I7 114 63)
      if (I31 114 59) = (3 : Int32) then
        some (I31, J8)
      else
        (gX12_leave σ I31 R v4 v6).bind fun I32 =>
        some (I32, J8)
  else
  if (I7 143 (Int32.toNatClampNeg v2)) = (18 : Int32) then
    if (I7 114 59) = (1 : Int32) then
      if ¬ (v2 < 0 ∨ 400 ≤ Int32.toNatClampNeg v2) then
      if (I7 148 (Int32.toNatClampNeg v2)) = (1 : Int32) then
        if ¬ (v2 < 0 ∨ 400 ≤ Int32.toNatClampNeg v2) then
        let I30 := u2 I7 114 63 (I7 149 (Int32.toNatClampNeg v2))
        some (I30, J8)
        else none
      else
        let I28 := u2 I7 114 63 (I7 114 63)
        some (I28, J8)
      else none
    else
      let I26 := u2 I7 114 63 (I7 114 63)
      some (I26, J8)
  else
  if (I7 143 (Int32.toNatClampNeg v2)) = (19 : Int32) then
    some (I7, J8)
  else
  if (I7 143 (Int32.toNatClampNeg v2)) = (20 : Int32) then
    some (I7, J8)
  else
  if (I7 143 (Int32.toNatClampNeg v2)) = (21 : Int32) then
    if (I7 114 59) = (1 : Int32) then
      (gX12_undoTo σ I7 J8 R (0 : Int32)).bind fun (I23, J24) =>
      some (I23, J24)
    else
      some (I7, J8)
  else
  some (I7, J8)
  else none
  else none
  else none
theorem eX12_unwind {σ : Shp} {I : Nat → Nat → Int32} {J : Nat → Nat → Int64} {R : Nat → Nat → Option Nat}  (hS : Skel σ R) : fX12_unwind σ I J R 114 = gX12_unwind σ I J R := by
  unfold fX12_unwind gX12_unwind
  refine sg (kq114 hS) ?_
  try with_reducible refine sg (kq114 hS) ?_
  try with_reducible refine sg (kq114 hS) ?_
  try with_reducible refine sg (kq114 hS) ?_
  refine sb (rq114_44 hS) ?_
  refine sg (kq144 hS) ?_
  refine bgr (by rw [lq144 hS]) (fun g3 => ?_)
  try with_reducible refine sg (kq114 hS) ?_
  refine sb (rq114_45 hS) ?_
  refine sg (kq145 hS) ?_
  refine bgr (by rw [lq145 hS]) (fun g5 => ?_)
  try with_reducible refine sg (kq114 hS) ?_
  refine bc (eX12_giveBack hS) (fun pp hc9 => ?_)
  obtain ⟨I7, J8⟩ := pp
  try with_reducible refine sg (kq114 hS) ?_
  refine sb (rq114_43 hS) ?_
  refine sg (kq143 hS) ?_
  refine bgr (by rw [lq143 hS]) (fun g10 => ?_)
  refine bi (fun c => ?_) (fun c => ?_)
  · try with_reducible refine sg (kq114 hS) ?_
    try with_reducible refine sg (kq114 hS) ?_
    rfl
  · refine bi (fun c => ?_) (fun c => ?_)
    · rfl
    · refine bi (fun c => ?_) (fun c => ?_)
      · rfl
      · refine bi (fun c => ?_) (fun c => ?_)
        · rfl
        · refine bi (fun c => ?_) (fun c => ?_)
          · exact eX12_unwind_b133 hS
          · refine bi (fun c => ?_) (fun c => ?_)
            · exact eX12_unwind_b133 hS
            · refine bi (fun c => ?_) (fun c => ?_)
              · try with_reducible refine sg (kq114 hS) ?_
                refine bi (fun c => ?_) (fun c => ?_)
                · try with_reducible refine sg (kq114 hS) ?_
                  refine bc (eX12_isMet hS) (fun pp hc42 => ?_)
                  obtain ⟨I40, r41⟩ := pp
                  refine bi (fun c => ?_) (fun c => ?_)
                  · try with_reducible refine sg (kq114 hS) ?_
                    refine bi (fun c => ?_) (fun c => ?_)
                    · rfl
                    · try with_reducible refine sg (kq114 hS) ?_
                      refine bc (eX12_leave hS) (fun I43 hc44 => ?_)
                      rfl
                  · rfl
                · try with_reducible refine sg (kq114 hS) ?_
                  refine bi (fun c => ?_) (fun c => ?_)
                  · rfl
                  · try with_reducible refine sg (kq114 hS) ?_
                    refine bc (eX12_leave hS) (fun I38 hc39 => ?_)
                    rfl
              · refine bi (fun c => ?_) (fun c => ?_)
                · try with_reducible refine sg (kq114 hS) ?_
                  refine bi (fun c => ?_) (fun c => ?_)
                  · try with_reducible refine sg (kq114 hS) ?_
                    refine sb (rq114_49 hS) ?_
                    refine sg (kq149 hS) ?_
                    refine bgr (by rw [lq149 hS]) (fun g34 => ?_)
                    try with_reducible refine sg (kq114 hS) ?_
                    try with_reducible refine sg (kq114 hS) ?_
                    refine bi (fun c => ?_) (fun c => ?_)
                    · rfl
                    · try with_reducible refine sg (kq114 hS) ?_
                      refine bc (eX12_leave hS) (fun I36 hc37 => ?_)
                      rfl
                  · try with_reducible refine sg (kq114 hS) ?_
                    try with_reducible refine sg (kq114 hS) ?_
                    try with_reducible refine sg (kq114 hS) ?_
                    refine bi (fun c => ?_) (fun c => ?_)
                    · rfl
                    · try with_reducible refine sg (kq114 hS) ?_
                      refine bc (eX12_leave hS) (fun I32 hc33 => ?_)
                      rfl
                · refine bi (fun c => ?_) (fun c => ?_)
                  · try with_reducible refine sg (kq114 hS) ?_
                    refine bi (fun c => ?_) (fun c => ?_)
                    · try with_reducible refine sg (kq114 hS) ?_
                      refine sb (rq114_48 hS) ?_
                      refine sg (kq148 hS) ?_
                      refine bgr (by rw [lq148 hS]) (fun g27 => ?_)
                      refine bi (fun c => ?_) (fun c => ?_)
                      · try with_reducible refine sg (kq114 hS) ?_
                        refine sb (rq114_49 hS) ?_
                        refine sg (kq149 hS) ?_
                        refine bgr (by rw [lq149 hS]) (fun g29 => ?_)
                        try with_reducible refine sg (kq114 hS) ?_
                        rfl
                      · try with_reducible refine sg (kq114 hS) ?_
                        try with_reducible refine sg (kq114 hS) ?_
                        rfl
                    · try with_reducible refine sg (kq114 hS) ?_
                      try with_reducible refine sg (kq114 hS) ?_
                      rfl
                  · refine bi (fun c => ?_) (fun c => ?_)
                    · rfl
                    · refine bi (fun c => ?_) (fun c => ?_)
                      · rfl
                      · refine bi (fun c => ?_) (fun c => ?_)
                        · try with_reducible refine sg (kq114 hS) ?_
                          refine bi (fun c => ?_) (fun c => ?_)
                          · try with_reducible refine sg (kq114 hS) ?_
                            refine bc (eX12_undoTo hS) (fun pp hc25 => ?_)
                            obtain ⟨I23, J24⟩ := pp
                            rfl
                          · rfl
                        · rfl
def gX12_run_b331  (σ : Shp) (R : Nat → Nat → Option Nat) (I : Nat → Nat → Int32) (J : Nat → Nat → Int64) (x2 : Int32) (s0 : Option Nat) (s1 : Int32) : Option ((Nat → Nat → Int32) × (Nat → Nat → Int64) × (Int32)) :=
  (s0 : Option Nat).bind fun a24 =>
  if kdx σ a24 = 13 then
  let I26 := u2 I a24 74 s1
  if x2 = 0 then
    if (I26 114 59) = (2 : Int32) then
      some (I26, J, (1 : Int32))
    else
      if (I26 114 59) = (3 : Int32) then
        some (I26, J, (-30 : Int32))
      else
        some (I26, J, (0 : Int32))
  else
    let I27 := u2 I26 114 2 (I26 114 60)
    some (I27, J, ((-10 : Int32) - (I27 114 60)))
  else none
theorem eX12_run_b331 {σ : Shp} {I : Nat → Nat → Int32} {J : Nat → Nat → Int64} {R : Nat → Nat → Option Nat} {x2 : Int32} {s0 : Option Nat} {s1 : Int32} (hS : Skel σ R) : fX12_run_b331 σ R 114 I J x2 s0 s1 = gX12_run_b331 σ R I J x2 s0 s1 := by
  unfold fX12_run_b331 gX12_run_b331
  refine bb (fun a24 ha24 => ?_)
  refine bg (fun g25 => ?_)
  refine bi (fun c => ?_) (fun c => ?_)
  · refine sg (kq114 hS) ?_
    refine bi (fun c => ?_) (fun c => ?_)
    · rfl
    · try with_reducible refine sg (kq114 hS) ?_
      refine bi (fun c => ?_) (fun c => ?_)
      · rfl
      · rfl
  · refine sg (kq114 hS) ?_
    try with_reducible refine sg (kq114 hS) ?_
    try with_reducible refine sg (kq114 hS) ?_
    rfl
def gX12_run_b295  (σ : Shp) (R : Nat → Nat → Option Nat) (I : Nat → Nat → Int32) (J : Nat → Nat → Int64) (x2 : Int32) (s0 : Option Nat) (s1 : Int32) : Option ((Nat → Nat → Int32) × (Nat → Nat → Int64) × (Int32)) :=
  (s0 : Option Nat).bind fun a20 =>
  if kdx σ a20 = 13 then
  let I22 := u2 I a20 72 s1
  if x2 = 0 then
    let I23 := u2 I22 114 73 (0 : Int32)
    if (I23 114 59) = (2 : Int32) then
      gX12_run_b331 σ R I23 J x2 (some 114) (I23 114 64)
    else
      gX12_run_b331 σ R I23 J x2 (some 114) (0 : Int32)
  else
    let I28 := u2 I22 114 73 (I22 114 61)
    if (I28 114 59) = (2 : Int32) then
      gX12_run_b331 σ R I28 J x2 (some 114) (I28 114 64)
    else
      gX12_run_b331 σ R I28 J x2 (some 114) (0 : Int32)
  else none
theorem eX12_run_b295 {σ : Shp} {I : Nat → Nat → Int32} {J : Nat → Nat → Int64} {R : Nat → Nat → Option Nat} {x2 : Int32} {s0 : Option Nat} {s1 : Int32} (hS : Skel σ R) : fX12_run_b295 σ R 114 I J x2 s0 s1 = gX12_run_b295 σ R I J x2 s0 s1 := by
  unfold fX12_run_b295 gX12_run_b295
  refine bb (fun a20 ha20 => ?_)
  refine bg (fun g21 => ?_)
  refine bi (fun c => ?_) (fun c => ?_)
  · refine sg (kq114 hS) ?_
    try with_reducible refine sg (kq114 hS) ?_
    refine bi (fun c => ?_) (fun c => ?_)
    · try with_reducible refine sg (kq114 hS) ?_
      exact eX12_run_b331 hS
    · exact eX12_run_b331 hS
  · refine sg (kq114 hS) ?_
    try with_reducible refine sg (kq114 hS) ?_
    try with_reducible refine sg (kq114 hS) ?_
    refine bi (fun c => ?_) (fun c => ?_)
    · try with_reducible refine sg (kq114 hS) ?_
      exact eX12_run_b331 hS
    · exact eX12_run_b331 hS
def gX12_run_b265  (σ : Shp) (R : Nat → Nat → Option Nat) (I : Nat → Nat → Int32) (J : Nat → Nat → Int64) (s0 : Int32) : Option ((Nat → Nat → Int32) × (Nat → Nat → Int64) × (Int32)) :=
  if s0 = 0 then
    let I19 := u2 I 114 71 (-1 : Int32)
    if s0 = 0 then
      gX12_run_b295 σ R I19 J s0 (some 114) (0 : Int32)
    else
      gX12_run_b295 σ R I19 J s0 (some 114) (I19 114 63)
  else
    let I29 := u2 I 114 71 (I 114 62)
    if s0 = 0 then
      gX12_run_b295 σ R I29 J s0 (some 114) (0 : Int32)
    else
      gX12_run_b295 σ R I29 J s0 (some 114) (I29 114 63)
theorem eX12_run_b265 {σ : Shp} {I : Nat → Nat → Int32} {J : Nat → Nat → Int64} {R : Nat → Nat → Option Nat} {s0 : Int32} (hS : Skel σ R) : fX12_run_b265 σ R 114 I J s0 = gX12_run_b265 σ R I J s0 := by
  unfold fX12_run_b265 gX12_run_b265
  refine bi (fun c => ?_) (fun c => ?_)
  · refine sg (kq114 hS) ?_
    refine bi (fun c => ?_) (fun c => ?_)
    · exact eX12_run_b295 hS
    · try with_reducible refine sg (kq114 hS) ?_
      exact eX12_run_b295 hS
  · refine sg (kq114 hS) ?_
    try with_reducible refine sg (kq114 hS) ?_
    refine bi (fun c => ?_) (fun c => ?_)
    · exact eX12_run_b295 hS
    · try with_reducible refine sg (kq114 hS) ?_
      exact eX12_run_b295 hS
def gX12_run_b166 (q95 : (Nat → Nat → Int32) → (Nat → Nat → Int64) → (Option ((Nat → Nat → Int32) × (Nat → Nat → Int64) × (Int32)))) (σ : Shp) (R : Nat → Nat → Option Nat) (I : Nat → Nat → Int32) (J : Nat → Nat → Int64) (s0 : Option Nat) (s1 : Int32) (s2 : Int32) : Option ((Nat → Nat → Int32) × (Nat → Nat → Int64) × (Int32)) :=
  (s0 : Option Nat).bind fun a40 =>
  if kdx σ a40 = 13 then
  let I42 := u2 I a40 66 (s1 - s2)
  if ¬ ((I42 114 42) < 0 ∨ 400 ≤ Int32.toNatClampNeg (I42 114 42)) then
  let I44 := u2 I42 114 57 (I42 144 (Int32.toNatClampNeg (I42 114 42)))
  if ¬ ((I44 114 42) < 0 ∨ 400 ≤ Int32.toNatClampNeg (I44 114 42)) then
  let I46 := u2 I44 114 58 ((I44 145 (Int32.toNatClampNeg (I44 114 42))) + (1 : Int32))
  q95 I46 J
  else none
  else none
  else none
theorem eX12_run_b166 {σ : Shp} {I : Nat → Nat → Int32} {J : Nat → Nat → Int64} {R : Nat → Nat → Option Nat} {s0 : Option Nat} {s1 : Int32} {s2 : Int32} (hS : Skel σ R) {qf95 q95 : (Nat → Nat → Int32) → (Nat → Nat → Int64) → (Option ((Nat → Nat → Int32) × (Nat → Nat → Int64) × (Int32)))} (hq95 : ∀ (I : Nat → Nat → Int32) (J : Nat → Nat → Int64), qf95 I J = q95 I J) : fX12_run_b166 qf95 σ R 114 I J s0 s1 s2 = gX12_run_b166 q95 σ R I J s0 s1 s2 := by
  unfold fX12_run_b166 gX12_run_b166
  refine bb (fun a40 ha40 => ?_)
  refine bg (fun g41 => ?_)
  refine sg (kq114 hS) ?_
  refine sb (rq114_44 hS) ?_
  try with_reducible refine sg (kq114 hS) ?_
  refine sg (kq144 hS) ?_
  refine bgr (by rw [lq144 hS]) (fun g43 => ?_)
  try with_reducible refine sg (kq114 hS) ?_
  try with_reducible refine sg (kq114 hS) ?_
  refine sb (rq114_45 hS) ?_
  try with_reducible refine sg (kq114 hS) ?_
  refine sg (kq145 hS) ?_
  refine bgr (by rw [lq145 hS]) (fun g45 => ?_)
  try with_reducible refine sg (kq114 hS) ?_
  exact hq95 _ _
def gX12_run_l95  (σ : Shp) (R : Nat → Nat → Option Nat) : Nat → (Nat → Nat → Int32) → (Nat → Nat → Int64) → Option ((Nat → Nat → Int32) × (Nat → Nat → Int64) × (Int32))
  | 0, _, _ => none
  | n + 1, I, J =>
    if (I 114 42) ≤ 0 then
      if (I 114 59) = (1 : Int32) then
        gX12_run_b265 σ R I J (1 : Int32)
      else
        gX12_run_b265 σ R I J (0 : Int32)
    else
      if (I 114 59) = 0 then
        if ¬ ((I 114 57) < 0 ∨ 4 ≤ Int32.toNatClampNeg (I 114 57)) then
        if (I 114 58) = (I 134 (Int32.toNatClampNeg (I 114 57))) then
          let I38 := u2 I 114 42 ((I 114 42) - (1 : Int32))
          if ¬ ((I38 114 42) < 0 ∨ 400 ≤ Int32.toNatClampNeg (I38 114 42)) then
          if (I38 143 (Int32.toNatClampNeg (I38 114 42))) = (10 : Int32) then
            gX12_run_b166 (gX12_run_l95 σ R n) σ R I38 J (some 114) (I38 114 66) (1 : Int32)
          else
            gX12_run_b166 (gX12_run_l95 σ R n) σ R I38 J (some 114) (I38 114 66) (0 : Int32)
          else none
        else
          if ¬ ((((40 : Int32) * (I 114 57)) + (I 114 58)) < 0 ∨ 160 ≤ Int32.toNatClampNeg (((40 : Int32) * (I 114 57)) + (I 114 58))) then
          if (I 135 (Int32.toNatClampNeg (((40 : Int32) * (I 114 57)) + (I 114 58)))) = 0 then
            (gX12_close σ I J R).bind fun (I35, J36) =>
            gX12_run_l95 σ R n I35 J36
          else
            (gX12_begin σ I J R (I 135 (Int32.toNatClampNeg (((40 : Int32) * (I 114 57)) + (I 114 58))))).bind fun (I32, J33) =>
            gX12_run_l95 σ R n I32 J33
          else none
        else none
      else
        (gX12_unwind σ I J R).bind fun (I47, J48) =>
        gX12_run_l95 σ R n I47 J48
theorem eX12_run_l95 {σ : Shp} {R : Nat → Nat → Option Nat} (hS : Skel σ R) : ∀ (n : Nat) (I : Nat → Nat → Int32) (J : Nat → Nat → Int64), fX12_run_l95 σ R 114 n I J = gX12_run_l95 σ R n I J := by
  intro n
  induction n with
  | zero => intro I J; rfl
  | succ n ih =>
    intro I J
    rw [fX12_run_l95, gX12_run_l95]
    refine sg (kq114 hS) ?_
    refine bi (fun c => ?_) (fun c => ?_)
    · try with_reducible refine sg (kq114 hS) ?_
      refine bi (fun c => ?_) (fun c => ?_)
      · exact eX12_run_b265 hS
      · exact eX12_run_b265 hS
    · try with_reducible refine sg (kq114 hS) ?_
      refine bi (fun c => ?_) (fun c => ?_)
      · try with_reducible refine sg (kq114 hS) ?_
        try with_reducible refine sg (kq114 hS) ?_
        refine sb (rq114_33 hS) ?_
        try with_reducible refine sg (kq114 hS) ?_
        refine sg (kq134 hS) ?_
        refine bgr (by rw [lq134 hS]) (fun g30 => ?_)
        refine bi (fun c => ?_) (fun c => ?_)
        · try with_reducible refine sg (kq114 hS) ?_
          try with_reducible refine sg (kq114 hS) ?_
          try with_reducible refine sg (kq114 hS) ?_
          try with_reducible refine sg (kq114 hS) ?_
          refine sb (rq114_43 hS) ?_
          try with_reducible refine sg (kq114 hS) ?_
          refine sg (kq143 hS) ?_
          refine bgr (by rw [lq143 hS]) (fun g39 => ?_)
          refine bi (fun c => ?_) (fun c => ?_)
          · exact eX12_run_b166 hS ih
          · exact eX12_run_b166 hS ih
        · try with_reducible refine sg (kq114 hS) ?_
          refine sb (rq114_34 hS) ?_
          try with_reducible refine sg (kq114 hS) ?_
          try with_reducible refine sg (kq114 hS) ?_
          refine sg (kq135 hS) ?_
          refine bgr (by rw [lq135 hS]) (fun g31 => ?_)
          refine bi (fun c => ?_) (fun c => ?_)
          · try with_reducible refine sg (kq114 hS) ?_
            refine bc (eX12_close hS) (fun pp hc37 => ?_)
            obtain ⟨I35, J36⟩ := pp
            exact ih _ _
          · try with_reducible refine sg (kq114 hS) ?_
            try with_reducible refine sg (kq114 hS) ?_
            try with_reducible refine sg (kq114 hS) ?_
            try with_reducible refine sg (kq135 hS) ?_
            try with_reducible refine sg (by rw [lq135 hS]; exact g31) ?_
            try with_reducible refine sg (kq114 hS) ?_
            refine bc (eX12_begin hS) (fun pp hc34 => ?_)
            obtain ⟨I32, J33⟩ := pp
            exact ih _ _
      · try with_reducible refine sg (kq114 hS) ?_
        refine bc (eX12_unwind hS) (fun pp hc49 => ?_)
        obtain ⟨I47, J48⟩ := pp
        exact ih _ _
def gX12_run (σ : Shp) (I : Nat → Nat → Int32) (J : Nat → Nat → Int64) (R : Nat → Nat → Option Nat) (x1 : Int32) : Option ((Nat → Nat → Int32) × (Nat → Nat → Int64) × (Int32)) :=
  if (fX12_in x1 (0 : Int32) (3 : Int32)) = 0 then
    some (I, J, (-2 : Int32))
  else
    (gX12_wrong σ I R x1).bind fun (I1, r2) =>
    if r2 = (-1 : Int32) then
      (gX12_isFull I1).bind fun r4 =>
      if r4 = 0 then
        let I6 := u2 I1 114 59 (0 : Int32)
        let I7 := u2 I6 114 57 x1
        let I8 := u2 I7 114 58 (0 : Int32)
        let I9 := u2 I8 114 65 (0 : Int32)
        let I10 := u2 I9 114 66 (0 : Int32)
        let I11 := u2 I10 114 67 (0 : Int32)
        let I12 := u2 I11 114 68 (0 : Int32)
        let I13 := u2 I12 114 69 (0 : Int32)
        let I14 := u2 I13 114 70 (0 : Int32)
        let I15 := u2 I14 114 54 (0 : Int32)
        let I16 := u2 I15 114 42 (0 : Int32)
        (gX12_push I16 (21 : Int32)).bind fun I17 =>
        gX12_run_l95 σ R FUx I17 J
      else
        some (I1, J, (-4 : Int32))
    else
      some (I1, J, (-3 : Int32))
theorem eX12_run {σ : Shp} {I : Nat → Nat → Int32} {J : Nat → Nat → Int64} {R : Nat → Nat → Option Nat} {x1 : Int32} (hS : Skel σ R) : fX12_run σ I J R 114 x1 = gX12_run σ I J R x1 := by
  unfold fX12_run gX12_run
  refine bi (fun c => ?_) (fun c => ?_)
  · rfl
  · refine sg (kq114 hS) ?_
    refine bc (eX12_wrong hS) (fun pp hc3 => ?_)
    obtain ⟨I1, r2⟩ := pp
    refine bi (fun c => ?_) (fun c => ?_)
    · try with_reducible refine sg (kq114 hS) ?_
      refine bc (eX12_isFull hS) (fun r4 hc5 => ?_)
      refine bi (fun c => ?_) (fun c => ?_)
      · try with_reducible refine sg (kq114 hS) ?_
        try with_reducible refine sg (kq114 hS) ?_
        try with_reducible refine sg (kq114 hS) ?_
        try with_reducible refine sg (kq114 hS) ?_
        try with_reducible refine sg (kq114 hS) ?_
        try with_reducible refine sg (kq114 hS) ?_
        try with_reducible refine sg (kq114 hS) ?_
        try with_reducible refine sg (kq114 hS) ?_
        try with_reducible refine sg (kq114 hS) ?_
        try with_reducible refine sg (kq114 hS) ?_
        try with_reducible refine sg (kq114 hS) ?_
        try with_reducible refine sg (kq114 hS) ?_
        refine bc (eX12_push hS) (fun I17 hc18 => ?_)
        exact eX12_run_l95 hS _ _ _
      · rfl
    · rfl
def gX12_ran (I : Nat → Nat → Int32) (x1 : Int32) : Option ((Int32)) :=
  if x1 = (0 : Int32) then
    some (I 114 74)
  else
  if x1 = (1 : Int32) then
    some (I 114 65)
  else
  if x1 = (2 : Int32) then
    some (I 114 71)
  else
  if x1 = (3 : Int32) then
    some (I 114 72)
  else
  if x1 = (4 : Int32) then
    some (I 114 67)
  else
  if x1 = (5 : Int32) then
    some (I 114 68)
  else
  if x1 = (6 : Int32) then
    some (I 114 69)
  else
  if x1 = (7 : Int32) then
    some (I 114 73)
  else
  if x1 = (8 : Int32) then
    some (I 114 70)
  else
  some (-2 : Int32)
theorem eX12_ran {σ : Shp} {I : Nat → Nat → Int32} {R : Nat → Nat → Option Nat} {x1 : Int32} (hS : Skel σ R) : fX12_ran σ I 114 x1 = gX12_ran I x1 := by
  unfold fX12_ran gX12_ran
  refine bi (fun c => ?_) (fun c => ?_)
  · refine sg (kq114 hS) ?_
    rfl
  · refine bi (fun c => ?_) (fun c => ?_)
    · refine sg (kq114 hS) ?_
      rfl
    · refine bi (fun c => ?_) (fun c => ?_)
      · refine sg (kq114 hS) ?_
        rfl
      · refine bi (fun c => ?_) (fun c => ?_)
        · refine sg (kq114 hS) ?_
          rfl
        · refine bi (fun c => ?_) (fun c => ?_)
          · refine sg (kq114 hS) ?_
            rfl
          · refine bi (fun c => ?_) (fun c => ?_)
            · refine sg (kq114 hS) ?_
              rfl
            · refine bi (fun c => ?_) (fun c => ?_)
              · refine sg (kq114 hS) ?_
                rfl
              · refine bi (fun c => ?_) (fun c => ?_)
                · refine sg (kq114 hS) ?_
                  rfl
                · refine bi (fun c => ?_) (fun c => ?_)
                  · refine sg (kq114 hS) ?_
                    rfl
                  · rfl
def gX12_stock (J : Nat → Nat → Int64) (x1 : Int32) : Option ((Int64)) :=
  if (fX12_in x1 (0 : Int32) (5 : Int32)) = 0 then
    some (0 : Int64)
  else
    if ¬ (x1 < 0 ∨ 6 ≤ Int32.toNatClampNeg x1) then
    some (J 139 (Int32.toNatClampNeg x1))
    else none
theorem eX12_stock {σ : Shp} {J : Nat → Nat → Int64} {R : Nat → Nat → Option Nat} {x1 : Int32} (hS : Skel σ R) : fX12_stock σ J R 114 x1 = gX12_stock J x1 := by
  unfold fX12_stock gX12_stock
  refine bi (fun c => ?_) (fun c => ?_)
  · rfl
  · refine sg (kq114 hS) ?_
    refine sb (rq114_38 hS) ?_
    refine sg (kq139 hS) ?_
    refine bgr (by rw [lq139 hS]) (fun g1 => ?_)
    rfl
def gX12_setStock (J : Nat → Nat → Int64) (x1 : Int32) (x2 : Int64) : Option ((Nat → Nat → Int64) × (Int32)) :=
  if (fX12_in x1 (0 : Int32) (5 : Int32)) = 0 then
    some (J, (-2 : Int32))
  else
    if ¬ (x1 < 0 ∨ 6 ≤ Int32.toNatClampNeg x1) then
    let J2 := u2 J 139 (Int32.toNatClampNeg x1) x2
    some (J2, (1 : Int32))
    else none
theorem eX12_setStock {σ : Shp} {J : Nat → Nat → Int64} {R : Nat → Nat → Option Nat} {x1 : Int32} {x2 : Int64} (hS : Skel σ R) : fX12_setStock σ J R 114 x1 x2 = gX12_setStock J x1 x2 := by
  unfold fX12_setStock gX12_setStock
  refine bi (fun c => ?_) (fun c => ?_)
  · rfl
  · refine sg (kq114 hS) ?_
    refine sb (rq114_38 hS) ?_
    refine sg (kq139 hS) ?_
    refine bgr (by rw [lq139 hS]) (fun g1 => ?_)
    rfl
def gX12_valve (I : Nat → Nat → Int32) (x1 : Int32) (x2 : Int32) : Option ((Int32)) :=
  if (fX12_in x1 (0 : Int32) (2 : Int32)) = 0 then
    some (0 : Int32)
  else
    if (fX12_in x2 (0 : Int32) (1 : Int32)) = 0 then
      some (0 : Int32)
    else
      if x2 = 0 then
        if ¬ (x1 < 0 ∨ 3 ≤ Int32.toNatClampNeg x1) then
        some (I 140 (Int32.toNatClampNeg x1))
        else none
      else
        if ¬ (x1 < 0 ∨ 3 ≤ Int32.toNatClampNeg x1) then
        some (I 141 (Int32.toNatClampNeg x1))
        else none
theorem eX12_valve {σ : Shp} {I : Nat → Nat → Int32} {R : Nat → Nat → Option Nat} {x1 : Int32} {x2 : Int32} (hS : Skel σ R) : fX12_valve σ I R 114 x1 x2 = gX12_valve I x1 x2 := by
  unfold fX12_valve gX12_valve
  refine bi (fun c => ?_) (fun c => ?_)
  · rfl
  · refine bi (fun c => ?_) (fun c => ?_)
    · rfl
    · refine bi (fun c => ?_) (fun c => ?_)
      · refine sg (kq114 hS) ?_
        refine sb (rq114_39 hS) ?_
        refine sg (kq140 hS) ?_
        refine bgr (by rw [lq140 hS]) (fun g2 => ?_)
        rfl
      · refine sg (kq114 hS) ?_
        refine sb (rq114_40 hS) ?_
        refine sg (kq141 hS) ?_
        refine bgr (by rw [lq141 hS]) (fun g1 => ?_)
        rfl
def gX12_line_b67  (σ : Shp) (R : Nat → Nat → Option Nat) (I : Nat → Nat → Int32) (x1 : Int32) (x2 : Int32) (x3 : Int32) : Option ((Nat → Nat → Int32) × (Int32)) :=
  if ¬ (x1 < 0 ∨ 3 ≤ Int32.toNatClampNeg x1) then
  if (I 156 (Int32.toNatClampNeg x1)) = (8 : Int32) then
    some (I, (-4 : Int32))
  else
    if ¬ ((((8 : Int32) * x1) + (I 156 (Int32.toNatClampNeg x1))) < 0 ∨ 24 ≤ Int32.toNatClampNeg (((8 : Int32) * x1) + (I 156 (Int32.toNatClampNeg x1)))) then
    let I4 := u2 I 157 (Int32.toNatClampNeg (((8 : Int32) * x1) + (I 156 (Int32.toNatClampNeg x1)))) x2
    if ¬ ((((8 : Int32) * x1) + (I4 156 (Int32.toNatClampNeg x1))) < 0 ∨ 24 ≤ Int32.toNatClampNeg (((8 : Int32) * x1) + (I4 156 (Int32.toNatClampNeg x1)))) then
    let I6 := u2 I4 158 (Int32.toNatClampNeg (((8 : Int32) * x1) + (I4 156 (Int32.toNatClampNeg x1)))) x3
    let I7 := u2 I6 156 (Int32.toNatClampNeg x1) ((I6 156 (Int32.toNatClampNeg x1)) + (1 : Int32))
    some (I7, (I7 156 (Int32.toNatClampNeg x1)))
    else none
    else none
  else none
theorem eX12_line_b67 {σ : Shp} {I : Nat → Nat → Int32} {R : Nat → Nat → Option Nat} {x1 : Int32} {x2 : Int32} {x3 : Int32} (hS : Skel σ R) : fX12_line_b67 σ R 114 I x1 x2 x3 = gX12_line_b67 σ R I x1 x2 x3 := by
  unfold fX12_line_b67 gX12_line_b67
  refine sg (kq114 hS) ?_
  refine sb (rq114_75 hS) ?_
  refine sg (kq156 hS) ?_
  refine bgr (by rw [lq156 hS]) (fun g2 => ?_)
  refine bi (fun c => ?_) (fun c => ?_)
  · rfl
  · try with_reducible refine sg (kq114 hS) ?_
    refine sb (rq114_76 hS) ?_
    try with_reducible refine sg (kq114 hS) ?_
    try with_reducible refine sg (kq156 hS) ?_
    try with_reducible refine sg (by rw [lq156 hS]; exact g2) ?_
    refine sg (kq157 hS) ?_
    refine bgr (by rw [lq157 hS]) (fun g3 => ?_)
    try with_reducible refine sg (kq114 hS) ?_
    refine sb (rq114_77 hS) ?_
    try with_reducible refine sg (kq114 hS) ?_
    try with_reducible refine sg (kq156 hS) ?_
    try with_reducible refine sg (by rw [lq156 hS]; exact g2) ?_
    refine sg (kq158 hS) ?_
    refine bgr (by rw [lq158 hS]) (fun g5 => ?_)
    try with_reducible refine sg (kq114 hS) ?_
    try with_reducible refine sg (kq156 hS) ?_
    try with_reducible refine sg (by rw [lq156 hS]; exact g2) ?_
    try with_reducible refine sg (kq156 hS) ?_
    try with_reducible refine sg (by rw [lq156 hS]; exact g2) ?_
    try with_reducible refine sg (kq114 hS) ?_
    try with_reducible refine sg (kq156 hS) ?_
    try with_reducible refine sg (by rw [lq156 hS]; exact g2) ?_
    rfl
def gX12_line (σ : Shp) (I : Nat → Nat → Int32) (R : Nat → Nat → Option Nat) (x1 : Int32) (x2 : Int32) (x3 : Int32) : Option ((Nat → Nat → Int32) × (Int32)) :=
  if (fX12_isTable x1) = 0 then
    some (I, (-2 : Int32))
  else
    if (fX12_in x2 (-1000000 : Int32) (1000000 : Int32)) = 0 then
      some (I, (-2 : Int32))
    else
      if (fX12_in x3 (-1000000 : Int32) (1000000 : Int32)) = 0 then
        some (I, (-2 : Int32))
      else
        if ¬ (x1 < 0 ∨ 3 ≤ Int32.toNatClampNeg x1) then
        if (I 156 (Int32.toNatClampNeg x1)) ≤ 0 then
          gX12_line_b67 σ R I x1 x2 x3
        else
          if ¬ (((((8 : Int32) * x1) + (I 156 (Int32.toNatClampNeg x1))) - (1 : Int32)) < 0 ∨ 24 ≤ Int32.toNatClampNeg ((((8 : Int32) * x1) + (I 156 (Int32.toNatClampNeg x1))) - (1 : Int32))) then
          if (I 157 (Int32.toNatClampNeg ((((8 : Int32) * x1) + (I 156 (Int32.toNatClampNeg x1))) - (1 : Int32)))) < x2 then
            gX12_line_b67 σ R I x1 x2 x3
          else
            some (I, (-2 : Int32))
          else none
        else none
theorem eX12_line {σ : Shp} {I : Nat → Nat → Int32} {R : Nat → Nat → Option Nat} {x1 : Int32} {x2 : Int32} {x3 : Int32} (hS : Skel σ R) : fX12_line σ I R 114 x1 x2 x3 = gX12_line σ I R x1 x2 x3 := by
  unfold fX12_line gX12_line
  refine bi (fun c => ?_) (fun c => ?_)
  · rfl
  · refine bi (fun c => ?_) (fun c => ?_)
    · rfl
    · refine bi (fun c => ?_) (fun c => ?_)
      · rfl
      · refine sg (kq114 hS) ?_
        refine sb (rq114_75 hS) ?_
        refine sg (kq156 hS) ?_
        refine bgr (by rw [lq156 hS]) (fun g1 => ?_)
        refine bi (fun c => ?_) (fun c => ?_)
        · exact eX12_line_b67 hS
        · try with_reducible refine sg (kq114 hS) ?_
          refine sb (rq114_76 hS) ?_
          try with_reducible refine sg (kq114 hS) ?_
          try with_reducible refine sg (kq156 hS) ?_
          try with_reducible refine sg (by rw [lq156 hS]; exact g1) ?_
          refine sg (kq157 hS) ?_
          refine bgr (by rw [lq157 hS]) (fun g8 => ?_)
          refine bi (fun c => ?_) (fun c => ?_)
          · exact eX12_line_b67 hS
          · rfl
def gX12_rest (I : Nat → Nat → Int32) (x1 : Int32) (x2 : Int32) : Option ((Nat → Nat → Int32) × (Int32)) :=
  if (fX12_isTable x1) = 0 then
    some (I, (-2 : Int32))
  else
    if x2 = (-1 : Int32) then
      if ¬ (x1 < 0 ∨ 3 ≤ Int32.toNatClampNeg x1) then
      if (I 161 (Int32.toNatClampNeg x1)) = 0 then
        if ¬ (x1 < 0 ∨ 3 ≤ Int32.toNatClampNeg x1) then
        let I3 := u2 I 159 (Int32.toNatClampNeg x1) x2
        some (I3, (1 : Int32))
        else none
      else
        some (I, (-3 : Int32))
      else none
    else
      if (fX12_isTable x2) = 0 then
        some (I, (-2 : Int32))
      else
        if ¬ (x1 < 0 ∨ 3 ≤ Int32.toNatClampNeg x1) then
        if (I 161 (Int32.toNatClampNeg x1)) = 0 then
          if ¬ (x1 < 0 ∨ 3 ≤ Int32.toNatClampNeg x1) then
          let I6 := u2 I 159 (Int32.toNatClampNeg x1) x2
          some (I6, (1 : Int32))
          else none
        else
          some (I, (-3 : Int32))
        else none
theorem eX12_rest {σ : Shp} {I : Nat → Nat → Int32} {R : Nat → Nat → Option Nat} {x1 : Int32} {x2 : Int32} (hS : Skel σ R) : fX12_rest σ I R 114 x1 x2 = gX12_rest I x1 x2 := by
  unfold fX12_rest gX12_rest
  refine bi (fun c => ?_) (fun c => ?_)
  · rfl
  · refine bi (fun c => ?_) (fun c => ?_)
    · refine sg (kq114 hS) ?_
      refine sb (rq114_80 hS) ?_
      refine sg (kq161 hS) ?_
      refine bgr (by rw [lq161 hS]) (fun g1 => ?_)
      refine bi (fun c => ?_) (fun c => ?_)
      · try with_reducible refine sg (kq114 hS) ?_
        refine sb (rq114_78 hS) ?_
        refine sg (kq159 hS) ?_
        refine bgr (by rw [lq159 hS]) (fun g2 => ?_)
        rfl
      · rfl
    · refine bi (fun c => ?_) (fun c => ?_)
      · rfl
      · refine sg (kq114 hS) ?_
        refine sb (rq114_80 hS) ?_
        refine sg (kq161 hS) ?_
        refine bgr (by rw [lq161 hS]) (fun g4 => ?_)
        refine bi (fun c => ?_) (fun c => ?_)
        · try with_reducible refine sg (kq114 hS) ?_
          refine sb (rq114_78 hS) ?_
          refine sg (kq159 hS) ?_
          refine bgr (by rw [lq159 hS]) (fun g5 => ?_)
          rfl
        · rfl
def gX12_lay_b108 (q45 : (Nat → Nat → Int32) → (Int32) → (Option ((Nat → Nat → Int32)))) (σ : Shp) (R : Nat → Nat → Option Nat) (I : Nat → Nat → Int32) (x2 : Int32) (x4 : Int32) (s0 : Option Nat) (s1 : Int32) (s2 : Int32) : Option ((Nat → Nat → Int32)) :=
  (s0 : Option Nat).bind fun a7 =>
  if kdx σ a7 = 20 then
  if ¬ (s1 < 0 ∨ lnx σ a7 ≤ Int32.toNatClampNeg s1) then
  let I10 := u2 I a7 (Int32.toNatClampNeg s1) s2
  if ¬ (x4 < 0 ∨ 3 ≤ Int32.toNatClampNeg x4) then
  let I12 := u2 I10 161 (Int32.toNatClampNeg x4) (vp_nar .boolean (1 : Int32))
  if ¬ ((I12 114 83) < 0 ∨ 3 ≤ Int32.toNatClampNeg (I12 114 83)) then
  let I14 := u2 I12 163 (Int32.toNatClampNeg (I12 114 83)) x4
  let I15 := u2 I14 114 83 ((I14 114 83) + (1 : Int32))
  q45 I15 x2
  else none
  else none
  else none
  else none
theorem eX12_lay_b108 {σ : Shp} {I : Nat → Nat → Int32} {R : Nat → Nat → Option Nat} {x2 : Int32} {x4 : Int32} {s0 : Option Nat} {s1 : Int32} {s2 : Int32} (hS : Skel σ R) {qf45 q45 : (Nat → Nat → Int32) → (Int32) → (Option ((Nat → Nat → Int32)))} (hq45 : ∀ (I : Nat → Nat → Int32) (x2 : Int32), qf45 I x2 = q45 I x2) : fX12_lay_b108 qf45 σ R 114 I x2 x4 s0 s1 s2 = gX12_lay_b108 q45 σ R I x2 x4 s0 s1 s2 := by
  unfold fX12_lay_b108 gX12_lay_b108
  refine bb (fun a7 ha7 => ?_)
  refine bg (fun g8 => ?_)
  refine bg (fun g9 => ?_)
  refine sg (kq114 hS) ?_
  refine sb (rq114_80 hS) ?_
  refine sg (kq161 hS) ?_
  refine bgr (by rw [lq161 hS]) (fun g11 => ?_)
  try with_reducible refine sg (kq114 hS) ?_
  refine sb (rq114_82 hS) ?_
  try with_reducible refine sg (kq114 hS) ?_
  refine sg (kq163 hS) ?_
  refine bgr (by rw [lq163 hS]) (fun g13 => ?_)
  try with_reducible refine sg (kq114 hS) ?_
  try with_reducible refine sg (kq114 hS) ?_
  exact hq45 _ _
def gX12_lay_l45  (σ : Shp) (R : Nat → Nat → Option Nat) : Nat → (Nat → Nat → Int32) → (Int32) → Option ((Nat → Nat → Int32))
  | 0, _, _ => none
  | n + 1, I, x2 =>
    if x2 ≤ 0 then
      some I
    else
      let v1 := x2 + (-1 : Int32)
      if ¬ (v1 < 0 ∨ 3 ≤ Int32.toNatClampNeg v1) then
      let v3 := (I 164 (Int32.toNatClampNeg v1))
      if ¬ (v3 < 0 ∨ 3 ≤ Int32.toNatClampNeg v3) then
      let v5 := (I 159 (Int32.toNatClampNeg v3))
      if v5 = (-1 : Int32) then
        gX12_lay_b108 (gX12_lay_l45 σ R n) σ R I v1 v3 (some 162) v3 (0 : Int32)
      else
        if ¬ (v5 < 0 ∨ 3 ≤ Int32.toNatClampNeg v5) then
        if (I 161 (Int32.toNatClampNeg v5)) = 0 then
          gX12_lay_b108 (gX12_lay_l45 σ R n) σ R I v1 v3 (some 162) v3 ((1 : Int32) + (0 : Int32))
        else
          if ¬ (v5 < 0 ∨ 3 ≤ Int32.toNatClampNeg v5) then
          gX12_lay_b108 (gX12_lay_l45 σ R n) σ R I v1 v3 (some 162) v3 ((1 : Int32) + (I 162 (Int32.toNatClampNeg v5)))
          else none
        else none
      else none
      else none
theorem eX12_lay_l45 {σ : Shp} {R : Nat → Nat → Option Nat} (hS : Skel σ R) : ∀ (n : Nat) (I : Nat → Nat → Int32) (x2 : Int32), fX12_lay_l45 σ R 114 n I x2 = gX12_lay_l45 σ R n I x2 := by
  intro n
  induction n with
  | zero => intro I x2; rfl
  | succ n ih =>
    intro I x2
    rw [fX12_lay_l45, gX12_lay_l45]
    refine bi (fun c => ?_) (fun c => ?_)
    · rfl
    · refine sg (kq114 hS) ?_
      refine sb (rq114_84 hS) ?_
      refine sg (kq164 hS) ?_
      refine bgr (by rw [lq164 hS]) (fun g2 => ?_)
      try with_reducible refine sg (kq114 hS) ?_
      refine sb (rq114_78 hS) ?_
      refine sg (kq159 hS) ?_
      refine bgr (by rw [lq159 hS]) (fun g4 => ?_)
      try with_reducible refine sg (kq114 hS) ?_
      refine sb (rq114_81 hS) ?_
      refine bi (fun c => ?_) (fun c => ?_)
      · exact eX12_lay_b108 hS ih
      · try with_reducible refine sg (kq114 hS) ?_
        refine sb (rq114_80 hS) ?_
        refine sg (kq161 hS) ?_
        refine bgr (by rw [lq161 hS]) (fun g6 => ?_)
        refine bi (fun c => ?_) (fun c => ?_)
        · exact eX12_lay_b108 hS ih
        · try with_reducible refine sg (kq114 hS) ?_
          refine sg (kq162 hS) ?_
          refine bgr (by rw [lq162 hS]) (fun g16 => ?_)
          exact eX12_lay_b108 hS ih
def gX12_lay_l4  (σ : Shp) (R : Nat → Nat → Option Nat) : Nat → (Nat → Nat → Int32) → (Int32) → (Int32) → Option ((Nat → Nat → Int32))
  | 0, _, _, _ => none
  | n + 1, I, x2, x3 =>
    if x3 = (-1 : Int32) then
      gX12_lay_l45 σ R FUx I x2
    else
      if ¬ (x3 < 0 ∨ 3 ≤ Int32.toNatClampNeg x3) then
      if (I 160 (Int32.toNatClampNeg x3)) = 0 then
        let I18 := u2 I 160 (Int32.toNatClampNeg x3) (vp_nar .boolean (1 : Int32))
        if ¬ (x2 < 0 ∨ 3 ≤ Int32.toNatClampNeg x2) then
        let I20 := u2 I18 164 (Int32.toNatClampNeg x2) x3
        let v21 := x2 + (1 : Int32)
        if ¬ (x3 < 0 ∨ 3 ≤ Int32.toNatClampNeg x3) then
        let v23 := (I20 159 (Int32.toNatClampNeg x3))
        gX12_lay_l4 σ R n I20 v21 v23
        else none
        else none
      else
        gX12_lay_l45 σ R FUx I x2
      else none
theorem eX12_lay_l4 {σ : Shp} {R : Nat → Nat → Option Nat} (hS : Skel σ R) : ∀ (n : Nat) (I : Nat → Nat → Int32) (x2 : Int32) (x3 : Int32), fX12_lay_l4 σ R 114 n I x2 x3 = gX12_lay_l4 σ R n I x2 x3 := by
  intro n
  induction n with
  | zero => intro I x2 x3; rfl
  | succ n ih =>
    intro I x2 x3
    rw [fX12_lay_l4, gX12_lay_l4]
    refine bi (fun c => ?_) (fun c => ?_)
    · exact eX12_lay_l45 hS _ _ _
    · refine sg (kq114 hS) ?_
      refine sb (rq114_79 hS) ?_
      refine sg (kq160 hS) ?_
      refine bgr (by rw [lq160 hS]) (fun g17 => ?_)
      refine bi (fun c => ?_) (fun c => ?_)
      · try with_reducible refine sg (kq114 hS) ?_
        try with_reducible refine sg (kq160 hS) ?_
        try with_reducible refine sg (by rw [lq160 hS]; exact g17) ?_
        try with_reducible refine sg (kq114 hS) ?_
        refine sb (rq114_84 hS) ?_
        refine sg (kq164 hS) ?_
        refine bgr (by rw [lq164 hS]) (fun g19 => ?_)
        try with_reducible refine sg (kq114 hS) ?_
        refine sb (rq114_78 hS) ?_
        refine sg (kq159 hS) ?_
        refine bgr (by rw [lq159 hS]) (fun g22 => ?_)
        exact ih _ _ _
      · exact eX12_lay_l45 hS _ _ _
def gX12_lay (σ : Shp) (I : Nat → Nat → Int32) (R : Nat → Nat → Option Nat) (x1 : Int32) : Option ((Nat → Nat → Int32)) :=
  gX12_lay_l4 σ R FUx I (0 : Int32) x1
theorem eX12_lay {σ : Shp} {I : Nat → Nat → Int32} {R : Nat → Nat → Option Nat} {x1 : Int32} (hS : Skel σ R) : fX12_lay σ I R 114 x1 = gX12_lay σ I R x1 := by
  unfold fX12_lay gX12_lay
  exact eX12_lay_l4 hS _ _ _ _
def gX12_valueOf_b87  (σ : Shp) (R : Nat → Nat → Option Nat) (I : Nat → Nat → Int32) (x1 : Int32) (x2 : Int32) (x3 : Int32) (x4 : Int32) : Option ((Nat → Nat → Int32) × (Int32)) :=
  if (x4 + (1 : Int32)) = (((8 : Int32) * x1) + x3) then
    if ¬ (x1 < 0 ∨ 3 ≤ Int32.toNatClampNeg x1) then
    if ¬ (x4 < 0 ∨ 24 ≤ Int32.toNatClampNeg x4) then
    some (I, ((I 162 (Int32.toNatClampNeg x1)) + (I 158 (Int32.toNatClampNeg x4))))
    else none
    else none
  else
    if ¬ ((x4 + (1 : Int32)) < 0 ∨ 24 ≤ Int32.toNatClampNeg (x4 + (1 : Int32))) then
    if ¬ (x4 < 0 ∨ 24 ≤ Int32.toNatClampNeg x4) then
    if ¬ (x4 < 0 ∨ 24 ≤ Int32.toNatClampNeg x4) then
    if ¬ ((x4 + (1 : Int32)) < 0 ∨ 24 ≤ Int32.toNatClampNeg (x4 + (1 : Int32))) then
    (fX12_down ((Int32.toInt64 ((I 158 (Int32.toNatClampNeg (x4 + (1 : Int32)))) - (I 158 (Int32.toNatClampNeg x4)))) * (Int32.toInt64 (x2 - (I 157 (Int32.toNatClampNeg x4))))) (Int32.toInt64 ((I 157 (Int32.toNatClampNeg (x4 + (1 : Int32)))) - (I 157 (Int32.toNatClampNeg x4))))).bind fun r11 =>
    if ¬ (x1 < 0 ∨ 3 ≤ Int32.toNatClampNeg x1) then
    some (I, (((I 162 (Int32.toNatClampNeg x1)) + (I 158 (Int32.toNatClampNeg x4))) + (Int64.toInt32 r11)))
    else none
    else none
    else none
    else none
    else none
theorem eX12_valueOf_b87 {σ : Shp} {I : Nat → Nat → Int32} {R : Nat → Nat → Option Nat} {x1 : Int32} {x2 : Int32} {x3 : Int32} {x4 : Int32} (hS : Skel σ R) : fX12_valueOf_b87 σ R 114 I x1 x2 x3 x4 = gX12_valueOf_b87 σ R I x1 x2 x3 x4 := by
  unfold fX12_valueOf_b87 gX12_valueOf_b87
  refine bi (fun c => ?_) (fun c => ?_)
  · refine sg (kq114 hS) ?_
    refine sb (rq114_81 hS) ?_
    refine sg (kq162 hS) ?_
    refine bgr (by rw [lq162 hS]) (fun g14 => ?_)
    try with_reducible refine sg (kq114 hS) ?_
    refine sb (rq114_77 hS) ?_
    refine sg (kq158 hS) ?_
    refine bgr (by rw [lq158 hS]) (fun g15 => ?_)
    rfl
  · refine sg (kq114 hS) ?_
    refine sb (rq114_77 hS) ?_
    refine sg (kq158 hS) ?_
    refine bgr (by rw [lq158 hS]) (fun g7 => ?_)
    try with_reducible refine sg (kq114 hS) ?_
    try with_reducible refine sg (kq158 hS) ?_
    refine bgr (by rw [lq158 hS]) (fun g8 => ?_)
    try with_reducible refine sg (kq114 hS) ?_
    refine sb (rq114_76 hS) ?_
    refine sg (kq157 hS) ?_
    refine bgr (by rw [lq157 hS]) (fun g9 => ?_)
    try with_reducible refine sg (kq114 hS) ?_
    try with_reducible refine sg (kq157 hS) ?_
    refine bgr (by rw [lq157 hS]) (fun g10 => ?_)
    try with_reducible refine sg (kq114 hS) ?_
    try with_reducible refine sg (kq157 hS) ?_
    try with_reducible refine sg (by rw [lq157 hS]; exact g9) ?_
    refine bc rfl (fun r11 hc12 => ?_)
    try with_reducible refine sg (kq114 hS) ?_
    refine sb (rq114_81 hS) ?_
    refine sg (kq162 hS) ?_
    refine bgr (by rw [lq162 hS]) (fun g13 => ?_)
    try with_reducible refine sg (kq114 hS) ?_
    try with_reducible refine sg (kq158 hS) ?_
    try with_reducible refine sg (by rw [lq158 hS]; exact g8) ?_
    rfl
def gX12_valueOf_l55  (σ : Shp) (R : Nat → Nat → Option Nat) : Nat → (Nat → Nat → Int32) → (Int32) → (Int32) → (Int32) → (Int32) → Option ((Nat → Nat → Int32) × (Int32))
  | 0, _, _, _, _, _ => none
  | n + 1, I, x1, x2, x3, x4 =>
    if (((8 : Int32) * x1) + x3) ≤ (x4 + (1 : Int32)) then
      gX12_valueOf_b87 σ R I x1 x2 x3 x4
    else
      if ¬ ((x4 + (1 : Int32)) < 0 ∨ 24 ≤ Int32.toNatClampNeg (x4 + (1 : Int32))) then
      if x2 < (I 157 (Int32.toNatClampNeg (x4 + (1 : Int32)))) then
        gX12_valueOf_b87 σ R I x1 x2 x3 x4
      else
        let v17 := x4 + (1 : Int32)
        gX12_valueOf_l55 σ R n I x1 x2 x3 v17
      else none
theorem eX12_valueOf_l55 {σ : Shp} {R : Nat → Nat → Option Nat} (hS : Skel σ R) : ∀ (n : Nat) (I : Nat → Nat → Int32) (x1 : Int32) (x2 : Int32) (x3 : Int32) (x4 : Int32), fX12_valueOf_l55 σ R 114 n I x1 x2 x3 x4 = gX12_valueOf_l55 σ R n I x1 x2 x3 x4 := by
  intro n
  induction n with
  | zero => intro I x1 x2 x3 x4; rfl
  | succ n ih =>
    intro I x1 x2 x3 x4
    rw [fX12_valueOf_l55, gX12_valueOf_l55]
    refine bi (fun c => ?_) (fun c => ?_)
    · exact eX12_valueOf_b87 hS
    · refine sg (kq114 hS) ?_
      refine sb (rq114_76 hS) ?_
      refine sg (kq157 hS) ?_
      refine bgr (by rw [lq157 hS]) (fun g16 => ?_)
      refine bi (fun c => ?_) (fun c => ?_)
      · exact eX12_valueOf_b87 hS
      · exact ih _ _ _ _ _
def gX12_valueOf (σ : Shp) (I : Nat → Nat → Int32) (R : Nat → Nat → Option Nat) (x1 : Int32) (x2 : Int32) : Option ((Nat → Nat → Int32) × (Int32)) :=
  (gX12_lay σ I R x1).bind fun I1 =>
  if ¬ (x1 < 0 ∨ 3 ≤ Int32.toNatClampNeg x1) then
  let v4 := (I1 156 (Int32.toNatClampNeg x1))
  if v4 = 0 then
    if ¬ (x1 < 0 ∨ 3 ≤ Int32.toNatClampNeg x1) then
    some (I1, (I1 162 (Int32.toNatClampNeg x1)))
    else none
  else
    let v5 := ((8 : Int32) * x1)
    if ¬ (v5 < 0 ∨ 24 ≤ Int32.toNatClampNeg v5) then
    if (I1 157 (Int32.toNatClampNeg v5)) < x2 then
      gX12_valueOf_l55 σ R FUx I1 x1 x2 v4 v5
    else
      if ¬ (x1 < 0 ∨ 3 ≤ Int32.toNatClampNeg x1) then
      if ¬ (v5 < 0 ∨ 24 ≤ Int32.toNatClampNeg v5) then
      some (I1, ((I1 162 (Int32.toNatClampNeg x1)) + (I1 158 (Int32.toNatClampNeg v5))))
      else none
      else none
    else none
  else none
theorem eX12_valueOf {σ : Shp} {I : Nat → Nat → Int32} {R : Nat → Nat → Option Nat} {x1 : Int32} {x2 : Int32} (hS : Skel σ R) : fX12_valueOf σ I R 114 x1 x2 = gX12_valueOf σ I R x1 x2 := by
  unfold fX12_valueOf gX12_valueOf
  refine sg (kq114 hS) ?_
  refine bc (eX12_lay hS) (fun I1 hc2 => ?_)
  try with_reducible refine sg (kq114 hS) ?_
  refine sb (rq114_75 hS) ?_
  refine sg (kq156 hS) ?_
  refine bgr (by rw [lq156 hS]) (fun g3 => ?_)
  refine bi (fun c => ?_) (fun c => ?_)
  · try with_reducible refine sg (kq114 hS) ?_
    refine sb (rq114_81 hS) ?_
    refine sg (kq162 hS) ?_
    refine bgr (by rw [lq162 hS]) (fun g20 => ?_)
    rfl
  · try with_reducible refine sg (kq114 hS) ?_
    refine sb (rq114_76 hS) ?_
    refine sg (kq157 hS) ?_
    refine bgr (by rw [lq157 hS]) (fun g6 => ?_)
    refine bi (fun c => ?_) (fun c => ?_)
    · exact eX12_valueOf_l55 hS _ _ _ _ _ _
    · try with_reducible refine sg (kq114 hS) ?_
      refine sb (rq114_81 hS) ?_
      refine sg (kq162 hS) ?_
      refine bgr (by rw [lq162 hS]) (fun g18 => ?_)
      try with_reducible refine sg (kq114 hS) ?_
      refine sb (rq114_77 hS) ?_
      refine sg (kq158 hS) ?_
      refine bgr (by rw [lq158 hS]) (fun g19 => ?_)
      rfl
