def gX11_spray (σ : Shp) (I : Nat → Nat → Int32) (J : Nat → Nat → Int64) (R : Nat → Nat → Option Nat) (x1 : Int32) : Option ((Nat → Nat → Int32) × (Nat → Nat → Int64) × (Int32)) :=
  if (fX11_isPest x1) = 0 then
    some (I, J, (-2 : Int32))
  else
    (gX5_lessen σ I J R x1).bind fun (I1, J2) =>
    some (I1, J2, (1 : Int32))
theorem eX11_spray {σ : Shp} {I : Nat → Nat → Int32} {J : Nat → Nat → Int64} {R : Nat → Nat → Option Nat} {x1 : Int32} (hS : Skel σ R) : fX11_spray σ I J R 4 x1 = gX11_spray σ I J R x1 := by
  unfold fX11_spray gX11_spray
  refine bi (fun c => ?_) (fun c => ?_)
  · rfl
  · refine sg (kq4 hS) ?_
    refine sb (rq4_8 hS) ?_
    refine sg (kq91 hS) ?_
    refine bc (eX5_lessen hS) (fun pp hc3 => ?_)
    obtain ⟨I1, J2⟩ := pp
    rfl
def gX11_pest (J : Nat → Nat → Int64) (x1 : Int32) (x2 : Int32) : Option ((Int32)) :=
  if (fX11_isPest x1) = 0 then
    some (-2 : Int32)
  else
    if (fX11_isStage x2) = 0 then
      some (-2 : Int32)
    else
      if ¬ (x1 < 0 ∨ 2 ≤ Int32.toNatClampNeg x1) then
      if ¬ (x2 < 0 ∨ 4 ≤ Int32.toNatClampNeg x2) then
      some (Int64.toInt32 (J (93 + Int32.toNatClampNeg x1) (Int32.toNatClampNeg x2)))
      else none
      else none
theorem eX11_pest {σ : Shp} {J : Nat → Nat → Int64} {R : Nat → Nat → Option Nat} {x1 : Int32} {x2 : Int32} (hS : Skel σ R) : fX11_pest σ J R 4 x1 x2 = gX11_pest J x1 x2 := by
  unfold fX11_pest gX11_pest
  refine bi (fun c => ?_) (fun c => ?_)
  · rfl
  · refine bi (fun c => ?_) (fun c => ?_)
    · rfl
    · refine sg (kq4 hS) ?_
      refine sb (rq4_8 hS) ?_
      refine sg (kq91 hS) ?_
      refine sb (rq91_0 hS) ?_
      refine sg (kq92 hS) ?_
      refine bgr (by rw [lq92 hS]) (fun g1 => ?_)
      refine sb (rr92 hS g1) ?_
      refine sg (kr92 hS g1) ?_
      refine bgr (by rw [lr92 hS g1]) (fun g2 => ?_)
      rfl
def gX11_wait1 (I : Nat → Nat → Int32) : Option ((Int32)) :=
  some (I 91 9)
theorem eX11_wait1 {σ : Shp} {I : Nat → Nat → Int32} {R : Nat → Nat → Option Nat}  (hS : Skel σ R) : fX11_wait1 σ I R 4 = gX11_wait1 I := by
  unfold fX11_wait1 gX11_wait1
  refine sg (kq4 hS) ?_
  refine sb (rq4_8 hS) ?_
  refine sg (kq91 hS) ?_
  rfl
def gX11_write (σ : Shp) (I : Nat → Nat → Int32) (J : Nat → Nat → Int64) (R : Nat → Nat → Option Nat) (x1 : Int32) : Option ((Nat → Nat → Int32) × (Int32)) :=
  if (fX11_isBin x1) = 0 then
    some (I, (-2 : Int32))
  else
    if ¬ (x1 < 0 ∨ 16 ≤ Int32.toNatClampNeg x1) then
    let v2 := (R 6 (Int32.toNatClampNeg x1))
    onl v2
      (
        (gX11_fail I (1 : Int32)).bind fun (I4, r5) =>
        some (I4, r5))
      (fun a3 =>
        if kdx σ a3 = 11 then
        if (fX1_writes (I a3 0)) = 0 then
          (gX11_fail I (4 : Int32)).bind fun (I12, r13) =>
          some (I12, r13)
        else
          ((R a3 1) : Option Nat).bind fun a8 =>
          (gX1_written σ I J R (I a3 0) (some a8)).bind fun (I9, r10) =>
          some (I9, r10)
        else none)
    else none
theorem eX11_write {σ : Shp} {I : Nat → Nat → Int32} {J : Nat → Nat → Int64} {R : Nat → Nat → Option Nat} {x1 : Int32} (hS : Skel σ R) : fX11_write σ I J R 4 x1 = gX11_write σ I J R x1 := by
  unfold fX11_write gX11_write
  refine bi (fun c => ?_) (fun c => ?_)
  · rfl
  · refine sg (kq4 hS) ?_
    refine sb (rq4_1 hS) ?_
    refine sg (kq6 hS) ?_
    refine bgr (by rw [lq6 hS]) (fun g1 => ?_)
    refine bo (fun ea3 => ?_) (fun a3 ha3 => ?_)
    · try with_reducible refine sg (kq4 hS) ?_
      refine bc (eX11_fail hS) (fun pp hc6 => ?_)
      obtain ⟨I4, r5⟩ := pp
      rfl
    · refine bg (fun g7 => ?_)
      refine bi (fun c => ?_) (fun c => ?_)
      · try with_reducible refine sg (kq4 hS) ?_
        refine bc (eX11_fail hS) (fun pp hc14 => ?_)
        obtain ⟨I12, r13⟩ := pp
        rfl
      · try with_reducible refine sg (kq4 hS) ?_
        refine sb (rq4_9 hS) ?_
        refine bb (fun a8 ha8 => ?_)
        refine sg (kq108 hS) ?_
        refine bc (eX1_written hS) (fun pp hc11 => ?_)
        obtain ⟨I9, r10⟩ := pp
        rfl
def gX11_power (I : Nat → Nat → Int32) (x1 : Int32) : Option ((Nat → Nat → Int32) × (Int32)) :=
  if x1 < (-1 : Int32) then
    some (I, (-2 : Int32))
  else
    if x1 ≤ (200 : Int32) then
      (gX1_powerSet I x1).bind fun (I1, r2) =>
      some (I1, r2)
    else
      some (I, (-2 : Int32))
theorem eX11_power {σ : Shp} {I : Nat → Nat → Int32} {R : Nat → Nat → Option Nat} {x1 : Int32} (hS : Skel σ R) : fX11_power σ I R 4 x1 = gX11_power I x1 := by
  unfold fX11_power gX11_power
  refine bi (fun c => ?_) (fun c => ?_)
  · rfl
  · refine bi (fun c => ?_) (fun c => ?_)
    · refine sg (kq4 hS) ?_
      refine sb (rq4_9 hS) ?_
      refine sg (kq108 hS) ?_
      refine bc (eX1_powerSet hS) (fun pp hc3 => ?_)
      obtain ⟨I1, r2⟩ := pp
      rfl
    · rfl
def gX11_open1 (σ : Shp) (I : Nat → Nat → Int32) (R : Nat → Nat → Option Nat) : Option ((Nat → Nat → Int32) × (Int32)) :=
  (gX1_opened σ I R).bind fun (I1, r2) =>
  some (I1, r2)
theorem eX11_open1 {σ : Shp} {I : Nat → Nat → Int32} {R : Nat → Nat → Option Nat}  (hS : Skel σ R) : fX11_open1 σ I R 4 = gX11_open1 σ I R := by
  unfold fX11_open1 gX11_open1
  refine sg (kq4 hS) ?_
  refine sb (rq4_9 hS) ?_
  refine sg (kq108 hS) ?_
  refine bc (eX1_opened hS) (fun pp hc3 => ?_)
  obtain ⟨I1, r2⟩ := pp
  rfl
def gX11_page (σ : Shp) (I : Nat → Nat → Int32) (R : Nat → Nat → Option Nat) (x1 : Int32) (x2 : Int32) : Option ((Nat → Nat → Int32) × (Int64)) :=
  (gX1_readOf σ I R x1 x2).bind fun (I1, r2) =>
  some (I1, r2)
theorem eX11_page {σ : Shp} {I : Nat → Nat → Int32} {R : Nat → Nat → Option Nat} {x1 : Int32} {x2 : Int32} (hS : Skel σ R) : fX11_page σ I R 4 x1 x2 = gX11_page σ I R x1 x2 := by
  unfold fX11_page gX11_page
  refine sg (kq4 hS) ?_
  refine sb (rq4_9 hS) ?_
  refine sg (kq108 hS) ?_
  refine bc (eX1_readOf hS) (fun pp hc3 => ?_)
  obtain ⟨I1, r2⟩ := pp
  rfl
def gX11_octet (I : Nat → Nat → Int32) (x1 : Int32) (x2 : Int32) : Option ((Int32)) :=
  if (fX1_isByte x1 x2) = 0 then
    some (-2 : Int32)
  else
    if ¬ (((x1 * (64 : Int32)) + x2) < 0 ∨ 1280 ≤ Int32.toNatClampNeg ((x1 * (64 : Int32)) + x2)) then
    some (I 109 (Int32.toNatClampNeg ((x1 * (64 : Int32)) + x2)))
    else none
theorem eX11_octet {σ : Shp} {I : Nat → Nat → Int32} {R : Nat → Nat → Option Nat} {x1 : Int32} {x2 : Int32} (hS : Skel σ R) : fX11_octet σ I R 4 x1 x2 = gX11_octet I x1 x2 := by
  unfold fX11_octet gX11_octet
  refine bi (fun c => ?_) (fun c => ?_)
  · rfl
  · refine sg (kq4 hS) ?_
    refine sb (rq4_9 hS) ?_
    refine sg (kq108 hS) ?_
    refine sb (rq108_0 hS) ?_
    refine sg (kq109 hS) ?_
    refine bgr (by rw [lq109 hS]) (fun g1 => ?_)
    rfl
def gX11_damage (I : Nat → Nat → Int32) (x1 : Int32) (x2 : Int32) (x3 : Int32) : Option ((Nat → Nat → Int32) × (Int32)) :=
  if (fX1_isByte x1 x2) = 0 then
    some (I, (-2 : Int32))
  else
    if x3 < 0 then
      some (I, (-2 : Int32))
    else
      if x3 ≤ (255 : Int32) then
        if ¬ (((x1 * (64 : Int32)) + x2) < 0 ∨ 1280 ≤ Int32.toNatClampNeg ((x1 * (64 : Int32)) + x2)) then
        let I2 := u2 I 109 (Int32.toNatClampNeg ((x1 * (64 : Int32)) + x2)) ((I 109 (Int32.toNatClampNeg ((x1 * (64 : Int32)) + x2))) ^^^ x3)
        some (I2, (I2 109 (Int32.toNatClampNeg ((x1 * (64 : Int32)) + x2))))
        else none
      else
        some (I, (-2 : Int32))
theorem eX11_damage {σ : Shp} {I : Nat → Nat → Int32} {R : Nat → Nat → Option Nat} {x1 : Int32} {x2 : Int32} {x3 : Int32} (hS : Skel σ R) : fX11_damage σ I R 4 x1 x2 x3 = gX11_damage I x1 x2 x3 := by
  unfold fX11_damage gX11_damage
  refine bi (fun c => ?_) (fun c => ?_)
  · rfl
  · refine bi (fun c => ?_) (fun c => ?_)
    · rfl
    · refine bi (fun c => ?_) (fun c => ?_)
      · refine sg (kq4 hS) ?_
        refine sb (rq4_9 hS) ?_
        refine sg (kq108 hS) ?_
        refine sb (rq108_0 hS) ?_
        refine sg (kq109 hS) ?_
        refine bgr (by rw [lq109 hS]) (fun g1 => ?_)
        try with_reducible refine sg (kq109 hS) ?_
        try with_reducible refine sg (by rw [lq109 hS]; exact g1) ?_
        try with_reducible refine sg (kq4 hS) ?_
        try with_reducible refine sg (kq108 hS) ?_
        try with_reducible refine sg (kq109 hS) ?_
        try with_reducible refine sg (by rw [lq109 hS]; exact g1) ?_
        rfl
      · rfl
def gX11_told (σ : Shp) (I : Nat → Nat → Int32) (R : Nat → Nat → Option Nat) (x1 : Int32) : Option ((Nat → Nat → Int32) × (Int32)) :=
  if x1 = (0 : Int32) then
    some (I, (I 26 13))
  else
  if x1 = (1 : Int32) then
    some (I, (I 4 12))
  else
  if x1 = (2 : Int32) then
    some (I, (I 4 13))
  else
  if x1 = (3 : Int32) then
    some (I, (I 108 3))
  else
  if x1 = (4 : Int32) then
    some (I, (I 108 4))
  else
  if x1 = (5 : Int32) then
    if (I 108 5) = 0 then
      some (I, (0 : Int32))
    else
      some (I, (1 : Int32))
  else
  if x1 = (6 : Int32) then
    (gX1_clashes σ I R).bind fun r17 =>
    some (I, r17)
  else
  if x1 = (7 : Int32) then
    some (I, (I 91 8))
  else
  if x1 = (8 : Int32) then
    (gX1_gatherRead σ I R).bind fun (I14, r15) =>
    some (I14, r15)
  else
  if x1 = (9 : Int32) then
    (gX6_stepsInAll σ I R).bind fun r12 =>
    some (I, r12)
  else
  if x1 = (10 : Int32) then
    some (I, (I 27 8))
  else
  some (I, (-2 : Int32))
theorem eX11_told {σ : Shp} {I : Nat → Nat → Int32} {R : Nat → Nat → Option Nat} {x1 : Int32} (hS : Skel σ R) : fX11_told σ I R 4 x1 = gX11_told σ I R x1 := by
  unfold fX11_told gX11_told
  refine bi (fun c => ?_) (fun c => ?_)
  · refine sg (kq4 hS) ?_
    refine sb (rq4_5 hS) ?_
    refine sg (kq26 hS) ?_
    rfl
  · refine bi (fun c => ?_) (fun c => ?_)
    · refine sg (kq4 hS) ?_
      rfl
    · refine bi (fun c => ?_) (fun c => ?_)
      · refine sg (kq4 hS) ?_
        rfl
      · refine bi (fun c => ?_) (fun c => ?_)
        · refine sg (kq4 hS) ?_
          refine sb (rq4_9 hS) ?_
          refine sg (kq108 hS) ?_
          rfl
        · refine bi (fun c => ?_) (fun c => ?_)
          · refine sg (kq4 hS) ?_
            refine sb (rq4_9 hS) ?_
            refine sg (kq108 hS) ?_
            rfl
          · refine bi (fun c => ?_) (fun c => ?_)
            · refine sg (kq4 hS) ?_
              refine sb (rq4_9 hS) ?_
              refine sg (kq108 hS) ?_
              refine bi (fun c => ?_) (fun c => ?_)
              · rfl
              · rfl
            · refine bi (fun c => ?_) (fun c => ?_)
              · refine sg (kq4 hS) ?_
                refine sb (rq4_9 hS) ?_
                refine sg (kq108 hS) ?_
                refine bc (eX1_clashes hS) (fun r17 hc18 => ?_)
                rfl
              · refine bi (fun c => ?_) (fun c => ?_)
                · refine sg (kq4 hS) ?_
                  refine sb (rq4_8 hS) ?_
                  refine sg (kq91 hS) ?_
                  rfl
                · refine bi (fun c => ?_) (fun c => ?_)
                  · refine sg (kq4 hS) ?_
                    refine sb (rq4_9 hS) ?_
                    refine sg (kq108 hS) ?_
                    refine bc (eX1_gatherRead hS) (fun pp hc16 => ?_)
                    obtain ⟨I14, r15⟩ := pp
                    rfl
                  · refine bi (fun c => ?_) (fun c => ?_)
                    · refine sg (kq4 hS) ?_
                      refine sb (rq4_3 hS) ?_
                      refine sg (kq9 hS) ?_
                      refine bc (eX6_stepsInAll hS) (fun r12 hc13 => ?_)
                      rfl
                    · refine bi (fun c => ?_) (fun c => ?_)
                      · refine sg (kq4 hS) ?_
                        refine sb (rq4_6 hS) ?_
                        refine sg (kq27 hS) ?_
                        rfl
                      · rfl
def gX11_fault (I : Nat → Nat → Int32) : Option ((Int32)) :=
  some (I 4 14)
theorem eX11_fault {σ : Shp} {I : Nat → Nat → Int32} {R : Nat → Nat → Option Nat}  (hS : Skel σ R) : fX11_fault σ I 4 = gX11_fault I := by
  unfold fX11_fault gX11_fault
  refine sg (kq4 hS) ?_
  rfl
def gX12_isFull (I : Nat → Nat → Int32) : Option ((Int32)) :=
  if (3000 : Int32) ≤ (I 114 1) then
    some (1 : Int32)
  else
    if (I 114 0) < (4000 : Int32) then
      some (0 : Int32)
    else
      some (1 : Int32)
theorem eX12_isFull {σ : Shp} {I : Nat → Nat → Int32} {R : Nat → Nat → Option Nat}  (hS : Skel σ R) : fX12_isFull σ I 114 = gX12_isFull I := by
  unfold fX12_isFull gX12_isFull
  refine sg (kq114 hS) ?_
  refine bi (fun c => ?_) (fun c => ?_)
  · rfl
  · try with_reducible refine sg (kq114 hS) ?_
    refine bi (fun c => ?_) (fun c => ?_)
    · rfl
    · rfl
def gX12_no (I : Nat → Nat → Int32) (x1 : Int32) : Option ((Nat → Nat → Int32) × (Int32)) :=
  let I1 := u2 I 114 1 ((I 114 1) + (1 : Int32))
  let I2 := u2 I1 114 2 x1
  some (I2, ((-10 : Int32) - x1))
theorem eX12_no {σ : Shp} {I : Nat → Nat → Int32} {R : Nat → Nat → Option Nat} {x1 : Int32} (hS : Skel σ R) : fX12_no σ I 114 x1 = gX12_no I x1 := by
  unfold fX12_no gX12_no
  refine sg (kq114 hS) ?_
  try with_reducible refine sg (kq114 hS) ?_
  try with_reducible refine sg (kq114 hS) ?_
  rfl
def gX12_noBits (I : Nat → Nat → Int32) (x1 : Int32) : Option ((Nat → Nat → Int32) × (Int64)) :=
  (gX12_no I x1).bind fun (I1, r2) =>
  some (I1, (0 : Int64))
theorem eX12_noBits {σ : Shp} {I : Nat → Nat → Int32} {R : Nat → Nat → Option Nat} {x1 : Int32} (hS : Skel σ R) : fX12_noBits σ I 114 x1 = gX12_noBits I x1 := by
  unfold fX12_noBits gX12_noBits
  refine sg (kq114 hS) ?_
  refine bc (eX12_no hS) (fun pp hc3 => ?_)
  obtain ⟨I1, r2⟩ := pp
  rfl
def gX12_thing (I : Nat → Nat → Int32) (x1 : Int32) (x2 : Int32) : Option ((Nat → Nat → Int32) × (Int32)) :=
  let I1 := u2 I 114 0 ((I 114 0) + (1 : Int32))
  if ¬ ((I1 114 0) < 0 ∨ 4100 ≤ Int32.toNatClampNeg (I1 114 0)) then
  let I3 := u2 I1 116 (Int32.toNatClampNeg (I1 114 0)) ((Int32.toInt8 ((Int32.toInt8 x1).toInt32)).toInt32)
  if ¬ ((I3 114 0) < 0 ∨ 4100 ≤ Int32.toNatClampNeg (I3 114 0)) then
  let I5 := u2 I3 117 (Int32.toNatClampNeg (I3 114 0)) ((Int32.toInt8 ((Int32.toInt8 x2).toInt32)).toInt32)
  some (I5, (I5 114 0))
  else none
  else none
theorem eX12_thing {σ : Shp} {I : Nat → Nat → Int32} {R : Nat → Nat → Option Nat} {x1 : Int32} {x2 : Int32} (hS : Skel σ R) : fX12_thing σ I R 114 x1 x2 = gX12_thing I x1 x2 := by
  unfold fX12_thing gX12_thing
  refine sg (kq114 hS) ?_
  try with_reducible refine sg (kq114 hS) ?_
  try with_reducible refine sg (kq114 hS) ?_
  refine sb (rq114_4 hS) ?_
  try with_reducible refine sg (kq114 hS) ?_
  refine sg (kq116 hS) ?_
  refine bgr (by rw [lq116 hS]) (fun g2 => ?_)
  try with_reducible refine sg (kq114 hS) ?_
  refine sb (rq114_5 hS) ?_
  try with_reducible refine sg (kq114 hS) ?_
  refine sg (kq117 hS) ?_
  refine bgr (by rw [lq117 hS]) (fun g4 => ?_)
  try with_reducible refine sg (kq114 hS) ?_
  rfl
def gX12_newRow (I : Nat → Nat → Int32) (x1 : Int32) (x2 : Int32) : Option ((Nat → Nat → Int32) × (Int32)) :=
  (gX12_thing I x1 x2).bind fun (I1, r2) =>
  if ¬ (r2 < 0 ∨ 4100 ≤ Int32.toNatClampNeg r2) then
  let I5 := u2 I1 118 (Int32.toNatClampNeg r2) (I1 114 7)
  let I6 := u2 I5 114 7 ((I5 114 7) + x2)
  some (I6, r2)
  else none
theorem eX12_newRow {σ : Shp} {I : Nat → Nat → Int32} {R : Nat → Nat → Option Nat} {x1 : Int32} {x2 : Int32} (hS : Skel σ R) : fX12_newRow σ I R 114 x1 x2 = gX12_newRow I x1 x2 := by
  unfold fX12_newRow gX12_newRow
  refine sg (kq114 hS) ?_
  refine bc (eX12_thing hS) (fun pp hc3 => ?_)
  obtain ⟨I1, r2⟩ := pp
  try with_reducible refine sg (kq114 hS) ?_
  refine sb (rq114_6 hS) ?_
  try with_reducible refine sg (kq114 hS) ?_
  refine sg (kq118 hS) ?_
  refine bgr (by rw [lq118 hS]) (fun g4 => ?_)
  try with_reducible refine sg (kq114 hS) ?_
  try with_reducible refine sg (kq114 hS) ?_
  rfl
def gX12_newPlaces (I : Nat → Nat → Int32) (x1 : Int32) (x2 : Int32) : Option ((Nat → Nat → Int32) × (Int32)) :=
  (gX12_thing I x1 x2).bind fun (I1, r2) =>
  if ¬ (r2 < 0 ∨ 4100 ≤ Int32.toNatClampNeg r2) then
  let I5 := u2 I1 118 (Int32.toNatClampNeg r2) (I1 114 9)
  let I6 := u2 I5 114 9 ((I5 114 9) + x2)
  some (I6, r2)
  else none
theorem eX12_newPlaces {σ : Shp} {I : Nat → Nat → Int32} {R : Nat → Nat → Option Nat} {x1 : Int32} {x2 : Int32} (hS : Skel σ R) : fX12_newPlaces σ I R 114 x1 x2 = gX12_newPlaces I x1 x2 := by
  unfold fX12_newPlaces gX12_newPlaces
  refine sg (kq114 hS) ?_
  refine bc (eX12_thing hS) (fun pp hc3 => ?_)
  obtain ⟨I1, r2⟩ := pp
  try with_reducible refine sg (kq114 hS) ?_
  refine sb (rq114_6 hS) ?_
  try with_reducible refine sg (kq114 hS) ?_
  refine sg (kq118 hS) ?_
  refine bgr (by rw [lq118 hS]) (fun g4 => ?_)
  try with_reducible refine sg (kq114 hS) ?_
  try with_reducible refine sg (kq114 hS) ?_
  rfl
def gX12_isRow (I : Nat → Nat → Int32) (x1 : Int32) : Option ((Int32)) :=
  if ¬ (x1 < 0 ∨ 4100 ≤ Int32.toNatClampNeg x1) then
  if (8 : Int32) ≤ (I 116 (Int32.toNatClampNeg x1)) then
    some (0 : Int32)
  else
    some (1 : Int32)
  else none
theorem eX12_isRow {σ : Shp} {I : Nat → Nat → Int32} {R : Nat → Nat → Option Nat} {x1 : Int32} (hS : Skel σ R) : fX12_isRow σ I R 114 x1 = gX12_isRow I x1 := by
  unfold fX12_isRow gX12_isRow
  refine sg (kq114 hS) ?_
  refine sb (rq114_4 hS) ?_
  refine sg (kq116 hS) ?_
  refine bgr (by rw [lq116 hS]) (fun g1 => ?_)
  refine bi (fun c => ?_) (fun c => ?_)
  · rfl
  · rfl
def gX12_hasPlaces (I : Nat → Nat → Int32) (x1 : Int32) : Option ((Int32)) :=
  if ¬ (x1 < 0 ∨ 4100 ≤ Int32.toNatClampNeg x1) then
  if (I 116 (Int32.toNatClampNeg x1)) < (8 : Int32) then
    some (0 : Int32)
  else
    if (15 : Int32) < (I 116 (Int32.toNatClampNeg x1)) then
      some (0 : Int32)
    else
      some (1 : Int32)
  else none
theorem eX12_hasPlaces {σ : Shp} {I : Nat → Nat → Int32} {R : Nat → Nat → Option Nat} {x1 : Int32} (hS : Skel σ R) : fX12_hasPlaces σ I R 114 x1 = gX12_hasPlaces I x1 := by
  unfold fX12_hasPlaces gX12_hasPlaces
  refine sg (kq114 hS) ?_
  refine sb (rq114_4 hS) ?_
  refine sg (kq116 hS) ?_
  refine bgr (by rw [lq116 hS]) (fun g1 => ?_)
  refine bi (fun c => ?_) (fun c => ?_)
  · rfl
  · try with_reducible refine sg (kq114 hS) ?_
    try with_reducible refine sg (kq116 hS) ?_
    try with_reducible refine sg (by rw [lq116 hS]; exact g1) ?_
    refine bi (fun c => ?_) (fun c => ?_)
    · rfl
    · rfl
def gX12_isOf (I : Nat → Nat → Int32) (x1 : Int32) (x2 : Int32) : Option ((Int32)) :=
  if x1 = 0 then
    some (1 : Int32)
  else
    if ¬ (x1 < 0 ∨ 4100 ≤ Int32.toNatClampNeg x1) then
    if (I 116 (Int32.toNatClampNeg x1)) = x2 then
      some (1 : Int32)
    else
      some (0 : Int32)
    else none
theorem eX12_isOf {σ : Shp} {I : Nat → Nat → Int32} {R : Nat → Nat → Option Nat} {x1 : Int32} {x2 : Int32} (hS : Skel σ R) : fX12_isOf σ I R 114 x1 x2 = gX12_isOf I x1 x2 := by
  unfold fX12_isOf gX12_isOf
  refine bi (fun c => ?_) (fun c => ?_)
  · rfl
  · refine sg (kq114 hS) ?_
    refine sb (rq114_4 hS) ?_
    refine sg (kq116 hS) ?_
    refine bgr (by rw [lq116 hS]) (fun g1 => ?_)
    refine bi (fun c => ?_) (fun c => ?_)
    · rfl
    · rfl
def gX12_looked (I : Nat → Nat → Int32) (x1 : Int32) (x2 : Int32) : Option ((Int32)) :=
  if x1 = 0 then
    some (1 : Int32)
  else
    if ¬ (x1 < 0 ∨ 4100 ≤ Int32.toNatClampNeg x1) then
    if (fX12_in x2 (0 : Int32) ((I 117 (Int32.toNatClampNeg x1)) - (1 : Int32))) = 0 then
      some (2 : Int32)
    else
      some (0 : Int32)
    else none
theorem eX12_looked {σ : Shp} {I : Nat → Nat → Int32} {R : Nat → Nat → Option Nat} {x1 : Int32} {x2 : Int32} (hS : Skel σ R) : fX12_looked σ I R 114 x1 x2 = gX12_looked I x1 x2 := by
  unfold fX12_looked gX12_looked
  refine bi (fun c => ?_) (fun c => ?_)
  · rfl
  · refine sg (kq114 hS) ?_
    refine sb (rq114_5 hS) ?_
    refine sg (kq117 hS) ?_
    refine bgr (by rw [lq117 hS]) (fun g1 => ?_)
    refine bi (fun c => ?_) (fun c => ?_)
    · rfl
    · rfl
def gX12_isFor (I : Nat → Nat → Int32) (x1 : Int32) (x2 : Int32) : Option ((Int32)) :=
  if x2 = 0 then
    some (1 : Int32)
  else
    if (11 : Int32) ≤ x1 then
      if x1 = (11 : Int32) then
        if ¬ (x2 < 0 ∨ 4100 ≤ Int32.toNatClampNeg x2) then
        if (I 116 (Int32.toNatClampNeg x2)) = (9 : Int32) then
          some (1 : Int32)
        else
          some (0 : Int32)
        else none
      else
        if ¬ (x2 < 0 ∨ 4100 ≤ Int32.toNatClampNeg x2) then
        if (I 116 (Int32.toNatClampNeg x2)) = (16 : Int32) then
          if ¬ (x2 < 0 ∨ 4100 ≤ Int32.toNatClampNeg x2) then
          if (fX12_isTrayFor x1 (I 122 (Int32.toNatClampNeg x2))) = 0 then
            some (0 : Int32)
          else
            some (1 : Int32)
          else none
        else
          some (0 : Int32)
        else none
    else
      if ¬ (x2 < 0 ∨ 4100 ≤ Int32.toNatClampNeg x2) then
      if (I 116 (Int32.toNatClampNeg x2)) = (fX12_laneOf x1) then
        some (1 : Int32)
      else
        some (0 : Int32)
      else none
theorem eX12_isFor {σ : Shp} {I : Nat → Nat → Int32} {R : Nat → Nat → Option Nat} {x1 : Int32} {x2 : Int32} (hS : Skel σ R) : fX12_isFor σ I R 114 x1 x2 = gX12_isFor I x1 x2 := by
  unfold fX12_isFor gX12_isFor
  refine bi (fun c => ?_) (fun c => ?_)
  · rfl
  · refine bi (fun c => ?_) (fun c => ?_)
    · refine bi (fun c => ?_) (fun c => ?_)
      · refine sg (kq114 hS) ?_
        refine sb (rq114_4 hS) ?_
        refine sg (kq116 hS) ?_
        refine bgr (by rw [lq116 hS]) (fun g3 => ?_)
        refine bi (fun c => ?_) (fun c => ?_)
        · rfl
        · rfl
      · refine sg (kq114 hS) ?_
        refine sb (rq114_4 hS) ?_
        refine sg (kq116 hS) ?_
        refine bgr (by rw [lq116 hS]) (fun g1 => ?_)
        refine bi (fun c => ?_) (fun c => ?_)
        · try with_reducible refine sg (kq114 hS) ?_
          refine sb (rq114_12 hS) ?_
          refine sg (kq122 hS) ?_
          refine bgr (by rw [lq122 hS]) (fun g2 => ?_)
          refine bi (fun c => ?_) (fun c => ?_)
          · rfl
          · rfl
        · rfl
    · refine sg (kq114 hS) ?_
      refine sb (rq114_4 hS) ?_
      refine sg (kq116 hS) ?_
      refine bgr (by rw [lq116 hS]) (fun g4 => ?_)
      refine bi (fun c => ?_) (fun c => ?_)
      · rfl
      · rfl
def gX12_row (I : Nat → Nat → Int32) (x1 : Int32) (x2 : Int32) (x3 : Int32) : Option ((Nat → Nat → Int32) × (Int32)) :=
  if (fX12_isBin x1) = 0 then
    some (I, (-2 : Int32))
  else
    if (fX12_in x2 (0 : Int32) (7 : Int32)) = 0 then
      some (I, (-2 : Int32))
    else
      if x3 ≤ (40 : Int32) then
        (gX12_isFull I).bind fun r1 =>
        if r1 = 0 then
          if 0 ≤ x3 then
            (gX12_newRow I x2 x3).bind fun (I3, r4) =>
            if ¬ (x1 < 0 ∨ 16 ≤ Int32.toNatClampNeg x1) then
            let I7 := u2 I3 115 (Int32.toNatClampNeg x1) r4
            some (I7, (1 : Int32))
            else none
          else
            (gX12_no I (3 : Int32)).bind fun (I8, r9) =>
            some (I8, r9)
        else
          some (I, (-4 : Int32))
      else
        some (I, (-2 : Int32))
theorem eX12_row {σ : Shp} {I : Nat → Nat → Int32} {R : Nat → Nat → Option Nat} {x1 : Int32} {x2 : Int32} {x3 : Int32} (hS : Skel σ R) : fX12_row σ I R 114 x1 x2 x3 = gX12_row I x1 x2 x3 := by
  unfold fX12_row gX12_row
  refine bi (fun c => ?_) (fun c => ?_)
  · rfl
  · refine bi (fun c => ?_) (fun c => ?_)
    · rfl
    · refine bi (fun c => ?_) (fun c => ?_)
      · refine sg (kq114 hS) ?_
        refine bc (eX12_isFull hS) (fun r1 hc2 => ?_)
        refine bi (fun c => ?_) (fun c => ?_)
        · refine bi (fun c => ?_) (fun c => ?_)
          · try with_reducible refine sg (kq114 hS) ?_
            refine sb (rq114_3 hS) ?_
            try with_reducible refine sg (kq114 hS) ?_
            refine bc (eX12_newRow hS) (fun pp hc5 => ?_)
            obtain ⟨I3, r4⟩ := pp
            refine sg (kq115 hS) ?_
            refine bgr (by rw [lq115 hS]) (fun g6 => ?_)
            rfl
          · try with_reducible refine sg (kq114 hS) ?_
            refine bc (eX12_no hS) (fun pp hc10 => ?_)
            obtain ⟨I8, r9⟩ := pp
            rfl
        · rfl
      · rfl
def gX12_grid_l75  (σ : Shp) (R : Nat → Nat → Option Nat) : Nat → (Nat → Nat → Int32) → (Int32) → (Int32) → (Int32) → (Int32) → (Int32) → (Int32) → (Int32) → Option ((Nat → Nat → Int32) × (Int32))
  | 0, _, _, _, _, _, _, _, _ => none
  | n + 1, I, x1, x2, x3, x4, x5, x6, x7 =>
    if x3 ≤ x7 then
      if ¬ (x1 < 0 ∨ 16 ≤ Int32.toNatClampNeg x1) then
      let I10 := u2 I 115 (Int32.toNatClampNeg x1) x6
      some (I10, (1 : Int32))
      else none
    else
      if x5 = 0 then
        if ¬ (x6 < 0 ∨ 4100 ≤ Int32.toNatClampNeg x6) then
        (gX12_newRow I (fX12_laneOf x2) x4).bind fun (I14, r15) =>
        if ¬ (((I 118 (Int32.toNatClampNeg x6)) + x7) < 0 ∨ 41000 ≤ Int32.toNatClampNeg ((I 118 (Int32.toNatClampNeg x6)) + x7)) then
        let I18 := u2 I14 120 (Int32.toNatClampNeg ((I 118 (Int32.toNatClampNeg x6)) + x7)) ((Int32.toInt16 ((Int32.toInt16 r15).toInt32)).toInt32)
        let v19 := x7 + (1 : Int32)
        gX12_grid_l75 σ R n I18 x1 x2 x3 x4 x5 x6 v19
        else none
        else none
      else
        if ¬ (x1 < 0 ∨ 16 ≤ Int32.toNatClampNeg x1) then
        let I12 := u2 I 115 (Int32.toNatClampNeg x1) x6
        some (I12, (1 : Int32))
        else none
theorem eX12_grid_l75 {σ : Shp} {R : Nat → Nat → Option Nat} (hS : Skel σ R) : ∀ (n : Nat) (I : Nat → Nat → Int32) (x1 : Int32) (x2 : Int32) (x3 : Int32) (x4 : Int32) (x5 : Int32) (x6 : Int32) (x7 : Int32), fX12_grid_l75 σ R 114 n I x1 x2 x3 x4 x5 x6 x7 = gX12_grid_l75 σ R n I x1 x2 x3 x4 x5 x6 x7 := by
  intro n
  induction n with
  | zero => intro I x1 x2 x3 x4 x5 x6 x7; rfl
  | succ n ih =>
    intro I x1 x2 x3 x4 x5 x6 x7
    rw [fX12_grid_l75, gX12_grid_l75]
    refine bi (fun c => ?_) (fun c => ?_)
    · refine sg (kq114 hS) ?_
      refine sb (rq114_3 hS) ?_
      refine sg (kq115 hS) ?_
      refine bgr (by rw [lq115 hS]) (fun g9 => ?_)
      rfl
    · refine bi (fun c => ?_) (fun c => ?_)
      · refine sg (kq114 hS) ?_
        refine sb (rq114_10 hS) ?_
        try with_reducible refine sg (kq114 hS) ?_
        refine sb (rq114_6 hS) ?_
        refine sg (kq118 hS) ?_
        refine bgr (by rw [lq118 hS]) (fun g13 => ?_)
        try with_reducible refine sg (kq114 hS) ?_
        refine bc (eX12_newRow hS) (fun pp hc16 => ?_)
        obtain ⟨I14, r15⟩ := pp
        refine sg (kq120 hS) ?_
        refine bgr (by rw [lq120 hS]) (fun g17 => ?_)
        exact ih _ _ _ _ _ _ _ _
      · refine sg (kq114 hS) ?_
        refine sb (rq114_3 hS) ?_
        refine sg (kq115 hS) ?_
        refine bgr (by rw [lq115 hS]) (fun g11 => ?_)
        rfl
def gX12_grid (σ : Shp) (I : Nat → Nat → Int32) (R : Nat → Nat → Option Nat) (x1 : Int32) (x2 : Int32) (x3 : Int32) (x4 : Int32) (x5 : Int32) : Option ((Nat → Nat → Int32) × (Int32)) :=
  if (fX12_isBin x1) = 0 then
    some (I, (-2 : Int32))
  else
    if (fX12_in x2 (8 : Int32) (10 : Int32)) = 0 then
      some (I, (-2 : Int32))
    else
      if (10 : Int32) < x3 then
        some (I, (-2 : Int32))
      else
        if x4 ≤ (40 : Int32) then
          (gX12_isFull I).bind fun r1 =>
          if r1 = 0 then
            if x3 < 0 then
              (gX12_no I (3 : Int32)).bind fun (I3, r4) =>
              some (I3, r4)
            else
              if x5 = 0 then
                if 0 ≤ x4 then
                  (gX12_newPlaces I x2 x3).bind fun (I20, r21) =>
                  gX12_grid_l75 σ R FUx I20 x1 x2 x3 x4 x5 r21 (0 : Int32)
                else
                  (gX12_no I (3 : Int32)).bind fun (I23, r24) =>
                  some (I23, r24)
              else
                (gX12_newPlaces I x2 x3).bind fun (I6, r7) =>
                gX12_grid_l75 σ R FUx I6 x1 x2 x3 x4 x5 r7 (0 : Int32)
          else
            some (I, (-4 : Int32))
        else
          some (I, (-2 : Int32))
theorem eX12_grid {σ : Shp} {I : Nat → Nat → Int32} {R : Nat → Nat → Option Nat} {x1 : Int32} {x2 : Int32} {x3 : Int32} {x4 : Int32} {x5 : Int32} (hS : Skel σ R) : fX12_grid σ I R 114 x1 x2 x3 x4 x5 = gX12_grid σ I R x1 x2 x3 x4 x5 := by
  unfold fX12_grid gX12_grid
  refine bi (fun c => ?_) (fun c => ?_)
  · rfl
  · refine bi (fun c => ?_) (fun c => ?_)
    · rfl
    · refine bi (fun c => ?_) (fun c => ?_)
      · rfl
      · refine bi (fun c => ?_) (fun c => ?_)
        · refine sg (kq114 hS) ?_
          refine bc (eX12_isFull hS) (fun r1 hc2 => ?_)
          refine bi (fun c => ?_) (fun c => ?_)
          · refine bi (fun c => ?_) (fun c => ?_)
            · try with_reducible refine sg (kq114 hS) ?_
              refine bc (eX12_no hS) (fun pp hc5 => ?_)
              obtain ⟨I3, r4⟩ := pp
              rfl
            · refine bi (fun c => ?_) (fun c => ?_)
              · refine bi (fun c => ?_) (fun c => ?_)
                · try with_reducible refine sg (kq114 hS) ?_
                  refine bc (eX12_newPlaces hS) (fun pp hc22 => ?_)
                  obtain ⟨I20, r21⟩ := pp
                  exact eX12_grid_l75 hS _ _ _ _ _ _ _ _ _
                · try with_reducible refine sg (kq114 hS) ?_
                  refine bc (eX12_no hS) (fun pp hc25 => ?_)
                  obtain ⟨I23, r24⟩ := pp
                  rfl
              · try with_reducible refine sg (kq114 hS) ?_
                refine bc (eX12_newPlaces hS) (fun pp hc8 => ?_)
                obtain ⟨I6, r7⟩ := pp
                exact eX12_grid_l75 hS _ _ _ _ _ _ _ _ _
          · rfl
        · rfl
def gX12_hollow (I : Nat → Nat → Int32) (x1 : Int32) (x2 : Int32) (x3 : Int32) (x4 : Int32) : Option ((Nat → Nat → Int32) × (Int32)) :=
  if (fX12_isBin x1) = 0 then
    some (I, (-2 : Int32))
  else
    if x3 ≤ x4 then
      (gX12_isFull I).bind fun r1 =>
      if r1 = 0 then
        if 0 ≤ x3 then
          (gX12_newPlaces I x2 x3).bind fun (I3, r4) =>
          if ¬ (x1 < 0 ∨ 16 ≤ Int32.toNatClampNeg x1) then
          let I7 := u2 I3 115 (Int32.toNatClampNeg x1) r4
          some (I7, (1 : Int32))
          else none
        else
          (gX12_no I (3 : Int32)).bind fun (I8, r9) =>
          some (I8, r9)
      else
        some (I, (-4 : Int32))
    else
      some (I, (-2 : Int32))
theorem eX12_hollow {σ : Shp} {I : Nat → Nat → Int32} {R : Nat → Nat → Option Nat} {x1 : Int32} {x2 : Int32} {x3 : Int32} {x4 : Int32} (hS : Skel σ R) : fX12_hollow σ I R 114 x1 x2 x3 x4 = gX12_hollow I x1 x2 x3 x4 := by
  unfold fX12_hollow gX12_hollow
  refine bi (fun c => ?_) (fun c => ?_)
  · rfl
  · refine bi (fun c => ?_) (fun c => ?_)
    · refine sg (kq114 hS) ?_
      refine bc (eX12_isFull hS) (fun r1 hc2 => ?_)
      refine bi (fun c => ?_) (fun c => ?_)
      · refine bi (fun c => ?_) (fun c => ?_)
        · try with_reducible refine sg (kq114 hS) ?_
          refine sb (rq114_3 hS) ?_
          try with_reducible refine sg (kq114 hS) ?_
          refine bc (eX12_newPlaces hS) (fun pp hc5 => ?_)
          obtain ⟨I3, r4⟩ := pp
          refine sg (kq115 hS) ?_
          refine bgr (by rw [lq115 hS]) (fun g6 => ?_)
          rfl
        · try with_reducible refine sg (kq114 hS) ?_
          refine bc (eX12_no hS) (fun pp hc10 => ?_)
          obtain ⟨I8, r9⟩ := pp
          rfl
      · rfl
    · rfl
def gX12_storeys (I : Nat → Nat → Int32) (x1 : Int32) (x2 : Int32) : Option ((Nat → Nat → Int32) × (Int32)) :=
  (gX12_hollow I x1 (11 : Int32) x2 (4 : Int32)).bind fun (I1, r2) =>
  some (I1, r2)
theorem eX12_storeys {σ : Shp} {I : Nat → Nat → Int32} {R : Nat → Nat → Option Nat} {x1 : Int32} {x2 : Int32} (hS : Skel σ R) : fX12_storeys σ I R 114 x1 x2 = gX12_storeys I x1 x2 := by
  unfold fX12_storeys gX12_storeys
  refine sg (kq114 hS) ?_
  refine bc (eX12_hollow hS) (fun pp hc3 => ?_)
  obtain ⟨I1, r2⟩ := pp
  rfl
def gX12_tray (I : Nat → Nat → Int32) (x1 : Int32) (x2 : Int32) (x3 : Int32) : Option ((Nat → Nat → Int32) × (Int32)) :=
  if (fX12_in x2 (12 : Int32) (15 : Int32)) = 0 then
    some (I, (-2 : Int32))
  else
    (gX12_hollow I x1 x2 x3 (8 : Int32)).bind fun (I1, r2) =>
    some (I1, r2)
theorem eX12_tray {σ : Shp} {I : Nat → Nat → Int32} {R : Nat → Nat → Option Nat} {x1 : Int32} {x2 : Int32} {x3 : Int32} (hS : Skel σ R) : fX12_tray σ I R 114 x1 x2 x3 = gX12_tray I x1 x2 x3 := by
  unfold fX12_tray gX12_tray
  refine bi (fun c => ?_) (fun c => ?_)
  · rfl
  · refine sg (kq114 hS) ?_
    refine bc (eX12_hollow hS) (fun pp hc3 => ?_)
    obtain ⟨I1, r2⟩ := pp
    rfl
def gX12_share_b22  (σ : Shp) (R : Nat → Nat → Option Nat) (I : Nat → Nat → Int32) (x1 : Int32) (x2 : Int32) : Option ((Nat → Nat → Int32) × (Int32)) :=
  if x2 = (-1 : Int32) then
    if ¬ (x1 < 0 ∨ 16 ≤ Int32.toNatClampNeg x1) then
    let I5 := u2 I 115 (Int32.toNatClampNeg x1) (0 : Int32)
    some (I5, (1 : Int32))
    else none
  else
    if ¬ (x2 < 0 ∨ 16 ≤ Int32.toNatClampNeg x2) then
    if ¬ (x1 < 0 ∨ 16 ≤ Int32.toNatClampNeg x1) then
    let I3 := u2 I 115 (Int32.toNatClampNeg x1) (I 115 (Int32.toNatClampNeg x2))
    some (I3, (1 : Int32))
    else none
    else none
theorem eX12_share_b22 {σ : Shp} {I : Nat → Nat → Int32} {R : Nat → Nat → Option Nat} {x1 : Int32} {x2 : Int32} (hS : Skel σ R) : fX12_share_b22 σ R 114 I x1 x2 = gX12_share_b22 σ R I x1 x2 := by
  unfold fX12_share_b22 gX12_share_b22
  refine sg (kq114 hS) ?_
  refine sb (rq114_3 hS) ?_
  refine bi (fun c => ?_) (fun c => ?_)
  · refine sg (kq115 hS) ?_
    refine bgr (by rw [lq115 hS]) (fun g4 => ?_)
    rfl
  · try with_reducible refine sg (kq114 hS) ?_
    refine sg (kq115 hS) ?_
    refine bgr (by rw [lq115 hS]) (fun g1 => ?_)
    try with_reducible refine sg (kq115 hS) ?_
    refine bgr (by rw [lq115 hS]) (fun g2 => ?_)
    rfl
def gX12_share (σ : Shp) (I : Nat → Nat → Int32) (R : Nat → Nat → Option Nat) (x1 : Int32) (x2 : Int32) : Option ((Nat → Nat → Int32) × (Int32)) :=
  if (fX12_isBin x1) = 0 then
    some (I, (-2 : Int32))
  else
    if x2 = (-1 : Int32) then
      gX12_share_b22 σ R I x1 x2
    else
      if (fX12_isBin x2) = 0 then
        some (I, (-2 : Int32))
      else
        gX12_share_b22 σ R I x1 x2
theorem eX12_share {σ : Shp} {I : Nat → Nat → Int32} {R : Nat → Nat → Option Nat} {x1 : Int32} {x2 : Int32} (hS : Skel σ R) : fX12_share σ I R 114 x1 x2 = gX12_share σ I R x1 x2 := by
  unfold fX12_share gX12_share
  refine bi (fun c => ?_) (fun c => ?_)
  · rfl
  · refine bi (fun c => ?_) (fun c => ?_)
    · exact eX12_share_b22 hS
    · refine bi (fun c => ?_) (fun c => ?_)
      · rfl
      · exact eX12_share_b22 hS
def gX12_form (I : Nat → Nat → Int32) (x1 : Int32) : Option ((Int32)) :=
  if (fX12_isBin x1) = 0 then
    some (-2 : Int32)
  else
    if ¬ (x1 < 0 ∨ 16 ≤ Int32.toNatClampNeg x1) then
    if (I 115 (Int32.toNatClampNeg x1)) = 0 then
      some (-1 : Int32)
    else
      if ¬ ((I 115 (Int32.toNatClampNeg x1)) < 0 ∨ 4100 ≤ Int32.toNatClampNeg (I 115 (Int32.toNatClampNeg x1))) then
      some (I 116 (Int32.toNatClampNeg (I 115 (Int32.toNatClampNeg x1))))
      else none
    else none
theorem eX12_form {σ : Shp} {I : Nat → Nat → Int32} {R : Nat → Nat → Option Nat} {x1 : Int32} (hS : Skel σ R) : fX12_form σ I R 114 x1 = gX12_form I x1 := by
  unfold fX12_form gX12_form
  refine bi (fun c => ?_) (fun c => ?_)
  · rfl
  · refine sg (kq114 hS) ?_
    refine sb (rq114_3 hS) ?_
    refine sg (kq115 hS) ?_
    refine bgr (by rw [lq115 hS]) (fun g1 => ?_)
    refine bi (fun c => ?_) (fun c => ?_)
    · rfl
    · try with_reducible refine sg (kq114 hS) ?_
      refine sb (rq114_4 hS) ?_
      try with_reducible refine sg (kq114 hS) ?_
      try with_reducible refine sg (kq115 hS) ?_
      try with_reducible refine sg (by rw [lq115 hS]; exact g1) ?_
      refine sg (kq116 hS) ?_
      refine bgr (by rw [lq116 hS]) (fun g2 => ?_)
      rfl
def gX12_is_b68  (σ : Shp) (I : Nat → Nat → Int32) (R : Nat → Nat → Option Nat) (x2 : Int32) (x3 : Int32) : Option ((Int32)) :=
  if ¬ (x3 < 0 ∨ 4100 ≤ Int32.toNatClampNeg x3) then
  if (I 116 (Int32.toNatClampNeg x3)) = x2 then
    if (1 : Int32) = 0 then
      some (0 : Int32)
    else
      some (1 : Int32)
  else
    if (0 : Int32) = 0 then
      some (0 : Int32)
    else
      some (1 : Int32)
  else none
theorem eX12_is_b68 {σ : Shp} {I : Nat → Nat → Int32} {R : Nat → Nat → Option Nat} {x2 : Int32} {x3 : Int32} (hS : Skel σ R) : fX12_is_b68 σ I R 114 x2 x3 = gX12_is_b68 σ I R x2 x3 := by
  unfold fX12_is_b68 gX12_is_b68
  refine sg (kq114 hS) ?_
  refine sb (rq114_4 hS) ?_
  refine sg (kq116 hS) ?_
  refine bgr (by rw [lq116 hS]) (fun g4 => ?_)
  refine bi (fun c => ?_) (fun c => ?_)
  · refine bi (fun c => ?_) (fun c => ?_)
    · rfl
    · rfl
  · refine bi (fun c => ?_) (fun c => ?_)
    · rfl
    · rfl
def gX12_is (σ : Shp) (I : Nat → Nat → Int32) (R : Nat → Nat → Option Nat) (x1 : Int32) (x2 : Int32) : Option ((Int32)) :=
  if (fX12_isBin x1) = 0 then
    some (-2 : Int32)
  else
    if (fX12_in x2 (0 : Int32) (17 : Int32)) = 0 then
      some (-2 : Int32)
    else
      if ¬ (x1 < 0 ∨ 16 ≤ Int32.toNatClampNeg x1) then
      let v2 := (I 115 (Int32.toNatClampNeg x1))
      if v2 = 0 then
        some (0 : Int32)
      else
        if ¬ (v2 < 0 ∨ 4100 ≤ Int32.toNatClampNeg v2) then
        if (I 116 (Int32.toNatClampNeg v2)) = (16 : Int32) then
          if (fX12_in x2 (12 : Int32) (15 : Int32)) = 0 then
            gX12_is_b68 σ I R x2 v2
          else
            if ¬ (v2 < 0 ∨ 4100 ≤ Int32.toNatClampNeg v2) then
            let v6 := (fX12_isTrayFor x2 (I 122 (Int32.toNatClampNeg v2)))
            if v6 = 0 then
              some (0 : Int32)
            else
              some (1 : Int32)
            else none
        else
          gX12_is_b68 σ I R x2 v2
        else none
      else none
theorem eX12_is {σ : Shp} {I : Nat → Nat → Int32} {R : Nat → Nat → Option Nat} {x1 : Int32} {x2 : Int32} (hS : Skel σ R) : fX12_is σ I R 114 x1 x2 = gX12_is σ I R x1 x2 := by
  unfold fX12_is gX12_is
  refine bi (fun c => ?_) (fun c => ?_)
  · rfl
  · refine bi (fun c => ?_) (fun c => ?_)
    · rfl
    · refine sg (kq114 hS) ?_
      refine sb (rq114_3 hS) ?_
      refine sg (kq115 hS) ?_
      refine bgr (by rw [lq115 hS]) (fun g1 => ?_)
      refine bi (fun c => ?_) (fun c => ?_)
      · rfl
      · try with_reducible refine sg (kq114 hS) ?_
        refine sb (rq114_4 hS) ?_
        refine sg (kq116 hS) ?_
        refine bgr (by rw [lq116 hS]) (fun g3 => ?_)
        refine bi (fun c => ?_) (fun c => ?_)
        · refine bi (fun c => ?_) (fun c => ?_)
          · exact eX12_is_b68 hS
          · try with_reducible refine sg (kq114 hS) ?_
            refine sb (rq114_12 hS) ?_
            refine sg (kq122 hS) ?_
            refine bgr (by rw [lq122 hS]) (fun g5 => ?_)
            refine bi (fun c => ?_) (fun c => ?_)
            · rfl
            · rfl
        · exact eX12_is_b68 hS
def gX12_against (I : Nat → Nat → Int32) (x1 : Int32) (x2 : Int32) (x3 : Int32) : Option ((Int32)) :=
  (gX12_isOf I x1 x2).bind fun r1 =>
  if r1 = 0 then
    some (4 : Int32)
  else
    (gX12_looked I x1 x3).bind fun r3 =>
    some r3
theorem eX12_against {σ : Shp} {I : Nat → Nat → Int32} {R : Nat → Nat → Option Nat} {x1 : Int32} {x2 : Int32} {x3 : Int32} (hS : Skel σ R) : fX12_against σ I R 114 x1 x2 x3 = gX12_against I x1 x2 x3 := by
  unfold fX12_against gX12_against
  refine sg (kq114 hS) ?_
  refine bc (eX12_isOf hS) (fun r1 hc2 => ?_)
  refine bi (fun c => ?_) (fun c => ?_)
  · rfl
  · try with_reducible refine sg (kq114 hS) ?_
    refine bc (eX12_looked hS) (fun r3 hc4 => ?_)
    rfl
def gX12_get (I : Nat → Nat → Int32) (J : Nat → Nat → Int64) (x1 : Int32) (x2 : Int32) (x3 : Int32) : Option ((Nat → Nat → Int32) × (Int64)) :=
  if (fX12_isBin x1) = 0 then
    some (I, (0 : Int64))
  else
    if (fX12_in x2 (0 : Int32) (7 : Int32)) = 0 then
      some (I, (0 : Int64))
    else
      if ¬ (x1 < 0 ∨ 16 ≤ Int32.toNatClampNeg x1) then
      let v2 := (I 115 (Int32.toNatClampNeg x1))
      (gX12_against I v2 x2 x3).bind fun r3 =>
      if r3 = 0 then
        if ¬ (v2 < 0 ∨ 4100 ≤ Int32.toNatClampNeg v2) then
        if ¬ (((I 118 (Int32.toNatClampNeg v2)) + x3) < 0 ∨ 164000 ≤ Int32.toNatClampNeg ((I 118 (Int32.toNatClampNeg v2)) + x3)) then
        some (I, (J 119 (Int32.toNatClampNeg ((I 118 (Int32.toNatClampNeg v2)) + x3))))
        else none
        else none
      else
        (gX12_noBits I r3).bind fun (I7, r8) =>
        some (I7, r8)
      else none
theorem eX12_get {σ : Shp} {I : Nat → Nat → Int32} {J : Nat → Nat → Int64} {R : Nat → Nat → Option Nat} {x1 : Int32} {x2 : Int32} {x3 : Int32} (hS : Skel σ R) : fX12_get σ I J R 114 x1 x2 x3 = gX12_get I J x1 x2 x3 := by
  unfold fX12_get gX12_get
  refine bi (fun c => ?_) (fun c => ?_)
  · rfl
  · refine bi (fun c => ?_) (fun c => ?_)
    · rfl
    · refine sg (kq114 hS) ?_
      refine sb (rq114_3 hS) ?_
      refine sg (kq115 hS) ?_
      refine bgr (by rw [lq115 hS]) (fun g1 => ?_)
      try with_reducible refine sg (kq114 hS) ?_
      refine bc (eX12_against hS) (fun r3 hc4 => ?_)
      refine bi (fun c => ?_) (fun c => ?_)
      · try with_reducible refine sg (kq114 hS) ?_
        refine sb (rq114_8 hS) ?_
        try with_reducible refine sg (kq114 hS) ?_
        refine sb (rq114_6 hS) ?_
        refine sg (kq118 hS) ?_
        refine bgr (by rw [lq118 hS]) (fun g5 => ?_)
        refine sg (kq119 hS) ?_
        refine bgr (by rw [lq119 hS]) (fun g6 => ?_)
        rfl
      · try with_reducible refine sg (kq114 hS) ?_
        refine bc (eX12_noBits hS) (fun pp hc9 => ?_)
        obtain ⟨I7, r8⟩ := pp
        rfl
def gX12_put (I : Nat → Nat → Int32) (J : Nat → Nat → Int64) (x1 : Int32) (x2 : Int32) (x3 : Int32) (x4 : Int64) : Option ((Nat → Nat → Int32) × (Nat → Nat → Int64) × (Int32)) :=
  if (fX12_isBin x1) = 0 then
    some (I, J, (-2 : Int32))
  else
    if (fX12_in x2 (0 : Int32) (7 : Int32)) = 0 then
      some (I, J, (-2 : Int32))
    else
      if ¬ (x1 < 0 ∨ 16 ≤ Int32.toNatClampNeg x1) then
      let v2 := (I 115 (Int32.toNatClampNeg x1))
      (gX12_against I v2 x2 x3).bind fun r3 =>
      if r3 = 0 then
        if ¬ (v2 < 0 ∨ 4100 ≤ Int32.toNatClampNeg v2) then
        if ¬ (((I 118 (Int32.toNatClampNeg v2)) + x3) < 0 ∨ 164000 ≤ Int32.toNatClampNeg ((I 118 (Int32.toNatClampNeg v2)) + x3)) then
        let J7 := u2 J 119 (Int32.toNatClampNeg ((I 118 (Int32.toNatClampNeg v2)) + x3)) (fX12_fitted x2 x4)
        some (I, J7, (1 : Int32))
        else none
        else none
      else
        (gX12_no I r3).bind fun (I8, r9) =>
        some (I8, J, r9)
      else none
theorem eX12_put {σ : Shp} {I : Nat → Nat → Int32} {J : Nat → Nat → Int64} {R : Nat → Nat → Option Nat} {x1 : Int32} {x2 : Int32} {x3 : Int32} {x4 : Int64} (hS : Skel σ R) : fX12_put σ I J R 114 x1 x2 x3 x4 = gX12_put I J x1 x2 x3 x4 := by
  unfold fX12_put gX12_put
  refine bi (fun c => ?_) (fun c => ?_)
  · rfl
  · refine bi (fun c => ?_) (fun c => ?_)
    · rfl
    · refine sg (kq114 hS) ?_
      refine sb (rq114_3 hS) ?_
      refine sg (kq115 hS) ?_
      refine bgr (by rw [lq115 hS]) (fun g1 => ?_)
      try with_reducible refine sg (kq114 hS) ?_
      refine bc (eX12_against hS) (fun r3 hc4 => ?_)
      refine bi (fun c => ?_) (fun c => ?_)
      · try with_reducible refine sg (kq114 hS) ?_
        refine sb (rq114_8 hS) ?_
        try with_reducible refine sg (kq114 hS) ?_
        refine sb (rq114_6 hS) ?_
        refine sg (kq118 hS) ?_
        refine bgr (by rw [lq118 hS]) (fun g5 => ?_)
        refine sg (kq119 hS) ?_
        refine bgr (by rw [lq119 hS]) (fun g6 => ?_)
        rfl
      · try with_reducible refine sg (kq114 hS) ?_
        refine bc (eX12_no hS) (fun pp hc10 => ?_)
        obtain ⟨I8, r9⟩ := pp
        rfl
def gX12_againstBed (I : Nat → Nat → Int32) (x1 : Int32) (x2 : Int32) (x3 : Int32) (x4 : Int32) : Option ((Nat → Nat → Int32) × (Int32)) :=
  (gX12_against I x1 x2 x3).bind fun r1 =>
  if r1 = 0 then
    if ¬ (x1 < 0 ∨ 4100 ≤ Int32.toNatClampNeg x1) then
    if ¬ (((I 118 (Int32.toNatClampNeg x1)) + x3) < 0 ∨ 41000 ≤ Int32.toNatClampNeg ((I 118 (Int32.toNatClampNeg x1)) + x3)) then
    let v5 := (I 120 (Int32.toNatClampNeg ((I 118 (Int32.toNatClampNeg x1)) + x3)))
    (gX12_looked I v5 x4).bind fun r6 =>
    if ¬ (v5 < 0 ∨ 4100 ≤ Int32.toNatClampNeg v5) then
    let I9 := u2 I 114 20 ((I 118 (Int32.toNatClampNeg v5)) + x4)
    some (I9, r6)
    else none
    else none
    else none
  else
    some (I, r1)
theorem eX12_againstBed {σ : Shp} {I : Nat → Nat → Int32} {R : Nat → Nat → Option Nat} {x1 : Int32} {x2 : Int32} {x3 : Int32} {x4 : Int32} (hS : Skel σ R) : fX12_againstBed σ I R 114 x1 x2 x3 x4 = gX12_againstBed I x1 x2 x3 x4 := by
  unfold fX12_againstBed gX12_againstBed
  refine sg (kq114 hS) ?_
  refine bc (eX12_against hS) (fun r1 hc2 => ?_)
  refine bi (fun c => ?_) (fun c => ?_)
  · try with_reducible refine sg (kq114 hS) ?_
    refine sb (rq114_10 hS) ?_
    try with_reducible refine sg (kq114 hS) ?_
    refine sb (rq114_6 hS) ?_
    refine sg (kq118 hS) ?_
    refine bgr (by rw [lq118 hS]) (fun g3 => ?_)
    refine sg (kq120 hS) ?_
    refine bgr (by rw [lq120 hS]) (fun g4 => ?_)
    try with_reducible refine sg (kq114 hS) ?_
    refine bc (eX12_looked hS) (fun r6 hc7 => ?_)
    try with_reducible refine sg (kq114 hS) ?_
    try with_reducible refine sg (kq118 hS) ?_
    refine bgr (by rw [lq118 hS]) (fun g8 => ?_)
    try with_reducible refine sg (kq114 hS) ?_
    rfl
  · rfl
def gX12_bed (I : Nat → Nat → Int32) (J : Nat → Nat → Int64) (x1 : Int32) (x2 : Int32) (x3 : Int32) (x4 : Int32) : Option ((Nat → Nat → Int32) × (Int64)) :=
  if (fX12_isBin x1) = 0 then
    some (I, (0 : Int64))
  else
    if (fX12_in x2 (8 : Int32) (10 : Int32)) = 0 then
      some (I, (0 : Int64))
    else
      if ¬ (x1 < 0 ∨ 16 ≤ Int32.toNatClampNeg x1) then
      (gX12_againstBed I (I 115 (Int32.toNatClampNeg x1)) x2 x3 x4).bind fun (I2, r3) =>
      if r3 = 0 then
        if ¬ ((I2 114 20) < 0 ∨ 164000 ≤ Int32.toNatClampNeg (I2 114 20)) then
        some (I2, (J 119 (Int32.toNatClampNeg (I2 114 20))))
        else none
      else
        (gX12_noBits I2 r3).bind fun (I6, r7) =>
        some (I6, r7)
      else none
theorem eX12_bed {σ : Shp} {I : Nat → Nat → Int32} {J : Nat → Nat → Int64} {R : Nat → Nat → Option Nat} {x1 : Int32} {x2 : Int32} {x3 : Int32} {x4 : Int32} (hS : Skel σ R) : fX12_bed σ I J R 114 x1 x2 x3 x4 = gX12_bed I J x1 x2 x3 x4 := by
  unfold fX12_bed gX12_bed
  refine bi (fun c => ?_) (fun c => ?_)
  · rfl
  · refine bi (fun c => ?_) (fun c => ?_)
    · rfl
    · refine sg (kq114 hS) ?_
      refine sb (rq114_3 hS) ?_
      refine sg (kq115 hS) ?_
      refine bgr (by rw [lq115 hS]) (fun g1 => ?_)
      try with_reducible refine sg (kq114 hS) ?_
      refine bc (eX12_againstBed hS) (fun pp hc4 => ?_)
      obtain ⟨I2, r3⟩ := pp
      refine bi (fun c => ?_) (fun c => ?_)
      · try with_reducible refine sg (kq114 hS) ?_
        refine sb (rq114_8 hS) ?_
        try with_reducible refine sg (kq114 hS) ?_
        refine sg (kq119 hS) ?_
        refine bgr (by rw [lq119 hS]) (fun g5 => ?_)
        rfl
      · try with_reducible refine sg (kq114 hS) ?_
        refine bc (eX12_noBits hS) (fun pp hc8 => ?_)
        obtain ⟨I6, r7⟩ := pp
        rfl
def gX12_setBed (I : Nat → Nat → Int32) (J : Nat → Nat → Int64) (x1 : Int32) (x2 : Int32) (x3 : Int32) (x4 : Int32) (x5 : Int64) : Option ((Nat → Nat → Int32) × (Nat → Nat → Int64) × (Int32)) :=
  if (fX12_isBin x1) = 0 then
    some (I, J, (-2 : Int32))
  else
    if (fX12_in x2 (8 : Int32) (10 : Int32)) = 0 then
      some (I, J, (-2 : Int32))
    else
      if ¬ (x1 < 0 ∨ 16 ≤ Int32.toNatClampNeg x1) then
      (gX12_againstBed I (I 115 (Int32.toNatClampNeg x1)) x2 x3 x4).bind fun (I2, r3) =>
      if r3 = 0 then
        if ¬ ((I2 114 20) < 0 ∨ 164000 ≤ Int32.toNatClampNeg (I2 114 20)) then
        let J6 := u2 J 119 (Int32.toNatClampNeg (I2 114 20)) (fX12_fitted (fX12_laneOf x2) x5)
        some (I2, J6, (1 : Int32))
        else none
      else
        (gX12_no I2 r3).bind fun (I7, r8) =>
        some (I7, J, r8)
      else none
theorem eX12_setBed {σ : Shp} {I : Nat → Nat → Int32} {J : Nat → Nat → Int64} {R : Nat → Nat → Option Nat} {x1 : Int32} {x2 : Int32} {x3 : Int32} {x4 : Int32} {x5 : Int64} (hS : Skel σ R) : fX12_setBed σ I J R 114 x1 x2 x3 x4 x5 = gX12_setBed I J x1 x2 x3 x4 x5 := by
  unfold fX12_setBed gX12_setBed
  refine bi (fun c => ?_) (fun c => ?_)
  · rfl
  · refine bi (fun c => ?_) (fun c => ?_)
    · rfl
    · refine sg (kq114 hS) ?_
      refine sb (rq114_3 hS) ?_
      refine sg (kq115 hS) ?_
      refine bgr (by rw [lq115 hS]) (fun g1 => ?_)
      try with_reducible refine sg (kq114 hS) ?_
      refine bc (eX12_againstBed hS) (fun pp hc4 => ?_)
      obtain ⟨I2, r3⟩ := pp
      refine bi (fun c => ?_) (fun c => ?_)
      · try with_reducible refine sg (kq114 hS) ?_
        refine sb (rq114_8 hS) ?_
        try with_reducible refine sg (kq114 hS) ?_
        refine sg (kq119 hS) ?_
        refine bgr (by rw [lq119 hS]) (fun g5 => ?_)
        rfl
      · try with_reducible refine sg (kq114 hS) ?_
        refine bc (eX12_no hS) (fun pp hc9 => ?_)
        obtain ⟨I7, r8⟩ := pp
        rfl
def gX12_countUp_b58  (σ : Shp) (R : Nat → Nat → Option Nat) (I : Nat → Nat → Int32) (J : Nat → Nat → Int64) (x5 : Int32) (x7 : Int32) : Option ((Nat → Nat → Int32) × (Nat → Nat → Int64) × (Int32)) :=
  if x7 = 0 then
    if ¬ ((I 114 20) < 0 ∨ 164000 ≤ Int32.toNatClampNeg (I 114 20)) then
    let v6 := (Int64.toInt32 (J 119 (Int32.toNatClampNeg (I 114 20))))
    let J7 := u2 J 119 (Int32.toNatClampNeg (I 114 20)) (Int32.toInt64 (v6 + (1 : Int32)))
    if x5 = 0 then
      some (I, J7, v6)
    else
      some (I, J7, (v6 + (1 : Int32)))
    else none
  else
    (gX12_no I x7).bind fun (I8, r9) =>
    some (I8, J, (0 : Int32))
theorem eX12_countUp_b58 {σ : Shp} {I : Nat → Nat → Int32} {J : Nat → Nat → Int64} {R : Nat → Nat → Option Nat} {x5 : Int32} {x7 : Int32} (hS : Skel σ R) : fX12_countUp_b58 σ R 114 I J x5 x7 = gX12_countUp_b58 σ R I J x5 x7 := by
  unfold fX12_countUp_b58 gX12_countUp_b58
  refine bi (fun c => ?_) (fun c => ?_)
  · refine sg (kq114 hS) ?_
    refine sb (rq114_8 hS) ?_
    try with_reducible refine sg (kq114 hS) ?_
    refine sg (kq119 hS) ?_
    refine bgr (by rw [lq119 hS]) (fun g5 => ?_)
    try with_reducible refine sg (kq114 hS) ?_
    try with_reducible refine sg (kq114 hS) ?_
    try with_reducible refine sg (kq119 hS) ?_
    try with_reducible refine sg (by rw [lq119 hS]; exact g5) ?_
    refine bi (fun c => ?_) (fun c => ?_)
    · rfl
    · rfl
  · refine sg (kq114 hS) ?_
    refine bc (eX12_no hS) (fun pp hc10 => ?_)
    obtain ⟨I8, r9⟩ := pp
    rfl
def gX12_countUp (σ : Shp) (I : Nat → Nat → Int32) (J : Nat → Nat → Int64) (R : Nat → Nat → Option Nat) (x1 : Int32) (x2 : Int32) (x3 : Int32) (x4 : Int32) (x5 : Int32) : Option ((Nat → Nat → Int32) × (Nat → Nat → Int64) × (Int32)) :=
  if (fX12_isBin x1) = 0 then
    some (I, J, (0 : Int32))
  else
    if ¬ (x1 < 0 ∨ 16 ≤ Int32.toNatClampNeg x1) then
    let v2 := (I 115 (Int32.toNatClampNeg x1))
    (gX12_against I v2 (11 : Int32) x2).bind fun r3 =>
    if r3 = 0 then
      if ¬ (v2 < 0 ∨ 4100 ≤ Int32.toNatClampNeg v2) then
      if ¬ (((I 118 (Int32.toNatClampNeg v2)) + x2) < 0 ∨ 41000 ≤ Int32.toNatClampNeg ((I 118 (Int32.toNatClampNeg v2)) + x2)) then
      (gX12_againstBed I (I 120 (Int32.toNatClampNeg ((I 118 (Int32.toNatClampNeg v2)) + x2))) (9 : Int32) x3 x4).bind fun (I13, r14) =>
      gX12_countUp_b58 σ R I13 J x5 r14
      else none
      else none
    else
      gX12_countUp_b58 σ R I J x5 r3
    else none
theorem eX12_countUp {σ : Shp} {I : Nat → Nat → Int32} {J : Nat → Nat → Int64} {R : Nat → Nat → Option Nat} {x1 : Int32} {x2 : Int32} {x3 : Int32} {x4 : Int32} {x5 : Int32} (hS : Skel σ R) : fX12_countUp σ I J R 114 x1 x2 x3 x4 x5 = gX12_countUp σ I J R x1 x2 x3 x4 x5 := by
  unfold fX12_countUp gX12_countUp
  refine bi (fun c => ?_) (fun c => ?_)
  · rfl
  · refine sg (kq114 hS) ?_
    refine sb (rq114_3 hS) ?_
    refine sg (kq115 hS) ?_
    refine bgr (by rw [lq115 hS]) (fun g1 => ?_)
    try with_reducible refine sg (kq114 hS) ?_
    refine bc (eX12_against hS) (fun r3 hc4 => ?_)
    refine bi (fun c => ?_) (fun c => ?_)
    · try with_reducible refine sg (kq114 hS) ?_
      refine sb (rq114_10 hS) ?_
      try with_reducible refine sg (kq114 hS) ?_
      refine sb (rq114_6 hS) ?_
      refine sg (kq118 hS) ?_
      refine bgr (by rw [lq118 hS]) (fun g11 => ?_)
      refine sg (kq120 hS) ?_
      refine bgr (by rw [lq120 hS]) (fun g12 => ?_)
      try with_reducible refine sg (kq114 hS) ?_
      refine bc (eX12_againstBed hS) (fun pp hc15 => ?_)
      obtain ⟨I13, r14⟩ := pp
      exact eX12_countUp_b58 hS
    · exact eX12_countUp_b58 hS
def gX12_againstPlace (I : Nat → Nat → Int32) (x1 : Int32) (x2 : Int32) : Option ((Int32)) :=
  if x1 = 0 then
    (gX12_looked I x1 x2).bind fun r1 =>
    some r1
  else
    (gX12_hasPlaces I x1).bind fun r3 =>
    if r3 = 0 then
      some (4 : Int32)
    else
      (gX12_looked I x1 x2).bind fun r5 =>
      some r5
theorem eX12_againstPlace {σ : Shp} {I : Nat → Nat → Int32} {R : Nat → Nat → Option Nat} {x1 : Int32} {x2 : Int32} (hS : Skel σ R) : fX12_againstPlace σ I R 114 x1 x2 = gX12_againstPlace I x1 x2 := by
  unfold fX12_againstPlace gX12_againstPlace
  refine bi (fun c => ?_) (fun c => ?_)
  · refine sg (kq114 hS) ?_
    refine bc (eX12_looked hS) (fun r1 hc2 => ?_)
    rfl
  · refine sg (kq114 hS) ?_
    refine bc (eX12_hasPlaces hS) (fun r3 hc4 => ?_)
    refine bi (fun c => ?_) (fun c => ?_)
    · rfl
    · try with_reducible refine sg (kq114 hS) ?_
      refine bc (eX12_looked hS) (fun r5 hc6 => ?_)
      rfl
def gX12_set_b65  (σ : Shp) (R : Nat → Nat → Option Nat) (I : Nat → Nat → Int32) (x2 : Int32) (x3 : Int32) (x4 : Int32) (s0 : Int32) : Option ((Nat → Nat → Int32) × (Int32)) :=
  if s0 = 0 then
    if ¬ (x4 < 0 ∨ 4100 ≤ Int32.toNatClampNeg x4) then
    if ¬ (x3 < 0 ∨ 16 ≤ Int32.toNatClampNeg x3) then
    if ¬ (((I 118 (Int32.toNatClampNeg x4)) + x2) < 0 ∨ 41000 ≤ Int32.toNatClampNeg ((I 118 (Int32.toNatClampNeg x4)) + x2)) then
    let I8 := u2 I 120 (Int32.toNatClampNeg ((I 118 (Int32.toNatClampNeg x4)) + x2)) ((Int32.toInt16 ((Int32.toInt16 (I 115 (Int32.toNatClampNeg x3))).toInt32)).toInt32)
    some (I8, (1 : Int32))
    else none
    else none
    else none
  else
    (gX12_no I s0).bind fun (I9, r10) =>
    some (I9, r10)
theorem eX12_set_b65 {σ : Shp} {I : Nat → Nat → Int32} {R : Nat → Nat → Option Nat} {x2 : Int32} {x3 : Int32} {x4 : Int32} {s0 : Int32} (hS : Skel σ R) : fX12_set_b65 σ R 114 I x2 x3 x4 s0 = gX12_set_b65 σ R I x2 x3 x4 s0 := by
  unfold fX12_set_b65 gX12_set_b65
  refine bi (fun c => ?_) (fun c => ?_)
  · refine sg (kq114 hS) ?_
    refine sb (rq114_10 hS) ?_
    try with_reducible refine sg (kq114 hS) ?_
    refine sb (rq114_6 hS) ?_
    refine sg (kq118 hS) ?_
    refine bgr (by rw [lq118 hS]) (fun g5 => ?_)
    try with_reducible refine sg (kq114 hS) ?_
    refine sb (rq114_3 hS) ?_
    refine sg (kq115 hS) ?_
    refine bgr (by rw [lq115 hS]) (fun g6 => ?_)
    refine sg (kq120 hS) ?_
    refine bgr (by rw [lq120 hS]) (fun g7 => ?_)
    rfl
  · refine sg (kq114 hS) ?_
    refine bc (eX12_no hS) (fun pp hc11 => ?_)
    obtain ⟨I9, r10⟩ := pp
    rfl
def gX12_set (σ : Shp) (I : Nat → Nat → Int32) (R : Nat → Nat → Option Nat) (x1 : Int32) (x2 : Int32) (x3 : Int32) : Option ((Nat → Nat → Int32) × (Int32)) :=
  if (fX12_isBin x1) = 0 then
    some (I, (-2 : Int32))
  else
    if (fX12_isBin x3) = 0 then
      some (I, (-2 : Int32))
    else
      if ¬ (x1 < 0 ∨ 16 ≤ Int32.toNatClampNeg x1) then
      let v2 := (I 115 (Int32.toNatClampNeg x1))
      (gX12_againstPlace I v2 x2).bind fun r3 =>
      if r3 = 0 then
        if ¬ (v2 < 0 ∨ 4100 ≤ Int32.toNatClampNeg v2) then
        if ¬ (x3 < 0 ∨ 16 ≤ Int32.toNatClampNeg x3) then
        (gX12_isFor I (I 116 (Int32.toNatClampNeg v2)) (I 115 (Int32.toNatClampNeg x3))).bind fun r14 =>
        if r14 = 0 then
          gX12_set_b65 σ R I x2 x3 v2 (5 : Int32)
        else
          gX12_set_b65 σ R I x2 x3 v2 r3
        else none
        else none
      else
        gX12_set_b65 σ R I x2 x3 v2 r3
      else none
theorem eX12_set {σ : Shp} {I : Nat → Nat → Int32} {R : Nat → Nat → Option Nat} {x1 : Int32} {x2 : Int32} {x3 : Int32} (hS : Skel σ R) : fX12_set σ I R 114 x1 x2 x3 = gX12_set σ I R x1 x2 x3 := by
  unfold fX12_set gX12_set
  refine bi (fun c => ?_) (fun c => ?_)
  · rfl
  · refine bi (fun c => ?_) (fun c => ?_)
    · rfl
    · refine sg (kq114 hS) ?_
      refine sb (rq114_3 hS) ?_
      refine sg (kq115 hS) ?_
      refine bgr (by rw [lq115 hS]) (fun g1 => ?_)
      try with_reducible refine sg (kq114 hS) ?_
      refine bc (eX12_againstPlace hS) (fun r3 hc4 => ?_)
      refine bi (fun c => ?_) (fun c => ?_)
      · try with_reducible refine sg (kq114 hS) ?_
        refine sb (rq114_4 hS) ?_
        refine sg (kq116 hS) ?_
        refine bgr (by rw [lq116 hS]) (fun g12 => ?_)
        try with_reducible refine sg (kq114 hS) ?_
        try with_reducible refine sg (kq115 hS) ?_
        refine bgr (by rw [lq115 hS]) (fun g13 => ?_)
        try with_reducible refine sg (kq114 hS) ?_
        refine bc (eX12_isFor hS) (fun r14 hc15 => ?_)
        refine bi (fun c => ?_) (fun c => ?_)
        · exact eX12_set_b65 hS
        · exact eX12_set_b65 hS
      · exact eX12_set_b65 hS
def gX12_lift (I : Nat → Nat → Int32) (x1 : Int32) (x2 : Int32) (x3 : Int32) : Option ((Nat → Nat → Int32) × (Int32)) :=
  if (fX12_isBin x1) = 0 then
    some (I, (-2 : Int32))
  else
    if (fX12_isBin x2) = 0 then
      some (I, (-2 : Int32))
    else
      if ¬ (x2 < 0 ∨ 16 ≤ Int32.toNatClampNeg x2) then
      let v2 := (I 115 (Int32.toNatClampNeg x2))
      (gX12_againstPlace I v2 x3).bind fun r3 =>
      if r3 = 0 then
        if ¬ (v2 < 0 ∨ 4100 ≤ Int32.toNatClampNeg v2) then
        if ¬ (((I 118 (Int32.toNatClampNeg v2)) + x3) < 0 ∨ 41000 ≤ Int32.toNatClampNeg ((I 118 (Int32.toNatClampNeg v2)) + x3)) then
        if ¬ (x1 < 0 ∨ 16 ≤ Int32.toNatClampNeg x1) then
        let I8 := u2 I 115 (Int32.toNatClampNeg x1) (I 120 (Int32.toNatClampNeg ((I 118 (Int32.toNatClampNeg v2)) + x3)))
        some (I8, (1 : Int32))
        else none
        else none
        else none
      else
        (gX12_no I r3).bind fun (I9, r10) =>
        some (I9, r10)
      else none
theorem eX12_lift {σ : Shp} {I : Nat → Nat → Int32} {R : Nat → Nat → Option Nat} {x1 : Int32} {x2 : Int32} {x3 : Int32} (hS : Skel σ R) : fX12_lift σ I R 114 x1 x2 x3 = gX12_lift I x1 x2 x3 := by
  unfold fX12_lift gX12_lift
  refine bi (fun c => ?_) (fun c => ?_)
  · rfl
  · refine bi (fun c => ?_) (fun c => ?_)
    · rfl
    · refine sg (kq114 hS) ?_
      refine sb (rq114_3 hS) ?_
      refine sg (kq115 hS) ?_
      refine bgr (by rw [lq115 hS]) (fun g1 => ?_)
      try with_reducible refine sg (kq114 hS) ?_
      refine bc (eX12_againstPlace hS) (fun r3 hc4 => ?_)
      refine bi (fun c => ?_) (fun c => ?_)
      · try with_reducible refine sg (kq114 hS) ?_
        try with_reducible refine sg (kq114 hS) ?_
        refine sb (rq114_10 hS) ?_
        try with_reducible refine sg (kq114 hS) ?_
        refine sb (rq114_6 hS) ?_
        refine sg (kq118 hS) ?_
        refine bgr (by rw [lq118 hS]) (fun g5 => ?_)
        refine sg (kq120 hS) ?_
        refine bgr (by rw [lq120 hS]) (fun g6 => ?_)
        try with_reducible refine sg (kq115 hS) ?_
        refine bgr (by rw [lq115 hS]) (fun g7 => ?_)
        rfl
      · try with_reducible refine sg (kq114 hS) ?_
        refine bc (eX12_no hS) (fun pp hc11 => ?_)
        obtain ⟨I9, r10⟩ := pp
        rfl
def gX12_liftAs_b79  (σ : Shp) (R : Nat → Nat → Option Nat) (I : Nat → Nat → Int32) (x1 : Int32) (x3 : Int32) (x5 : Int32) (s0 : Int32) : Option ((Nat → Nat → Int32) × (Int32)) :=
  if s0 = 0 then
    if ¬ (x5 < 0 ∨ 4100 ≤ Int32.toNatClampNeg x5) then
    if ¬ (((I 118 (Int32.toNatClampNeg x5)) + x3) < 0 ∨ 41000 ≤ Int32.toNatClampNeg ((I 118 (Int32.toNatClampNeg x5)) + x3)) then
    if ¬ (x1 < 0 ∨ 16 ≤ Int32.toNatClampNeg x1) then
    let I8 := u2 I 115 (Int32.toNatClampNeg x1) (I 120 (Int32.toNatClampNeg ((I 118 (Int32.toNatClampNeg x5)) + x3)))
    some (I8, (1 : Int32))
    else none
    else none
    else none
  else
    (gX12_no I s0).bind fun (I9, r10) =>
    some (I9, r10)
theorem eX12_liftAs_b79 {σ : Shp} {I : Nat → Nat → Int32} {R : Nat → Nat → Option Nat} {x1 : Int32} {x3 : Int32} {x5 : Int32} {s0 : Int32} (hS : Skel σ R) : fX12_liftAs_b79 σ R 114 I x1 x3 x5 s0 = gX12_liftAs_b79 σ R I x1 x3 x5 s0 := by
  unfold fX12_liftAs_b79 gX12_liftAs_b79
  refine bi (fun c => ?_) (fun c => ?_)
  · refine sg (kq114 hS) ?_
    refine sb (rq114_3 hS) ?_
    try with_reducible refine sg (kq114 hS) ?_
    refine sb (rq114_10 hS) ?_
    try with_reducible refine sg (kq114 hS) ?_
    refine sb (rq114_6 hS) ?_
    refine sg (kq118 hS) ?_
    refine bgr (by rw [lq118 hS]) (fun g5 => ?_)
    refine sg (kq120 hS) ?_
    refine bgr (by rw [lq120 hS]) (fun g6 => ?_)
    refine sg (kq115 hS) ?_
    refine bgr (by rw [lq115 hS]) (fun g7 => ?_)
    rfl
  · refine sg (kq114 hS) ?_
    refine bc (eX12_no hS) (fun pp hc11 => ?_)
    obtain ⟨I9, r10⟩ := pp
    rfl
def gX12_liftAs (σ : Shp) (I : Nat → Nat → Int32) (R : Nat → Nat → Option Nat) (x1 : Int32) (x2 : Int32) (x3 : Int32) (x4 : Int32) : Option ((Nat → Nat → Int32) × (Int32)) :=
  if (fX12_isBin x1) = 0 then
    some (I, (-2 : Int32))
  else
    if (fX12_isBin x2) = 0 then
      some (I, (-2 : Int32))
    else
      if (fX12_in x4 (0 : Int32) (17 : Int32)) = 0 then
        some (I, (-2 : Int32))
      else
        if ¬ (x2 < 0 ∨ 16 ≤ Int32.toNatClampNeg x2) then
        let v2 := (I 115 (Int32.toNatClampNeg x2))
        (gX12_againstPlace I v2 x3).bind fun r3 =>
        if r3 = 0 then
          if ¬ (v2 < 0 ∨ 4100 ≤ Int32.toNatClampNeg v2) then
          if ¬ (((I 118 (Int32.toNatClampNeg v2)) + x3) < 0 ∨ 41000 ≤ Int32.toNatClampNeg ((I 118 (Int32.toNatClampNeg v2)) + x3)) then
          (gX12_isOf I (I 120 (Int32.toNatClampNeg ((I 118 (Int32.toNatClampNeg v2)) + x3))) x4).bind fun r14 =>
          if r14 = 0 then
            gX12_liftAs_b79 σ R I x1 x3 v2 (4 : Int32)
          else
            gX12_liftAs_b79 σ R I x1 x3 v2 r3
          else none
          else none
        else
          gX12_liftAs_b79 σ R I x1 x3 v2 r3
        else none
theorem eX12_liftAs {σ : Shp} {I : Nat → Nat → Int32} {R : Nat → Nat → Option Nat} {x1 : Int32} {x2 : Int32} {x3 : Int32} {x4 : Int32} (hS : Skel σ R) : fX12_liftAs σ I R 114 x1 x2 x3 x4 = gX12_liftAs σ I R x1 x2 x3 x4 := by
  unfold fX12_liftAs gX12_liftAs
  refine bi (fun c => ?_) (fun c => ?_)
  · rfl
  · refine bi (fun c => ?_) (fun c => ?_)
    · rfl
    · refine bi (fun c => ?_) (fun c => ?_)
      · rfl
      · refine sg (kq114 hS) ?_
        refine sb (rq114_3 hS) ?_
        refine sg (kq115 hS) ?_
        refine bgr (by rw [lq115 hS]) (fun g1 => ?_)
        try with_reducible refine sg (kq114 hS) ?_
        refine bc (eX12_againstPlace hS) (fun r3 hc4 => ?_)
        refine bi (fun c => ?_) (fun c => ?_)
        · try with_reducible refine sg (kq114 hS) ?_
          refine sb (rq114_10 hS) ?_
          try with_reducible refine sg (kq114 hS) ?_
          refine sb (rq114_6 hS) ?_
          refine sg (kq118 hS) ?_
          refine bgr (by rw [lq118 hS]) (fun g12 => ?_)
          refine sg (kq120 hS) ?_
          refine bgr (by rw [lq120 hS]) (fun g13 => ?_)
          try with_reducible refine sg (kq114 hS) ?_
          refine bc (eX12_isOf hS) (fun r14 hc15 => ?_)
          refine bi (fun c => ?_) (fun c => ?_)
          · exact eX12_liftAs_b79 hS
          · exact eX12_liftAs_b79 hS
        · exact eX12_liftAs_b79 hS
def gX12_againstShift_b71  (σ : Shp) (I : Nat → Nat → Int32) (R : Nat → Nat → Option Nat) (x1 : Int32) (x2 : Int32) (x3 : Int32) (x4 : Int32) (x5 : Int32) : Option ((Int32)) :=
  if x2 < 0 then
    some (2 : Int32)
  else
    if x4 < 0 then
      some (2 : Int32)
    else
      if x5 < 0 then
        some (2 : Int32)
      else
        if ¬ (x1 < 0 ∨ 4100 ≤ Int32.toNatClampNeg x1) then
        if ((I 117 (Int32.toNatClampNeg x1)) - x5) < x2 then
          some (2 : Int32)
        else
          if ¬ (x3 < 0 ∨ 4100 ≤ Int32.toNatClampNeg x3) then
          if x4 ≤ ((I 117 (Int32.toNatClampNeg x3)) - x5) then
            some (0 : Int32)
          else
            some (2 : Int32)
          else none
        else none
theorem eX12_againstShift_b71 {σ : Shp} {I : Nat → Nat → Int32} {R : Nat → Nat → Option Nat} {x1 : Int32} {x2 : Int32} {x3 : Int32} {x4 : Int32} {x5 : Int32} (hS : Skel σ R) : fX12_againstShift_b71 σ I R 114 x1 x2 x3 x4 x5 = gX12_againstShift_b71 σ I R x1 x2 x3 x4 x5 := by
  unfold fX12_againstShift_b71 gX12_againstShift_b71
  refine bi (fun c => ?_) (fun c => ?_)
  · rfl
  · refine bi (fun c => ?_) (fun c => ?_)
    · rfl
    · refine bi (fun c => ?_) (fun c => ?_)
      · rfl
      · refine sg (kq114 hS) ?_
        refine sb (rq114_5 hS) ?_
        refine sg (kq117 hS) ?_
        refine bgr (by rw [lq117 hS]) (fun g3 => ?_)
        refine bi (fun c => ?_) (fun c => ?_)
        · rfl
        · try with_reducible refine sg (kq114 hS) ?_
          try with_reducible refine sg (kq117 hS) ?_
          refine bgr (by rw [lq117 hS]) (fun g4 => ?_)
          refine bi (fun c => ?_) (fun c => ?_)
          · rfl
          · rfl
def gX12_againstShift_b46  (σ : Shp) (I : Nat → Nat → Int32) (R : Nat → Nat → Option Nat) (x1 : Int32) (x2 : Int32) (x3 : Int32) (x4 : Int32) (x5 : Int32) (s0 : Int32) : Option ((Int32)) :=
  if s0 = 0 then
    (gX12_hasPlaces I x1).bind fun r5 =>
    if r5 = 0 then
      some (5 : Int32)
    else
      (gX12_hasPlaces I x3).bind fun r7 =>
      if r7 = 0 then
        some (5 : Int32)
      else
        gX12_againstShift_b71 σ I R x1 x2 x3 x4 x5
  else
    gX12_againstShift_b71 σ I R x1 x2 x3 x4 x5
theorem eX12_againstShift_b46 {σ : Shp} {I : Nat → Nat → Int32} {R : Nat → Nat → Option Nat} {x1 : Int32} {x2 : Int32} {x3 : Int32} {x4 : Int32} {x5 : Int32} {s0 : Int32} (hS : Skel σ R) : fX12_againstShift_b46 σ I R 114 x1 x2 x3 x4 x5 s0 = gX12_againstShift_b46 σ I R x1 x2 x3 x4 x5 s0 := by
  unfold fX12_againstShift_b46 gX12_againstShift_b46
  refine bi (fun c => ?_) (fun c => ?_)
  · refine sg (kq114 hS) ?_
    refine bc (eX12_hasPlaces hS) (fun r5 hc6 => ?_)
    refine bi (fun c => ?_) (fun c => ?_)
    · rfl
    · try with_reducible refine sg (kq114 hS) ?_
      refine bc (eX12_hasPlaces hS) (fun r7 hc8 => ?_)
      refine bi (fun c => ?_) (fun c => ?_)
      · rfl
      · exact eX12_againstShift_b71 hS
  · exact eX12_againstShift_b71 hS
def gX12_againstShift (σ : Shp) (I : Nat → Nat → Int32) (R : Nat → Nat → Option Nat) (x1 : Int32) (x2 : Int32) (x3 : Int32) (x4 : Int32) (x5 : Int32) : Option ((Int32)) :=
  if x1 = 0 then
    some (1 : Int32)
  else
    if x3 = 0 then
      some (1 : Int32)
    else
      (gX12_isRow I x1).bind fun r1 =>
      if r1 = 0 then
        gX12_againstShift_b46 σ I R x1 x2 x3 x4 x5 (0 : Int32)
      else
        (gX12_isRow I x3).bind fun r9 =>
        if r9 = 0 then
          gX12_againstShift_b46 σ I R x1 x2 x3 x4 x5 (0 : Int32)
        else
          if ¬ (x1 < 0 ∨ 4100 ≤ Int32.toNatClampNeg x1) then
          if ¬ (x3 < 0 ∨ 4100 ≤ Int32.toNatClampNeg x3) then
          if (I 116 (Int32.toNatClampNeg x1)) = (I 116 (Int32.toNatClampNeg x3)) then
            gX12_againstShift_b46 σ I R x1 x2 x3 x4 x5 (1 : Int32)
          else
            gX12_againstShift_b46 σ I R x1 x2 x3 x4 x5 (0 : Int32)
          else none
          else none
theorem eX12_againstShift {σ : Shp} {I : Nat → Nat → Int32} {R : Nat → Nat → Option Nat} {x1 : Int32} {x2 : Int32} {x3 : Int32} {x4 : Int32} {x5 : Int32} (hS : Skel σ R) : fX12_againstShift σ I R 114 x1 x2 x3 x4 x5 = gX12_againstShift σ I R x1 x2 x3 x4 x5 := by
  unfold fX12_againstShift gX12_againstShift
  refine bi (fun c => ?_) (fun c => ?_)
  · rfl
  · refine bi (fun c => ?_) (fun c => ?_)
    · rfl
    · refine sg (kq114 hS) ?_
      refine bc (eX12_isRow hS) (fun r1 hc2 => ?_)
      refine bi (fun c => ?_) (fun c => ?_)
      · exact eX12_againstShift_b46 hS
      · try with_reducible refine sg (kq114 hS) ?_
        refine bc (eX12_isRow hS) (fun r9 hc10 => ?_)
        refine bi (fun c => ?_) (fun c => ?_)
        · exact eX12_againstShift_b46 hS
        · try with_reducible refine sg (kq114 hS) ?_
          refine sb (rq114_4 hS) ?_
          refine sg (kq116 hS) ?_
          refine bgr (by rw [lq116 hS]) (fun g11 => ?_)
          try with_reducible refine sg (kq114 hS) ?_
          try with_reducible refine sg (kq116 hS) ?_
          refine bgr (by rw [lq116 hS]) (fun g12 => ?_)
          refine bi (fun c => ?_) (fun c => ?_)
          · exact eX12_againstShift_b46 hS
          · exact eX12_againstShift_b46 hS
def gX12_shift_l142  (σ : Shp) (R : Nat → Nat → Option Nat) : Nat → (Nat → Nat → Int32) → (Nat → Nat → Int64) → (Int32) → (Int32) → (Int32) → (Int32) → (Int32) → Option ((Nat → Nat → Int32) × (Nat → Nat → Int64) × (Int32))
  | 0, _, _, _, _, _, _, _ => none
  | n + 1, I, J, x4, x5, x7, x9, x10 =>
    if x5 ≤ x10 then
      some (I, J, x5)
    else
      if x9 = 0 then
        if ¬ (x7 < 0 ∨ 4100 ≤ Int32.toNatClampNeg x7) then
        if ¬ (x10 < 0 ∨ 40 ≤ Int32.toNatClampNeg x10) then
        (gX12_isFor I (I 116 (Int32.toNatClampNeg x7)) (Int64.toInt32 (J 128 (Int32.toNatClampNeg x10)))).bind fun r12 =>
        if r12 = 0 then
          (gX12_no I (5 : Int32)).bind fun (I19, r20) =>
          some (I19, J, r20)
        else
          if ¬ (x7 < 0 ∨ 4100 ≤ Int32.toNatClampNeg x7) then
          if ¬ ((((I 118 (Int32.toNatClampNeg x7)) + x4) + x10) < 0 ∨ 41000 ≤ Int32.toNatClampNeg (((I 118 (Int32.toNatClampNeg x7)) + x4) + x10)) then
          let I16 := u2 I 120 (Int32.toNatClampNeg (((I 118 (Int32.toNatClampNeg x7)) + x4) + x10)) ((Int32.toInt16 ((Int32.toInt16 (Int64.toInt32 (J 128 (Int32.toNatClampNeg x10)))).toInt32)).toInt32)
          let I17 := u2 I16 114 22 ((I16 114 22) + (1 : Int32))
          let v18 := x10 + (1 : Int32)
          gX12_shift_l142 σ R n I17 J x4 x5 x7 x9 v18
          else none
          else none
        else none
        else none
      else
        if ¬ (x7 < 0 ∨ 4100 ≤ Int32.toNatClampNeg x7) then
        if ¬ (x10 < 0 ∨ 40 ≤ Int32.toNatClampNeg x10) then
        if ¬ ((((I 118 (Int32.toNatClampNeg x7)) + x4) + x10) < 0 ∨ 164000 ≤ Int32.toNatClampNeg (((I 118 (Int32.toNatClampNeg x7)) + x4) + x10)) then
        let J25 := u2 J 119 (Int32.toNatClampNeg (((I 118 (Int32.toNatClampNeg x7)) + x4) + x10)) (J 128 (Int32.toNatClampNeg x10))
        let I26 := u2 I 114 22 ((I 114 22) + (1 : Int32))
        let v27 := x10 + (1 : Int32)
        gX12_shift_l142 σ R n I26 J25 x4 x5 x7 x9 v27
        else none
        else none
        else none
theorem eX12_shift_l142 {σ : Shp} {R : Nat → Nat → Option Nat} (hS : Skel σ R) : ∀ (n : Nat) (I : Nat → Nat → Int32) (J : Nat → Nat → Int64) (x4 : Int32) (x5 : Int32) (x7 : Int32) (x9 : Int32) (x10 : Int32), fX12_shift_l142 σ R 114 n I J x4 x5 x7 x9 x10 = gX12_shift_l142 σ R n I J x4 x5 x7 x9 x10 := by
  intro n
  induction n with
  | zero => intro I J x4 x5 x7 x9 x10; rfl
  | succ n ih =>
    intro I J x4 x5 x7 x9 x10
    rw [fX12_shift_l142, gX12_shift_l142]
    refine bi (fun c => ?_) (fun c => ?_)
    · rfl
    · refine bi (fun c => ?_) (fun c => ?_)
      · refine sg (kq114 hS) ?_
        refine sb (rq114_4 hS) ?_
        refine sg (kq116 hS) ?_
        refine bgr (by rw [lq116 hS]) (fun g10 => ?_)
        try with_reducible refine sg (kq114 hS) ?_
        refine sb (rq114_21 hS) ?_
        refine sg (kq128 hS) ?_
        refine bgr (by rw [lq128 hS]) (fun g11 => ?_)
        try with_reducible refine sg (kq114 hS) ?_
        refine bc (eX12_isFor hS) (fun r12 hc13 => ?_)
        refine bi (fun c => ?_) (fun c => ?_)
        · try with_reducible refine sg (kq114 hS) ?_
          refine bc (eX12_no hS) (fun pp hc21 => ?_)
          obtain ⟨I19, r20⟩ := pp
          rfl
        · try with_reducible refine sg (kq114 hS) ?_
          refine sb (rq114_10 hS) ?_
          try with_reducible refine sg (kq114 hS) ?_
          refine sb (rq114_6 hS) ?_
          refine sg (kq118 hS) ?_
          refine bgr (by rw [lq118 hS]) (fun g14 => ?_)
          try with_reducible refine sg (kq114 hS) ?_
          try with_reducible refine sg (kq128 hS) ?_
          try with_reducible refine sg (by rw [lq128 hS]; exact g11) ?_
          refine sg (kq120 hS) ?_
          refine bgr (by rw [lq120 hS]) (fun g15 => ?_)
          try with_reducible refine sg (kq114 hS) ?_
          try with_reducible refine sg (kq114 hS) ?_
          exact ih _ _ _ _ _ _ _
      · refine sg (kq114 hS) ?_
        refine sb (rq114_8 hS) ?_
        try with_reducible refine sg (kq114 hS) ?_
        refine sb (rq114_6 hS) ?_
        refine sg (kq118 hS) ?_
        refine bgr (by rw [lq118 hS]) (fun g22 => ?_)
        try with_reducible refine sg (kq114 hS) ?_
        refine sb (rq114_21 hS) ?_
        refine sg (kq128 hS) ?_
        refine bgr (by rw [lq128 hS]) (fun g23 => ?_)
        refine sg (kq119 hS) ?_
        refine bgr (by rw [lq119 hS]) (fun g24 => ?_)
        try with_reducible refine sg (kq114 hS) ?_
        try with_reducible refine sg (kq114 hS) ?_
        exact ih _ _ _ _ _ _ _
def gX12_shift_l76  (σ : Shp) (R : Nat → Nat → Option Nat) : Nat → (Nat → Nat → Int32) → (Nat → Nat → Int64) → (Int32) → (Int32) → (Int32) → (Int32) → (Int32) → (Int32) → (Int32) → Option ((Nat → Nat → Int32) × (Nat → Nat → Int64) × (Int32))
  | 0, _, _, _, _, _, _, _, _, _ => none
  | n + 1, I, J, x2, x4, x5, x6, x7, x9, x10 =>
    if x5 ≤ x10 then
      gX12_shift_l142 σ R FUx I J x4 x5 x7 x9 (0 : Int32)
    else
      if x9 = 0 then
        if ¬ (x6 < 0 ∨ 4100 ≤ Int32.toNatClampNeg x6) then
        if ¬ ((((I 118 (Int32.toNatClampNeg x6)) + x2) + x10) < 0 ∨ 41000 ≤ Int32.toNatClampNeg (((I 118 (Int32.toNatClampNeg x6)) + x2) + x10)) then
        if ¬ (x10 < 0 ∨ 40 ≤ Int32.toNatClampNeg x10) then
        let J31 := u2 J 128 (Int32.toNatClampNeg x10) (Int32.toInt64 (I 120 (Int32.toNatClampNeg (((I 118 (Int32.toNatClampNeg x6)) + x2) + x10))))
        let v32 := x10 + (1 : Int32)
        gX12_shift_l76 σ R n I J31 x2 x4 x5 x6 x7 x9 v32
        else none
        else none
        else none
      else
        if ¬ (x6 < 0 ∨ 4100 ≤ Int32.toNatClampNeg x6) then
        if ¬ ((((I 118 (Int32.toNatClampNeg x6)) + x2) + x10) < 0 ∨ 164000 ≤ Int32.toNatClampNeg (((I 118 (Int32.toNatClampNeg x6)) + x2) + x10)) then
        if ¬ (x10 < 0 ∨ 40 ≤ Int32.toNatClampNeg x10) then
        let J36 := u2 J 128 (Int32.toNatClampNeg x10) (J 119 (Int32.toNatClampNeg (((I 118 (Int32.toNatClampNeg x6)) + x2) + x10)))
        let v37 := x10 + (1 : Int32)
        gX12_shift_l76 σ R n I J36 x2 x4 x5 x6 x7 x9 v37
        else none
        else none
        else none
theorem eX12_shift_l76 {σ : Shp} {R : Nat → Nat → Option Nat} (hS : Skel σ R) : ∀ (n : Nat) (I : Nat → Nat → Int32) (J : Nat → Nat → Int64) (x2 : Int32) (x4 : Int32) (x5 : Int32) (x6 : Int32) (x7 : Int32) (x9 : Int32) (x10 : Int32), fX12_shift_l76 σ R 114 n I J x2 x4 x5 x6 x7 x9 x10 = gX12_shift_l76 σ R n I J x2 x4 x5 x6 x7 x9 x10 := by
  intro n
  induction n with
  | zero => intro I J x2 x4 x5 x6 x7 x9 x10; rfl
  | succ n ih =>
    intro I J x2 x4 x5 x6 x7 x9 x10
    rw [fX12_shift_l76, gX12_shift_l76]
    refine bi (fun c => ?_) (fun c => ?_)
    · exact eX12_shift_l142 hS _ _ _ _ _ _ _ _
    · refine sg (kq114 hS) ?_
      refine sb (rq114_21 hS) ?_
      refine bi (fun c => ?_) (fun c => ?_)
      · try with_reducible refine sg (kq114 hS) ?_
        refine sb (rq114_10 hS) ?_
        try with_reducible refine sg (kq114 hS) ?_
        refine sb (rq114_6 hS) ?_
        refine sg (kq118 hS) ?_
        refine bgr (by rw [lq118 hS]) (fun g28 => ?_)
        refine sg (kq120 hS) ?_
        refine bgr (by rw [lq120 hS]) (fun g29 => ?_)
        refine sg (kq128 hS) ?_
        refine bgr (by rw [lq128 hS]) (fun g30 => ?_)
        exact ih _ _ _ _ _ _ _ _ _
      · try with_reducible refine sg (kq114 hS) ?_
        refine sb (rq114_8 hS) ?_
        try with_reducible refine sg (kq114 hS) ?_
        refine sb (rq114_6 hS) ?_
        refine sg (kq118 hS) ?_
        refine bgr (by rw [lq118 hS]) (fun g33 => ?_)
        refine sg (kq119 hS) ?_
        refine bgr (by rw [lq119 hS]) (fun g34 => ?_)
        refine sg (kq128 hS) ?_
        refine bgr (by rw [lq128 hS]) (fun g35 => ?_)
        exact ih _ _ _ _ _ _ _ _ _
def gX12_shift (σ : Shp) (I : Nat → Nat → Int32) (J : Nat → Nat → Int64) (R : Nat → Nat → Option Nat) (x1 : Int32) (x2 : Int32) (x3 : Int32) (x4 : Int32) (x5 : Int32) : Option ((Nat → Nat → Int32) × (Nat → Nat → Int64) × (Int32)) :=
  if (fX12_isBin x1) = 0 then
    some (I, J, (-2 : Int32))
  else
    if (fX12_isBin x3) = 0 then
      some (I, J, (-2 : Int32))
    else
      let I1 := u2 I 114 22 (0 : Int32)
      if ¬ (x1 < 0 ∨ 16 ≤ Int32.toNatClampNeg x1) then
      let v3 := (I1 115 (Int32.toNatClampNeg x1))
      if ¬ (x3 < 0 ∨ 16 ≤ Int32.toNatClampNeg x3) then
      let v5 := (I1 115 (Int32.toNatClampNeg x3))
      (gX12_againstShift σ I1 R v3 x2 v5 x4 x5).bind fun r6 =>
      if r6 = 0 then
        (gX12_isRow I1 v3).bind fun r8 =>
        gX12_shift_l76 σ R FUx I1 J x2 x4 x5 v3 v5 r8 (0 : Int32)
      else
        (gX12_no I1 r6).bind fun (I38, r39) =>
        some (I38, J, r39)
      else none
      else none
theorem eX12_shift {σ : Shp} {I : Nat → Nat → Int32} {J : Nat → Nat → Int64} {R : Nat → Nat → Option Nat} {x1 : Int32} {x2 : Int32} {x3 : Int32} {x4 : Int32} {x5 : Int32} (hS : Skel σ R) : fX12_shift σ I J R 114 x1 x2 x3 x4 x5 = gX12_shift σ I J R x1 x2 x3 x4 x5 := by
  unfold fX12_shift gX12_shift
  refine bi (fun c => ?_) (fun c => ?_)
  · rfl
  · refine bi (fun c => ?_) (fun c => ?_)
    · rfl
    · refine sg (kq114 hS) ?_
      try with_reducible refine sg (kq114 hS) ?_
      refine sb (rq114_3 hS) ?_
      refine sg (kq115 hS) ?_
      refine bgr (by rw [lq115 hS]) (fun g2 => ?_)
      try with_reducible refine sg (kq114 hS) ?_
      try with_reducible refine sg (kq115 hS) ?_
      refine bgr (by rw [lq115 hS]) (fun g4 => ?_)
      try with_reducible refine sg (kq114 hS) ?_
      refine bc (eX12_againstShift hS) (fun r6 hc7 => ?_)
      refine bi (fun c => ?_) (fun c => ?_)
      · try with_reducible refine sg (kq114 hS) ?_
        refine bc (eX12_isRow hS) (fun r8 hc9 => ?_)
        exact eX12_shift_l76 hS _ _ _ _ _ _ _ _ _ _
      · try with_reducible refine sg (kq114 hS) ?_
        refine bc (eX12_no hS) (fun pp hc40 => ?_)
        obtain ⟨I38, r39⟩ := pp
        rfl
def gX12_came (I : Nat → Nat → Int32) : Option ((Int32)) :=
  some (I 114 22)
theorem eX12_came {σ : Shp} {I : Nat → Nat → Int32} {R : Nat → Nat → Option Nat}  (hS : Skel σ R) : fX12_came σ I 114 = gX12_came I := by
  unfold fX12_came gX12_came
  refine sg (kq114 hS) ?_
  rfl
def gX12_rowCopy_l19  (σ : Shp) (R : Nat → Nat → Option Nat) : Nat → (Nat → Nat → Int32) → (Nat → Nat → Int64) → (Int32) → (Int32) → (Int32) → Option ((Nat → Nat → Int32) × (Nat → Nat → Int64) × (Int32))
  | 0, _, _, _, _, _ => none
  | n + 1, I, J, x1, x2, x3 =>
    if ¬ (x1 < 0 ∨ 4100 ≤ Int32.toNatClampNeg x1) then
    if (I 117 (Int32.toNatClampNeg x1)) ≤ x3 then
      some (I, J, x2)
    else
      if ¬ (x2 < 0 ∨ 4100 ≤ Int32.toNatClampNeg x2) then
      if ¬ (x1 < 0 ∨ 4100 ≤ Int32.toNatClampNeg x1) then
      if ¬ (((I 118 (Int32.toNatClampNeg x1)) + x3) < 0 ∨ 164000 ≤ Int32.toNatClampNeg ((I 118 (Int32.toNatClampNeg x1)) + x3)) then
      if ¬ (((I 118 (Int32.toNatClampNeg x2)) + x3) < 0 ∨ 164000 ≤ Int32.toNatClampNeg ((I 118 (Int32.toNatClampNeg x2)) + x3)) then
      let J11 := u2 J 119 (Int32.toNatClampNeg ((I 118 (Int32.toNatClampNeg x2)) + x3)) (J 119 (Int32.toNatClampNeg ((I 118 (Int32.toNatClampNeg x1)) + x3)))
      let v12 := x3 + (1 : Int32)
      gX12_rowCopy_l19 σ R n I J11 x1 x2 v12
      else none
      else none
      else none
      else none
    else none
theorem eX12_rowCopy_l19 {σ : Shp} {R : Nat → Nat → Option Nat} (hS : Skel σ R) : ∀ (n : Nat) (I : Nat → Nat → Int32) (J : Nat → Nat → Int64) (x1 : Int32) (x2 : Int32) (x3 : Int32), fX12_rowCopy_l19 σ R 114 n I J x1 x2 x3 = gX12_rowCopy_l19 σ R n I J x1 x2 x3 := by
  intro n
  induction n with
  | zero => intro I J x1 x2 x3; rfl
  | succ n ih =>
    intro I J x1 x2 x3
    rw [fX12_rowCopy_l19, gX12_rowCopy_l19]
    refine sg (kq114 hS) ?_
    refine sb (rq114_5 hS) ?_
    refine sg (kq117 hS) ?_
    refine bgr (by rw [lq117 hS]) (fun g6 => ?_)
    refine bi (fun c => ?_) (fun c => ?_)
    · rfl
    · try with_reducible refine sg (kq114 hS) ?_
      refine sb (rq114_8 hS) ?_
      try with_reducible refine sg (kq114 hS) ?_
      refine sb (rq114_6 hS) ?_
      refine sg (kq118 hS) ?_
      refine bgr (by rw [lq118 hS]) (fun g7 => ?_)
      try with_reducible refine sg (kq114 hS) ?_
      try with_reducible refine sg (kq114 hS) ?_
      try with_reducible refine sg (kq118 hS) ?_
      refine bgr (by rw [lq118 hS]) (fun g8 => ?_)
      refine sg (kq119 hS) ?_
      refine bgr (by rw [lq119 hS]) (fun g9 => ?_)
      try with_reducible refine sg (kq119 hS) ?_
      refine bgr (by rw [lq119 hS]) (fun g10 => ?_)
      exact ih _ _ _ _ _
def gX12_rowCopy (σ : Shp) (I : Nat → Nat → Int32) (J : Nat → Nat → Int64) (R : Nat → Nat → Option Nat) (x1 : Int32) : Option ((Nat → Nat → Int32) × (Nat → Nat → Int64) × (Int32)) :=
  if ¬ (x1 < 0 ∨ 4100 ≤ Int32.toNatClampNeg x1) then
  if ¬ (x1 < 0 ∨ 4100 ≤ Int32.toNatClampNeg x1) then
  (gX12_newRow I (I 116 (Int32.toNatClampNeg x1)) (I 117 (Int32.toNatClampNeg x1))).bind fun (I3, r4) =>
  gX12_rowCopy_l19 σ R FUx I3 J x1 r4 (0 : Int32)
  else none
  else none
theorem eX12_rowCopy {σ : Shp} {I : Nat → Nat → Int32} {J : Nat → Nat → Int64} {R : Nat → Nat → Option Nat} {x1 : Int32} (hS : Skel σ R) : fX12_rowCopy σ I J R 114 x1 = gX12_rowCopy σ I J R x1 := by
  unfold fX12_rowCopy gX12_rowCopy
  refine sg (kq114 hS) ?_
  refine sb (rq114_4 hS) ?_
  refine sg (kq116 hS) ?_
  refine bgr (by rw [lq116 hS]) (fun g1 => ?_)
  try with_reducible refine sg (kq114 hS) ?_
  refine sb (rq114_5 hS) ?_
  refine sg (kq117 hS) ?_
  refine bgr (by rw [lq117 hS]) (fun g2 => ?_)
  try with_reducible refine sg (kq114 hS) ?_
  refine bc (eX12_newRow hS) (fun pp hc5 => ?_)
  obtain ⟨I3, r4⟩ := pp
  exact eX12_rowCopy_l19 hS _ _ _ _ _ _
def gX12_gridCopy_l19  (σ : Shp) (R : Nat → Nat → Option Nat) : Nat → (Nat → Nat → Int32) → (Nat → Nat → Int64) → (Int32) → (Int32) → (Int32) → Option ((Nat → Nat → Int32) × (Nat → Nat → Int64) × (Int32))
  | 0, _, _, _, _, _ => none
  | n + 1, I, J, x1, x2, x3 =>
    if ¬ (x1 < 0 ∨ 4100 ≤ Int32.toNatClampNeg x1) then
    if (I 117 (Int32.toNatClampNeg x1)) ≤ x3 then
      some (I, J, x2)
    else
      if ¬ (x1 < 0 ∨ 4100 ≤ Int32.toNatClampNeg x1) then
      if ¬ (((I 118 (Int32.toNatClampNeg x1)) + x3) < 0 ∨ 41000 ≤ Int32.toNatClampNeg ((I 118 (Int32.toNatClampNeg x1)) + x3)) then
      let v9 := (I 120 (Int32.toNatClampNeg ((I 118 (Int32.toNatClampNeg x1)) + x3)))
      if ¬ (x2 < 0 ∨ 4100 ≤ Int32.toNatClampNeg x2) then
      if v9 = 0 then
        if ¬ (((I 118 (Int32.toNatClampNeg x2)) + x3) < 0 ∨ 41000 ≤ Int32.toNatClampNeg ((I 118 (Int32.toNatClampNeg x2)) + x3)) then
        let I19 := u2 I 120 (Int32.toNatClampNeg ((I 118 (Int32.toNatClampNeg x2)) + x3)) ((Int32.toInt16 ((Int32.toInt16 (0 : Int32)).toInt32)).toInt32)
        let v20 := x3 + (1 : Int32)
        gX12_gridCopy_l19 σ R n I19 J x1 x2 v20
        else none
      else
        (gX12_rowCopy σ I J R v9).bind fun (I11, J12, r13) =>
        if ¬ (((I 118 (Int32.toNatClampNeg x2)) + x3) < 0 ∨ 41000 ≤ Int32.toNatClampNeg ((I 118 (Int32.toNatClampNeg x2)) + x3)) then
        let I16 := u2 I11 120 (Int32.toNatClampNeg ((I 118 (Int32.toNatClampNeg x2)) + x3)) ((Int32.toInt16 ((Int32.toInt16 r13).toInt32)).toInt32)
        let v17 := x3 + (1 : Int32)
        gX12_gridCopy_l19 σ R n I16 J12 x1 x2 v17
        else none
      else none
      else none
      else none
    else none
theorem eX12_gridCopy_l19 {σ : Shp} {R : Nat → Nat → Option Nat} (hS : Skel σ R) : ∀ (n : Nat) (I : Nat → Nat → Int32) (J : Nat → Nat → Int64) (x1 : Int32) (x2 : Int32) (x3 : Int32), fX12_gridCopy_l19 σ R 114 n I J x1 x2 x3 = gX12_gridCopy_l19 σ R n I J x1 x2 x3 := by
  intro n
  induction n with
  | zero => intro I J x1 x2 x3; rfl
  | succ n ih =>
    intro I J x1 x2 x3
    rw [fX12_gridCopy_l19, gX12_gridCopy_l19]
    refine sg (kq114 hS) ?_
    refine sb (rq114_5 hS) ?_
    refine sg (kq117 hS) ?_
    refine bgr (by rw [lq117 hS]) (fun g6 => ?_)
    refine bi (fun c => ?_) (fun c => ?_)
    · rfl
    · try with_reducible refine sg (kq114 hS) ?_
      refine sb (rq114_10 hS) ?_
      try with_reducible refine sg (kq114 hS) ?_
      refine sb (rq114_6 hS) ?_
      refine sg (kq118 hS) ?_
      refine bgr (by rw [lq118 hS]) (fun g7 => ?_)
      refine sg (kq120 hS) ?_
      refine bgr (by rw [lq120 hS]) (fun g8 => ?_)
      try with_reducible refine sg (kq114 hS) ?_
      try with_reducible refine sg (kq114 hS) ?_
      try with_reducible refine sg (kq118 hS) ?_
      refine bgr (by rw [lq118 hS]) (fun g10 => ?_)
      refine bi (fun c => ?_) (fun c => ?_)
      · try with_reducible refine sg (kq120 hS) ?_
        refine bgr (by rw [lq120 hS]) (fun g18 => ?_)
        exact ih _ _ _ _ _
      · try with_reducible refine sg (kq114 hS) ?_
        refine bc (eX12_rowCopy hS) (fun pp hc14 => ?_)
        obtain ⟨I11, J12, r13⟩ := pp
        try with_reducible refine sg (kq120 hS) ?_
        refine bgr (by rw [lq120 hS]) (fun g15 => ?_)
        exact ih _ _ _ _ _
def gX12_gridCopy (σ : Shp) (I : Nat → Nat → Int32) (J : Nat → Nat → Int64) (R : Nat → Nat → Option Nat) (x1 : Int32) : Option ((Nat → Nat → Int32) × (Nat → Nat → Int64) × (Int32)) :=
  if ¬ (x1 < 0 ∨ 4100 ≤ Int32.toNatClampNeg x1) then
  if ¬ (x1 < 0 ∨ 4100 ≤ Int32.toNatClampNeg x1) then
  (gX12_newPlaces I (I 116 (Int32.toNatClampNeg x1)) (I 117 (Int32.toNatClampNeg x1))).bind fun (I3, r4) =>
  gX12_gridCopy_l19 σ R FUx I3 J x1 r4 (0 : Int32)
  else none
  else none
theorem eX12_gridCopy {σ : Shp} {I : Nat → Nat → Int32} {J : Nat → Nat → Int64} {R : Nat → Nat → Option Nat} {x1 : Int32} (hS : Skel σ R) : fX12_gridCopy σ I J R 114 x1 = gX12_gridCopy σ I J R x1 := by
  unfold fX12_gridCopy gX12_gridCopy
  refine sg (kq114 hS) ?_
  refine sb (rq114_4 hS) ?_
  refine sg (kq116 hS) ?_
  refine bgr (by rw [lq116 hS]) (fun g1 => ?_)
  try with_reducible refine sg (kq114 hS) ?_
  refine sb (rq114_5 hS) ?_
  refine sg (kq117 hS) ?_
  refine bgr (by rw [lq117 hS]) (fun g2 => ?_)
  try with_reducible refine sg (kq114 hS) ?_
  refine bc (eX12_newPlaces hS) (fun pp hc5 => ?_)
  obtain ⟨I3, r4⟩ := pp
  exact eX12_gridCopy_l19 hS _ _ _ _ _ _
def gX12_placesCopy_b93 (q41 : (Nat → Nat → Int32) → (Nat → Nat → Int64) → (Int32) → (Int32) → (Int32) → (Int32) → (Option ((Nat → Nat → Int32) × (Nat → Nat → Int64) × (Int32)))) (σ : Shp) (R : Nat → Nat → Option Nat) (I : Nat → Nat → Int32) (J : Nat → Nat → Int64) (x1 : Int32) (x2 : Int32) (x3 : Int32) (x4 : Int32) (x5 : Int32) (s0 : Int32) : Option ((Nat → Nat → Int32) × (Nat → Nat → Int64) × (Int32)) :=
  if ¬ (x3 < 0 ∨ 4100 ≤ Int32.toNatClampNeg x3) then
  if s0 = 0 then
    if ¬ (((I 118 (Int32.toNatClampNeg x3)) + x4) < 0 ∨ 41000 ≤ Int32.toNatClampNeg ((I 118 (Int32.toNatClampNeg x3)) + x4)) then
    let I12 := u2 I 120 (Int32.toNatClampNeg ((I 118 (Int32.toNatClampNeg x3)) + x4)) ((Int32.toInt16 ((Int32.toInt16 x5).toInt32)).toInt32)
    let v13 := x4 + (1 : Int32)
    q41 I12 J x1 x2 x3 v13
    else none
  else
    (gX12_gridCopy σ I J R x5).bind fun (I14, J15, r16) =>
    if ¬ (((I 118 (Int32.toNatClampNeg x3)) + x4) < 0 ∨ 41000 ≤ Int32.toNatClampNeg ((I 118 (Int32.toNatClampNeg x3)) + x4)) then
    let I19 := u2 I14 120 (Int32.toNatClampNeg ((I 118 (Int32.toNatClampNeg x3)) + x4)) ((Int32.toInt16 ((Int32.toInt16 r16).toInt32)).toInt32)
    let v20 := x4 + (1 : Int32)
    q41 I19 J15 x1 x2 x3 v20
    else none
  else none
theorem eX12_placesCopy_b93 {σ : Shp} {I : Nat → Nat → Int32} {J : Nat → Nat → Int64} {R : Nat → Nat → Option Nat} {x1 : Int32} {x2 : Int32} {x3 : Int32} {x4 : Int32} {x5 : Int32} {s0 : Int32} (hS : Skel σ R) {qf41 q41 : (Nat → Nat → Int32) → (Nat → Nat → Int64) → (Int32) → (Int32) → (Int32) → (Int32) → (Option ((Nat → Nat → Int32) × (Nat → Nat → Int64) × (Int32)))} (hq41 : ∀ (I : Nat → Nat → Int32) (J : Nat → Nat → Int64) (x1 : Int32) (x2 : Int32) (x3 : Int32) (x4 : Int32), qf41 I J x1 x2 x3 x4 = q41 I J x1 x2 x3 x4) : fX12_placesCopy_b93 qf41 σ R 114 I J x1 x2 x3 x4 x5 s0 = gX12_placesCopy_b93 q41 σ R I J x1 x2 x3 x4 x5 s0 := by
  unfold fX12_placesCopy_b93 gX12_placesCopy_b93
  refine sg (kq114 hS) ?_
  refine sb (rq114_10 hS) ?_
  try with_reducible refine sg (kq114 hS) ?_
  refine sb (rq114_6 hS) ?_
  refine sg (kq118 hS) ?_
  refine bgr (by rw [lq118 hS]) (fun g10 => ?_)
  refine bi (fun c => ?_) (fun c => ?_)
  · refine sg (kq120 hS) ?_
    refine bgr (by rw [lq120 hS]) (fun g11 => ?_)
    exact hq41 _ _ _ _ _ _
  · try with_reducible refine sg (kq114 hS) ?_
    refine bc (eX12_gridCopy hS) (fun pp hc17 => ?_)
    obtain ⟨I14, J15, r16⟩ := pp
    refine sg (kq120 hS) ?_
    refine bgr (by rw [lq120 hS]) (fun g18 => ?_)
    exact hq41 _ _ _ _ _ _
def gX12_placesCopy_l41  (σ : Shp) (R : Nat → Nat → Option Nat) : Nat → (Nat → Nat → Int32) → (Nat → Nat → Int64) → (Int32) → (Int32) → (Int32) → (Int32) → Option ((Nat → Nat → Int32) × (Nat → Nat → Int64) × (Int32))
  | 0, _, _, _, _, _, _ => none
  | n + 1, I, J, x1, x2, x3, x4 =>
    if ¬ (x1 < 0 ∨ 4100 ≤ Int32.toNatClampNeg x1) then
    if (I 117 (Int32.toNatClampNeg x1)) ≤ x4 then
      some (I, J, x3)
    else
      if ¬ (x1 < 0 ∨ 4100 ≤ Int32.toNatClampNeg x1) then
      if ¬ (((I 118 (Int32.toNatClampNeg x1)) + x4) < 0 ∨ 41000 ≤ Int32.toNatClampNeg ((I 118 (Int32.toNatClampNeg x1)) + x4)) then
      let v9 := (I 120 (Int32.toNatClampNeg ((I 118 (Int32.toNatClampNeg x1)) + x4)))
      if x2 = 0 then
        gX12_placesCopy_b93 (gX12_placesCopy_l41 σ R n) σ R I J x1 x2 x3 x4 v9 (0 : Int32)
      else
        if ¬ (x1 < 0 ∨ 4100 ≤ Int32.toNatClampNeg x1) then
        if (I 116 (Int32.toNatClampNeg x1)) = (11 : Int32) then
          if v9 = 0 then
            gX12_placesCopy_b93 (gX12_placesCopy_l41 σ R n) σ R I J x1 x2 x3 x4 v9 (0 : Int32)
          else
            gX12_placesCopy_b93 (gX12_placesCopy_l41 σ R n) σ R I J x1 x2 x3 x4 v9 (1 : Int32)
        else
          gX12_placesCopy_b93 (gX12_placesCopy_l41 σ R n) σ R I J x1 x2 x3 x4 v9 (0 : Int32)
        else none
      else none
      else none
    else none
theorem eX12_placesCopy_l41 {σ : Shp} {R : Nat → Nat → Option Nat} (hS : Skel σ R) : ∀ (n : Nat) (I : Nat → Nat → Int32) (J : Nat → Nat → Int64) (x1 : Int32) (x2 : Int32) (x3 : Int32) (x4 : Int32), fX12_placesCopy_l41 σ R 114 n I J x1 x2 x3 x4 = gX12_placesCopy_l41 σ R n I J x1 x2 x3 x4 := by
  intro n
  induction n with
  | zero => intro I J x1 x2 x3 x4; rfl
  | succ n ih =>
    intro I J x1 x2 x3 x4
    rw [fX12_placesCopy_l41, gX12_placesCopy_l41]
    refine sg (kq114 hS) ?_
    refine sb (rq114_5 hS) ?_
    refine sg (kq117 hS) ?_
    refine bgr (by rw [lq117 hS]) (fun g6 => ?_)
    refine bi (fun c => ?_) (fun c => ?_)
    · rfl
    · try with_reducible refine sg (kq114 hS) ?_
      refine sb (rq114_10 hS) ?_
      try with_reducible refine sg (kq114 hS) ?_
      refine sb (rq114_6 hS) ?_
      refine sg (kq118 hS) ?_
      refine bgr (by rw [lq118 hS]) (fun g7 => ?_)
      refine sg (kq120 hS) ?_
      refine bgr (by rw [lq120 hS]) (fun g8 => ?_)
      refine bi (fun c => ?_) (fun c => ?_)
      · exact eX12_placesCopy_b93 hS ih
      · try with_reducible refine sg (kq114 hS) ?_
        refine sb (rq114_4 hS) ?_
        refine sg (kq116 hS) ?_
        refine bgr (by rw [lq116 hS]) (fun g21 => ?_)
        refine bi (fun c => ?_) (fun c => ?_)
        · refine bi (fun c => ?_) (fun c => ?_)
          · exact eX12_placesCopy_b93 hS ih
          · exact eX12_placesCopy_b93 hS ih
        · exact eX12_placesCopy_b93 hS ih
def gX12_placesCopy (σ : Shp) (I : Nat → Nat → Int32) (J : Nat → Nat → Int64) (R : Nat → Nat → Option Nat) (x1 : Int32) (x2 : Int32) : Option ((Nat → Nat → Int32) × (Nat → Nat → Int64) × (Int32)) :=
  if x2 = 0 then
    if ¬ (x1 < 0 ∨ 4100 ≤ Int32.toNatClampNeg x1) then
    if ¬ (x1 < 0 ∨ 4100 ≤ Int32.toNatClampNeg x1) then
    (gX12_newPlaces I (I 116 (Int32.toNatClampNeg x1)) (I 117 (Int32.toNatClampNeg x1))).bind fun (I3, r4) =>
    gX12_placesCopy_l41 σ R FUx I3 J x1 x2 r4 (0 : Int32)
    else none
    else none
  else
    if ¬ (x1 < 0 ∨ 4100 ≤ Int32.toNatClampNeg x1) then
    if (11 : Int32) ≤ (I 116 (Int32.toNatClampNeg x1)) then
      if ¬ (x1 < 0 ∨ 4100 ≤ Int32.toNatClampNeg x1) then
      (gX12_newPlaces I (I 116 (Int32.toNatClampNeg x1)) (I 117 (Int32.toNatClampNeg x1))).bind fun (I24, r25) =>
      gX12_placesCopy_l41 σ R FUx I24 J x1 x2 r25 (0 : Int32)
      else none
    else
      (gX12_gridCopy σ I J R x1).bind fun (I27, J28, r29) =>
      some (I27, J28, r29)
    else none
theorem eX12_placesCopy {σ : Shp} {I : Nat → Nat → Int32} {J : Nat → Nat → Int64} {R : Nat → Nat → Option Nat} {x1 : Int32} {x2 : Int32} (hS : Skel σ R) : fX12_placesCopy σ I J R 114 x1 x2 = gX12_placesCopy σ I J R x1 x2 := by
  unfold fX12_placesCopy gX12_placesCopy
  refine bi (fun c => ?_) (fun c => ?_)
  · refine sg (kq114 hS) ?_
    refine sb (rq114_4 hS) ?_
    refine sg (kq116 hS) ?_
    refine bgr (by rw [lq116 hS]) (fun g1 => ?_)
    try with_reducible refine sg (kq114 hS) ?_
    refine sb (rq114_5 hS) ?_
    refine sg (kq117 hS) ?_
    refine bgr (by rw [lq117 hS]) (fun g2 => ?_)
    try with_reducible refine sg (kq114 hS) ?_
    refine bc (eX12_newPlaces hS) (fun pp hc5 => ?_)
    obtain ⟨I3, r4⟩ := pp
    exact eX12_placesCopy_l41 hS _ _ _ _ _ _ _
  · refine sg (kq114 hS) ?_
    refine sb (rq114_4 hS) ?_
    refine sg (kq116 hS) ?_
    refine bgr (by rw [lq116 hS]) (fun g22 => ?_)
    refine bi (fun c => ?_) (fun c => ?_)
    · try with_reducible refine sg (kq114 hS) ?_
      try with_reducible refine sg (kq116 hS) ?_
      try with_reducible refine sg (by rw [lq116 hS]; exact g22) ?_
      try with_reducible refine sg (kq114 hS) ?_
      refine sb (rq114_5 hS) ?_
      refine sg (kq117 hS) ?_
      refine bgr (by rw [lq117 hS]) (fun g23 => ?_)
      try with_reducible refine sg (kq114 hS) ?_
      refine bc (eX12_newPlaces hS) (fun pp hc26 => ?_)
      obtain ⟨I24, r25⟩ := pp
      exact eX12_placesCopy_l41 hS _ _ _ _ _ _ _
    · try with_reducible refine sg (kq114 hS) ?_
      refine bc (eX12_gridCopy hS) (fun pp hc30 => ?_)
      obtain ⟨I27, J28, r29⟩ := pp
      rfl
def gX12_newCard (I : Nat → Nat → Int32) : Option ((Nat → Nat → Int32) × (Int32)) :=
  (gX12_thing I (17 : Int32) (0 : Int32)).bind fun (I1, r2) =>
  if ¬ (r2 < 0 ∨ 4100 ≤ Int32.toNatClampNeg r2) then
  let I5 := u2 I1 118 (Int32.toNatClampNeg r2) (I1 114 7)
  let I6 := u2 I5 114 7 ((I5 114 7) + (8 : Int32))
  if ¬ (r2 < 0 ∨ 4100 ≤ Int32.toNatClampNeg r2) then
  let I8 := u2 I6 121 (Int32.toNatClampNeg r2) (I6 114 19)
  let I9 := u2 I8 114 19 ((I8 114 19) + (1 : Int32))
  some (I9, r2)
  else none
  else none
theorem eX12_newCard {σ : Shp} {I : Nat → Nat → Int32} {R : Nat → Nat → Option Nat}  (hS : Skel σ R) : fX12_newCard σ I R 114 = gX12_newCard I := by
  unfold fX12_newCard gX12_newCard
  refine sg (kq114 hS) ?_
  refine bc (eX12_thing hS) (fun pp hc3 => ?_)
  obtain ⟨I1, r2⟩ := pp
  try with_reducible refine sg (kq114 hS) ?_
  refine sb (rq114_6 hS) ?_
  try with_reducible refine sg (kq114 hS) ?_
  refine sg (kq118 hS) ?_
  refine bgr (by rw [lq118 hS]) (fun g4 => ?_)
  try with_reducible refine sg (kq114 hS) ?_
  try with_reducible refine sg (kq114 hS) ?_
  try with_reducible refine sg (kq114 hS) ?_
  refine sb (rq114_11 hS) ?_
  try with_reducible refine sg (kq114 hS) ?_
  refine sg (kq121 hS) ?_
  refine bgr (by rw [lq121 hS]) (fun g7 => ?_)
  try with_reducible refine sg (kq114 hS) ?_
  try with_reducible refine sg (kq114 hS) ?_
  rfl
def gX12_cardCopy_l7  (σ : Shp) (R : Nat → Nat → Option Nat) : Nat → (Nat → Nat → Int32) → (Nat → Nat → Int64) → (Int32) → (Int32) → (Int32) → Option ((Nat → Nat → Int32) × (Nat → Nat → Int64) × (Int32))
  | 0, _, _, _, _, _ => none
  | n + 1, I, J, x1, x2, x3 =>
    if (8 : Int32) ≤ x3 then
      if ¬ (x1 < 0 ∨ 4100 ≤ Int32.toNatClampNeg x1) then
      if ¬ (x2 < 0 ∨ 4100 ≤ Int32.toNatClampNeg x2) then
      let I6 := u2 I 125 (Int32.toNatClampNeg x2) ((Int32.toInt16 (I 125 (Int32.toNatClampNeg x1))).toInt32)
      if ¬ (x1 < 0 ∨ 4100 ≤ Int32.toNatClampNeg x1) then
      if ¬ (x2 < 0 ∨ 4100 ≤ Int32.toNatClampNeg x2) then
      let I9 := u2 I6 126 (Int32.toNatClampNeg x2) ((Int32.toInt16 (I6 126 (Int32.toNatClampNeg x1))).toInt32)
      some (I9, J, x2)
      else none
      else none
      else none
      else none
    else
      if ¬ (x2 < 0 ∨ 4100 ≤ Int32.toNatClampNeg x2) then
      if ¬ (x1 < 0 ∨ 4100 ≤ Int32.toNatClampNeg x1) then
      if ¬ (((I 118 (Int32.toNatClampNeg x1)) + x3) < 0 ∨ 164000 ≤ Int32.toNatClampNeg ((I 118 (Int32.toNatClampNeg x1)) + x3)) then
      if ¬ (((I 118 (Int32.toNatClampNeg x2)) + x3) < 0 ∨ 164000 ≤ Int32.toNatClampNeg ((I 118 (Int32.toNatClampNeg x2)) + x3)) then
      let J14 := u2 J 119 (Int32.toNatClampNeg ((I 118 (Int32.toNatClampNeg x2)) + x3)) (J 119 (Int32.toNatClampNeg ((I 118 (Int32.toNatClampNeg x1)) + x3)))
      let v15 := x3 + (1 : Int32)
      gX12_cardCopy_l7 σ R n I J14 x1 x2 v15
      else none
      else none
      else none
      else none
theorem eX12_cardCopy_l7 {σ : Shp} {R : Nat → Nat → Option Nat} (hS : Skel σ R) : ∀ (n : Nat) (I : Nat → Nat → Int32) (J : Nat → Nat → Int64) (x1 : Int32) (x2 : Int32) (x3 : Int32), fX12_cardCopy_l7 σ R 114 n I J x1 x2 x3 = gX12_cardCopy_l7 σ R n I J x1 x2 x3 := by
  intro n
  induction n with
  | zero => intro I J x1 x2 x3; rfl
  | succ n ih =>
    intro I J x1 x2 x3
    rw [fX12_cardCopy_l7, gX12_cardCopy_l7]
    refine bi (fun c => ?_) (fun c => ?_)
    · refine sg (kq114 hS) ?_
      refine sb (rq114_15 hS) ?_
      try with_reducible refine sg (kq114 hS) ?_
      refine sg (kq125 hS) ?_
      refine bgr (by rw [lq125 hS]) (fun g4 => ?_)
      try with_reducible refine sg (kq125 hS) ?_
      refine bgr (by rw [lq125 hS]) (fun g5 => ?_)
      try with_reducible refine sg (kq114 hS) ?_
      refine sb (rq114_16 hS) ?_
      try with_reducible refine sg (kq114 hS) ?_
      refine sg (kq126 hS) ?_
      refine bgr (by rw [lq126 hS]) (fun g7 => ?_)
      try with_reducible refine sg (kq126 hS) ?_
      refine bgr (by rw [lq126 hS]) (fun g8 => ?_)
      rfl
    · refine sg (kq114 hS) ?_
      refine sb (rq114_8 hS) ?_
      try with_reducible refine sg (kq114 hS) ?_
      refine sb (rq114_6 hS) ?_
      refine sg (kq118 hS) ?_
      refine bgr (by rw [lq118 hS]) (fun g10 => ?_)
      try with_reducible refine sg (kq114 hS) ?_
      try with_reducible refine sg (kq114 hS) ?_
      try with_reducible refine sg (kq118 hS) ?_
      refine bgr (by rw [lq118 hS]) (fun g11 => ?_)
      refine sg (kq119 hS) ?_
      refine bgr (by rw [lq119 hS]) (fun g12 => ?_)
      try with_reducible refine sg (kq119 hS) ?_
      refine bgr (by rw [lq119 hS]) (fun g13 => ?_)
      exact ih _ _ _ _ _
def gX12_cardCopy (σ : Shp) (I : Nat → Nat → Int32) (J : Nat → Nat → Int64) (R : Nat → Nat → Option Nat) (x1 : Int32) : Option ((Nat → Nat → Int32) × (Nat → Nat → Int64) × (Int32)) :=
  (gX12_newCard I).bind fun (I1, r2) =>
  gX12_cardCopy_l7 σ R FUx I1 J x1 r2 (0 : Int32)
theorem eX12_cardCopy {σ : Shp} {I : Nat → Nat → Int32} {J : Nat → Nat → Int64} {R : Nat → Nat → Option Nat} {x1 : Int32} (hS : Skel σ R) : fX12_cardCopy σ I J R 114 x1 = gX12_cardCopy σ I J R x1 := by
  unfold fX12_cardCopy gX12_cardCopy
  refine sg (kq114 hS) ?_
  refine bc (eX12_newCard hS) (fun pp hc3 => ?_)
  obtain ⟨I1, r2⟩ := pp
  exact eX12_cardCopy_l7 hS _ _ _ _ _ _
def gX12_copy (σ : Shp) (I : Nat → Nat → Int32) (J : Nat → Nat → Int64) (R : Nat → Nat → Option Nat) (x1 : Int32) (x2 : Int32) (x3 : Int32) : Option ((Nat → Nat → Int32) × (Nat → Nat → Int64) × (Int32)) :=
  if (fX12_isBin x1) = 0 then
    some (I, J, (-2 : Int32))
  else
    if (fX12_isBin x2) = 0 then
      some (I, J, (-2 : Int32))
    else
      (gX12_isFull I).bind fun r1 =>
      if r1 = 0 then
        if ¬ (x2 < 0 ∨ 16 ≤ Int32.toNatClampNeg x2) then
        let v4 := (I 115 (Int32.toNatClampNeg x2))
        if v4 = 0 then
          if ¬ (x1 < 0 ∨ 16 ≤ Int32.toNatClampNeg x1) then
          let I6 := u2 I 115 (Int32.toNatClampNeg x1) v4
          some (I6, J, (1 : Int32))
          else none
        else
          if ¬ (v4 < 0 ∨ 4100 ≤ Int32.toNatClampNeg v4) then
          if (I 116 (Int32.toNatClampNeg v4)) = (16 : Int32) then
            if ¬ (x1 < 0 ∨ 16 ≤ Int32.toNatClampNeg x1) then
            let I29 := u2 I 115 (Int32.toNatClampNeg x1) v4
            some (I29, J, (1 : Int32))
            else none
          else
            (gX12_isRow I v4).bind fun r8 =>
            if r8 = 0 then
              if (I 116 (Int32.toNatClampNeg v4)) = (17 : Int32) then
                (gX12_cardCopy σ I J R v4).bind fun (I16, J17, r18) =>
                if ¬ (x1 < 0 ∨ 16 ≤ Int32.toNatClampNeg x1) then
                let I21 := u2 I16 115 (Int32.toNatClampNeg x1) r18
                some (I21, J17, (1 : Int32))
                else none
              else
                (gX12_placesCopy σ I J R v4 x3).bind fun (I10, J11, r12) =>
                if ¬ (x1 < 0 ∨ 16 ≤ Int32.toNatClampNeg x1) then
                let I15 := u2 I10 115 (Int32.toNatClampNeg x1) r12
                some (I15, J11, (1 : Int32))
                else none
            else
              (gX12_rowCopy σ I J R v4).bind fun (I22, J23, r24) =>
              if ¬ (x1 < 0 ∨ 16 ≤ Int32.toNatClampNeg x1) then
              let I27 := u2 I22 115 (Int32.toNatClampNeg x1) r24
              some (I27, J23, (1 : Int32))
              else none
          else none
        else none
      else
        some (I, J, (-4 : Int32))
theorem eX12_copy {σ : Shp} {I : Nat → Nat → Int32} {J : Nat → Nat → Int64} {R : Nat → Nat → Option Nat} {x1 : Int32} {x2 : Int32} {x3 : Int32} (hS : Skel σ R) : fX12_copy σ I J R 114 x1 x2 x3 = gX12_copy σ I J R x1 x2 x3 := by
  unfold fX12_copy gX12_copy
  refine bi (fun c => ?_) (fun c => ?_)
  · rfl
  · refine bi (fun c => ?_) (fun c => ?_)
    · rfl
    · refine sg (kq114 hS) ?_
      refine bc (eX12_isFull hS) (fun r1 hc2 => ?_)
      refine bi (fun c => ?_) (fun c => ?_)
      · try with_reducible refine sg (kq114 hS) ?_
        refine sb (rq114_3 hS) ?_
        refine sg (kq115 hS) ?_
        refine bgr (by rw [lq115 hS]) (fun g3 => ?_)
        try with_reducible refine sg (kq114 hS) ?_
        refine bi (fun c => ?_) (fun c => ?_)
        · try with_reducible refine sg (kq115 hS) ?_
          refine bgr (by rw [lq115 hS]) (fun g5 => ?_)
          rfl
        · try with_reducible refine sg (kq114 hS) ?_
          refine sb (rq114_4 hS) ?_
          refine sg (kq116 hS) ?_
          refine bgr (by rw [lq116 hS]) (fun g7 => ?_)
          refine bi (fun c => ?_) (fun c => ?_)
          · try with_reducible refine sg (kq115 hS) ?_
            refine bgr (by rw [lq115 hS]) (fun g28 => ?_)
            rfl
          · try with_reducible refine sg (kq114 hS) ?_
            refine bc (eX12_isRow hS) (fun r8 hc9 => ?_)
            refine bi (fun c => ?_) (fun c => ?_)
            · try with_reducible refine sg (kq114 hS) ?_
              try with_reducible refine sg (kq116 hS) ?_
              try with_reducible refine sg (by rw [lq116 hS]; exact g7) ?_
              refine bi (fun c => ?_) (fun c => ?_)
              · try with_reducible refine sg (kq114 hS) ?_
                refine bc (eX12_cardCopy hS) (fun pp hc19 => ?_)
                obtain ⟨I16, J17, r18⟩ := pp
                try with_reducible refine sg (kq115 hS) ?_
                refine bgr (by rw [lq115 hS]) (fun g20 => ?_)
                rfl
              · try with_reducible refine sg (kq114 hS) ?_
                refine bc (eX12_placesCopy hS) (fun pp hc13 => ?_)
                obtain ⟨I10, J11, r12⟩ := pp
                try with_reducible refine sg (kq115 hS) ?_
                refine bgr (by rw [lq115 hS]) (fun g14 => ?_)
                rfl
            · try with_reducible refine sg (kq114 hS) ?_
              refine bc (eX12_rowCopy hS) (fun pp hc25 => ?_)
              obtain ⟨I22, J23, r24⟩ := pp
              try with_reducible refine sg (kq115 hS) ?_
              refine bgr (by rw [lq115 hS]) (fun g26 => ?_)
              rfl
      · rfl
def gX12_areRowsAlike_l39  (σ : Shp) (I : Nat → Nat → Int32) (J : Nat → Nat → Int64) (R : Nat → Nat → Option Nat) : Nat → (Int32) → (Int32) → (Int32) → (Int32) → Option ((Int32))
  | 0, _, _, _, _ => none
  | n + 1, x1, x2, x3, x4 =>
    if ¬ (x1 < 0 ∨ 4100 ≤ Int32.toNatClampNeg x1) then
    if (I 117 (Int32.toNatClampNeg x1)) ≤ x4 then
      if x3 = 0 ∨ x3 = 1 then
      some x3
      else none
    else
      if x3 = 0 then
        if x3 = 0 ∨ x3 = 1 then
        some x3
        else none
      else
        if ¬ (x1 < 0 ∨ 4100 ≤ Int32.toNatClampNeg x1) then
        if ¬ (((I 118 (Int32.toNatClampNeg x1)) + x4) < 0 ∨ 164000 ≤ Int32.toNatClampNeg ((I 118 (Int32.toNatClampNeg x1)) + x4)) then
        if ¬ (x2 < 0 ∨ 4100 ≤ Int32.toNatClampNeg x2) then
        if ¬ (((I 118 (Int32.toNatClampNeg x2)) + x4) < 0 ∨ 164000 ≤ Int32.toNatClampNeg ((I 118 (Int32.toNatClampNeg x2)) + x4)) then
        if (J 119 (Int32.toNatClampNeg ((I 118 (Int32.toNatClampNeg x1)) + x4))) = (J 119 (Int32.toNatClampNeg ((I 118 (Int32.toNatClampNeg x2)) + x4))) then
          let v11 := x4 + (1 : Int32)
          gX12_areRowsAlike_l39 σ I J R n x1 x2 (1 : Int32) v11
        else
          let v10 := x4 + (1 : Int32)
          gX12_areRowsAlike_l39 σ I J R n x1 x2 (0 : Int32) v10
        else none
        else none
        else none
        else none
    else none
theorem eX12_areRowsAlike_l39 {σ : Shp} {I : Nat → Nat → Int32} {J : Nat → Nat → Int64} {R : Nat → Nat → Option Nat} (hS : Skel σ R) : ∀ (n : Nat) (x1 : Int32) (x2 : Int32) (x3 : Int32) (x4 : Int32), fX12_areRowsAlike_l39 σ I J R 114 n x1 x2 x3 x4 = gX12_areRowsAlike_l39 σ I J R n x1 x2 x3 x4 := by
  intro n
  induction n with
  | zero => intro x1 x2 x3 x4; rfl
  | succ n ih =>
    intro x1 x2 x3 x4
    rw [fX12_areRowsAlike_l39, gX12_areRowsAlike_l39]
    refine sg (kq114 hS) ?_
    refine sb (rq114_5 hS) ?_
    refine sg (kq117 hS) ?_
    refine bgr (by rw [lq117 hS]) (fun g3 => ?_)
    refine bi (fun c => ?_) (fun c => ?_)
    · refine bg (fun g4 => ?_)
      rfl
    · refine bi (fun c => ?_) (fun c => ?_)
      · refine bg (fun g5 => ?_)
        rfl
      · try with_reducible refine sg (kq114 hS) ?_
        refine sb (rq114_8 hS) ?_
        try with_reducible refine sg (kq114 hS) ?_
        refine sb (rq114_6 hS) ?_
        refine sg (kq118 hS) ?_
        refine bgr (by rw [lq118 hS]) (fun g6 => ?_)
        refine sg (kq119 hS) ?_
        refine bgr (by rw [lq119 hS]) (fun g7 => ?_)
        try with_reducible refine sg (kq114 hS) ?_
        try with_reducible refine sg (kq114 hS) ?_
        try with_reducible refine sg (kq118 hS) ?_
        refine bgr (by rw [lq118 hS]) (fun g8 => ?_)
        try with_reducible refine sg (kq119 hS) ?_
        refine bgr (by rw [lq119 hS]) (fun g9 => ?_)
        refine bi (fun c => ?_) (fun c => ?_)
        · exact ih _ _ _ _
        · exact ih _ _ _ _
def gX12_areRowsAlike (σ : Shp) (I : Nat → Nat → Int32) (J : Nat → Nat → Int64) (R : Nat → Nat → Option Nat) (x1 : Int32) (x2 : Int32) : Option ((Int32)) :=
  if ¬ (x1 < 0 ∨ 4100 ≤ Int32.toNatClampNeg x1) then
  if ¬ (x2 < 0 ∨ 4100 ≤ Int32.toNatClampNeg x2) then
  if (I 116 (Int32.toNatClampNeg x1)) = (I 116 (Int32.toNatClampNeg x2)) then
    if ¬ (x1 < 0 ∨ 4100 ≤ Int32.toNatClampNeg x1) then
    if ¬ (x2 < 0 ∨ 4100 ≤ Int32.toNatClampNeg x2) then
    if (I 117 (Int32.toNatClampNeg x1)) = (I 117 (Int32.toNatClampNeg x2)) then
      gX12_areRowsAlike_l39 σ I J R FUx x1 x2 (1 : Int32) (0 : Int32)
    else
      gX12_areRowsAlike_l39 σ I J R FUx x1 x2 (0 : Int32) (0 : Int32)
    else none
    else none
  else
    gX12_areRowsAlike_l39 σ I J R FUx x1 x2 (0 : Int32) (0 : Int32)
  else none
  else none
theorem eX12_areRowsAlike {σ : Shp} {I : Nat → Nat → Int32} {J : Nat → Nat → Int64} {R : Nat → Nat → Option Nat} {x1 : Int32} {x2 : Int32} (hS : Skel σ R) : fX12_areRowsAlike σ I J R 114 x1 x2 = gX12_areRowsAlike σ I J R x1 x2 := by
  unfold fX12_areRowsAlike gX12_areRowsAlike
  refine sg (kq114 hS) ?_
  refine sb (rq114_4 hS) ?_
  refine sg (kq116 hS) ?_
  refine bgr (by rw [lq116 hS]) (fun g1 => ?_)
  try with_reducible refine sg (kq114 hS) ?_
  try with_reducible refine sg (kq116 hS) ?_
  refine bgr (by rw [lq116 hS]) (fun g2 => ?_)
  refine bi (fun c => ?_) (fun c => ?_)
  · try with_reducible refine sg (kq114 hS) ?_
    refine sb (rq114_5 hS) ?_
    refine sg (kq117 hS) ?_
    refine bgr (by rw [lq117 hS]) (fun g12 => ?_)
    try with_reducible refine sg (kq114 hS) ?_
    try with_reducible refine sg (kq117 hS) ?_
    refine bgr (by rw [lq117 hS]) (fun g13 => ?_)
    refine bi (fun c => ?_) (fun c => ?_)
    · exact eX12_areRowsAlike_l39 hS _ _ _ _ _
    · exact eX12_areRowsAlike_l39 hS _ _ _ _ _
  · exact eX12_areRowsAlike_l39 hS _ _ _ _ _
def gX12_areGridsAlike_l39  (σ : Shp) (I : Nat → Nat → Int32) (J : Nat → Nat → Int64) (R : Nat → Nat → Option Nat) : Nat → (Int32) → (Int32) → (Int32) → (Int32) → Option ((Int32))
  | 0, _, _, _, _ => none
  | n + 1, x1, x2, x3, x4 =>
    if ¬ (x1 < 0 ∨ 4100 ≤ Int32.toNatClampNeg x1) then
    if (I 117 (Int32.toNatClampNeg x1)) ≤ x4 then
      if x3 = 0 ∨ x3 = 1 then
      some x3
      else none
    else
      if x3 = 0 then
        if x3 = 0 ∨ x3 = 1 then
        some x3
        else none
      else
        if ¬ (x1 < 0 ∨ 4100 ≤ Int32.toNatClampNeg x1) then
        if ¬ (((I 118 (Int32.toNatClampNeg x1)) + x4) < 0 ∨ 41000 ≤ Int32.toNatClampNeg ((I 118 (Int32.toNatClampNeg x1)) + x4)) then
        let v8 := (I 120 (Int32.toNatClampNeg ((I 118 (Int32.toNatClampNeg x1)) + x4)))
        if ¬ (x2 < 0 ∨ 4100 ≤ Int32.toNatClampNeg x2) then
        if ¬ (((I 118 (Int32.toNatClampNeg x2)) + x4) < 0 ∨ 41000 ≤ Int32.toNatClampNeg ((I 118 (Int32.toNatClampNeg x2)) + x4)) then
        let v11 := (I 120 (Int32.toNatClampNeg ((I 118 (Int32.toNatClampNeg x2)) + x4)))
        if v8 = v11 then
          let v12 := x4 + (1 : Int32)
          gX12_areGridsAlike_l39 σ I J R n x1 x2 (1 : Int32) v12
        else
          if v8 = 0 then
            let v13 := x4 + (1 : Int32)
            gX12_areGridsAlike_l39 σ I J R n x1 x2 (0 : Int32) v13
          else
            if v11 = 0 then
              let v14 := x4 + (1 : Int32)
              gX12_areGridsAlike_l39 σ I J R n x1 x2 (0 : Int32) v14
            else
              (gX12_areRowsAlike σ I J R v8 v11).bind fun r15 =>
              if r15 = 0 then
                let v17 := x4 + (1 : Int32)
                gX12_areGridsAlike_l39 σ I J R n x1 x2 (0 : Int32) v17
              else
                let v18 := x4 + (1 : Int32)
                gX12_areGridsAlike_l39 σ I J R n x1 x2 (1 : Int32) v18
        else none
        else none
        else none
        else none
    else none
theorem eX12_areGridsAlike_l39 {σ : Shp} {I : Nat → Nat → Int32} {J : Nat → Nat → Int64} {R : Nat → Nat → Option Nat} (hS : Skel σ R) : ∀ (n : Nat) (x1 : Int32) (x2 : Int32) (x3 : Int32) (x4 : Int32), fX12_areGridsAlike_l39 σ I J R 114 n x1 x2 x3 x4 = gX12_areGridsAlike_l39 σ I J R n x1 x2 x3 x4 := by
  intro n
  induction n with
  | zero => intro x1 x2 x3 x4; rfl
  | succ n ih =>
    intro x1 x2 x3 x4
    rw [fX12_areGridsAlike_l39, gX12_areGridsAlike_l39]
    refine sg (kq114 hS) ?_
    refine sb (rq114_5 hS) ?_
    refine sg (kq117 hS) ?_
    refine bgr (by rw [lq117 hS]) (fun g3 => ?_)
    refine bi (fun c => ?_) (fun c => ?_)
    · refine bg (fun g4 => ?_)
      rfl
    · refine bi (fun c => ?_) (fun c => ?_)
      · refine bg (fun g5 => ?_)
        rfl
      · try with_reducible refine sg (kq114 hS) ?_
        refine sb (rq114_10 hS) ?_
        try with_reducible refine sg (kq114 hS) ?_
        refine sb (rq114_6 hS) ?_
        refine sg (kq118 hS) ?_
        refine bgr (by rw [lq118 hS]) (fun g6 => ?_)
        refine sg (kq120 hS) ?_
        refine bgr (by rw [lq120 hS]) (fun g7 => ?_)
        try with_reducible refine sg (kq114 hS) ?_
        try with_reducible refine sg (kq114 hS) ?_
        try with_reducible refine sg (kq118 hS) ?_
        refine bgr (by rw [lq118 hS]) (fun g9 => ?_)
        try with_reducible refine sg (kq120 hS) ?_
        refine bgr (by rw [lq120 hS]) (fun g10 => ?_)
        refine bi (fun c => ?_) (fun c => ?_)
        · exact ih _ _ _ _
        · refine bi (fun c => ?_) (fun c => ?_)
          · exact ih _ _ _ _
          · refine bi (fun c => ?_) (fun c => ?_)
            · exact ih _ _ _ _
            · try with_reducible refine sg (kq114 hS) ?_
              refine bc (eX12_areRowsAlike hS) (fun r15 hc16 => ?_)
              refine bi (fun c => ?_) (fun c => ?_)
              · exact ih _ _ _ _
              · exact ih _ _ _ _
def gX12_areGridsAlike (σ : Shp) (I : Nat → Nat → Int32) (J : Nat → Nat → Int64) (R : Nat → Nat → Option Nat) (x1 : Int32) (x2 : Int32) : Option ((Int32)) :=
  if ¬ (x1 < 0 ∨ 4100 ≤ Int32.toNatClampNeg x1) then
  if ¬ (x2 < 0 ∨ 4100 ≤ Int32.toNatClampNeg x2) then
  if (I 116 (Int32.toNatClampNeg x1)) = (I 116 (Int32.toNatClampNeg x2)) then
    if ¬ (x1 < 0 ∨ 4100 ≤ Int32.toNatClampNeg x1) then
    if ¬ (x2 < 0 ∨ 4100 ≤ Int32.toNatClampNeg x2) then
    if (I 117 (Int32.toNatClampNeg x1)) = (I 117 (Int32.toNatClampNeg x2)) then
      gX12_areGridsAlike_l39 σ I J R FUx x1 x2 (1 : Int32) (0 : Int32)
    else
      gX12_areGridsAlike_l39 σ I J R FUx x1 x2 (0 : Int32) (0 : Int32)
    else none
    else none
  else
    gX12_areGridsAlike_l39 σ I J R FUx x1 x2 (0 : Int32) (0 : Int32)
  else none
  else none
theorem eX12_areGridsAlike {σ : Shp} {I : Nat → Nat → Int32} {J : Nat → Nat → Int64} {R : Nat → Nat → Option Nat} {x1 : Int32} {x2 : Int32} (hS : Skel σ R) : fX12_areGridsAlike σ I J R 114 x1 x2 = gX12_areGridsAlike σ I J R x1 x2 := by
  unfold fX12_areGridsAlike gX12_areGridsAlike
  refine sg (kq114 hS) ?_
  refine sb (rq114_4 hS) ?_
  refine sg (kq116 hS) ?_
  refine bgr (by rw [lq116 hS]) (fun g1 => ?_)
  try with_reducible refine sg (kq114 hS) ?_
  try with_reducible refine sg (kq116 hS) ?_
  refine bgr (by rw [lq116 hS]) (fun g2 => ?_)
  refine bi (fun c => ?_) (fun c => ?_)
  · try with_reducible refine sg (kq114 hS) ?_
    refine sb (rq114_5 hS) ?_
    refine sg (kq117 hS) ?_
    refine bgr (by rw [lq117 hS]) (fun g19 => ?_)
    try with_reducible refine sg (kq114 hS) ?_
    try with_reducible refine sg (kq117 hS) ?_
    refine bgr (by rw [lq117 hS]) (fun g20 => ?_)
    refine bi (fun c => ?_) (fun c => ?_)
    · exact eX12_areGridsAlike_l39 hS _ _ _ _ _
    · exact eX12_areGridsAlike_l39 hS _ _ _ _ _
  · exact eX12_areGridsAlike_l39 hS _ _ _ _ _
def gX12_arePlacesAlike_l57  (σ : Shp) (I : Nat → Nat → Int32) (J : Nat → Nat → Int64) (R : Nat → Nat → Option Nat) : Nat → (Int32) → (Int32) → (Int32) → (Int32) → Option ((Int32))
  | 0, _, _, _, _ => none
  | n + 1, x1, x2, x3, x4 =>
    if ¬ (x1 < 0 ∨ 4100 ≤ Int32.toNatClampNeg x1) then
    if (I 117 (Int32.toNatClampNeg x1)) ≤ x4 then
      if x3 = 0 ∨ x3 = 1 then
      some x3
      else none
    else
      if x3 = 0 then
        if x3 = 0 ∨ x3 = 1 then
        some x3
        else none
      else
        if ¬ (x1 < 0 ∨ 4100 ≤ Int32.toNatClampNeg x1) then
        if ¬ (((I 118 (Int32.toNatClampNeg x1)) + x4) < 0 ∨ 41000 ≤ Int32.toNatClampNeg ((I 118 (Int32.toNatClampNeg x1)) + x4)) then
        let v8 := (I 120 (Int32.toNatClampNeg ((I 118 (Int32.toNatClampNeg x1)) + x4)))
        if ¬ (x2 < 0 ∨ 4100 ≤ Int32.toNatClampNeg x2) then
        if ¬ (((I 118 (Int32.toNatClampNeg x2)) + x4) < 0 ∨ 41000 ≤ Int32.toNatClampNeg ((I 118 (Int32.toNatClampNeg x2)) + x4)) then
        let v11 := (I 120 (Int32.toNatClampNeg ((I 118 (Int32.toNatClampNeg x2)) + x4)))
        if v8 = v11 then
          let v12 := x4 + (1 : Int32)
          gX12_arePlacesAlike_l57 σ I J R n x1 x2 (1 : Int32) v12
        else
          if ¬ (x1 < 0 ∨ 4100 ≤ Int32.toNatClampNeg x1) then
          if (I 116 (Int32.toNatClampNeg x1)) = (11 : Int32) then
            if v8 = 0 then
              let v15 := x4 + (1 : Int32)
              gX12_arePlacesAlike_l57 σ I J R n x1 x2 (0 : Int32) v15
            else
              if v11 = 0 then
                let v16 := x4 + (1 : Int32)
                gX12_arePlacesAlike_l57 σ I J R n x1 x2 (0 : Int32) v16
              else
                (gX12_areGridsAlike σ I J R v8 v11).bind fun r17 =>
                if r17 = 0 then
                  let v19 := x4 + (1 : Int32)
                  gX12_arePlacesAlike_l57 σ I J R n x1 x2 (0 : Int32) v19
                else
                  let v20 := x4 + (1 : Int32)
                  gX12_arePlacesAlike_l57 σ I J R n x1 x2 (1 : Int32) v20
          else
            let v14 := x4 + (1 : Int32)
            gX12_arePlacesAlike_l57 σ I J R n x1 x2 (0 : Int32) v14
          else none
        else none
        else none
        else none
        else none
    else none
theorem eX12_arePlacesAlike_l57 {σ : Shp} {I : Nat → Nat → Int32} {J : Nat → Nat → Int64} {R : Nat → Nat → Option Nat} (hS : Skel σ R) : ∀ (n : Nat) (x1 : Int32) (x2 : Int32) (x3 : Int32) (x4 : Int32), fX12_arePlacesAlike_l57 σ I J R 114 n x1 x2 x3 x4 = gX12_arePlacesAlike_l57 σ I J R n x1 x2 x3 x4 := by
  intro n
  induction n with
  | zero => intro x1 x2 x3 x4; rfl
  | succ n ih =>
    intro x1 x2 x3 x4
    rw [fX12_arePlacesAlike_l57, gX12_arePlacesAlike_l57]
    refine sg (kq114 hS) ?_
    refine sb (rq114_5 hS) ?_
    refine sg (kq117 hS) ?_
    refine bgr (by rw [lq117 hS]) (fun g3 => ?_)
    refine bi (fun c => ?_) (fun c => ?_)
    · refine bg (fun g4 => ?_)
      rfl
    · refine bi (fun c => ?_) (fun c => ?_)
      · refine bg (fun g5 => ?_)
        rfl
      · try with_reducible refine sg (kq114 hS) ?_
        refine sb (rq114_10 hS) ?_
        try with_reducible refine sg (kq114 hS) ?_
        refine sb (rq114_6 hS) ?_
        refine sg (kq118 hS) ?_
        refine bgr (by rw [lq118 hS]) (fun g6 => ?_)
        refine sg (kq120 hS) ?_
        refine bgr (by rw [lq120 hS]) (fun g7 => ?_)
        try with_reducible refine sg (kq114 hS) ?_
        try with_reducible refine sg (kq114 hS) ?_
        try with_reducible refine sg (kq118 hS) ?_
        refine bgr (by rw [lq118 hS]) (fun g9 => ?_)
        try with_reducible refine sg (kq120 hS) ?_
        refine bgr (by rw [lq120 hS]) (fun g10 => ?_)
        refine bi (fun c => ?_) (fun c => ?_)
        · exact ih _ _ _ _
        · try with_reducible refine sg (kq114 hS) ?_
          refine sb (rq114_4 hS) ?_
          refine sg (kq116 hS) ?_
          refine bgr (by rw [lq116 hS]) (fun g13 => ?_)
          refine bi (fun c => ?_) (fun c => ?_)
          · refine bi (fun c => ?_) (fun c => ?_)
            · exact ih _ _ _ _
            · refine bi (fun c => ?_) (fun c => ?_)
              · exact ih _ _ _ _
              · try with_reducible refine sg (kq114 hS) ?_
                refine bc (eX12_areGridsAlike hS) (fun r17 hc18 => ?_)
                refine bi (fun c => ?_) (fun c => ?_)
                · exact ih _ _ _ _
                · exact ih _ _ _ _
          · exact ih _ _ _ _
def gX12_arePlacesAlike (σ : Shp) (I : Nat → Nat → Int32) (J : Nat → Nat → Int64) (R : Nat → Nat → Option Nat) (x1 : Int32) (x2 : Int32) : Option ((Int32)) :=
  if ¬ (x1 < 0 ∨ 4100 ≤ Int32.toNatClampNeg x1) then
  if (11 : Int32) ≤ (I 116 (Int32.toNatClampNeg x1)) then
    if ¬ (x2 < 0 ∨ 4100 ≤ Int32.toNatClampNeg x2) then
    if (I 116 (Int32.toNatClampNeg x1)) = (I 116 (Int32.toNatClampNeg x2)) then
      if ¬ (x1 < 0 ∨ 4100 ≤ Int32.toNatClampNeg x1) then
      if ¬ (x2 < 0 ∨ 4100 ≤ Int32.toNatClampNeg x2) then
      if (I 117 (Int32.toNatClampNeg x1)) = (I 117 (Int32.toNatClampNeg x2)) then
        gX12_arePlacesAlike_l57 σ I J R FUx x1 x2 (1 : Int32) (0 : Int32)
      else
        gX12_arePlacesAlike_l57 σ I J R FUx x1 x2 (0 : Int32) (0 : Int32)
      else none
      else none
    else
      gX12_arePlacesAlike_l57 σ I J R FUx x1 x2 (0 : Int32) (0 : Int32)
    else none
  else
    (gX12_areGridsAlike σ I J R x1 x2).bind fun r23 =>
    if r23 = 0 ∨ r23 = 1 then
    some r23
    else none
  else none
theorem eX12_arePlacesAlike {σ : Shp} {I : Nat → Nat → Int32} {J : Nat → Nat → Int64} {R : Nat → Nat → Option Nat} {x1 : Int32} {x2 : Int32} (hS : Skel σ R) : fX12_arePlacesAlike σ I J R 114 x1 x2 = gX12_arePlacesAlike σ I J R x1 x2 := by
  unfold fX12_arePlacesAlike gX12_arePlacesAlike
  refine sg (kq114 hS) ?_
  refine sb (rq114_4 hS) ?_
  refine sg (kq116 hS) ?_
  refine bgr (by rw [lq116 hS]) (fun g1 => ?_)
  refine bi (fun c => ?_) (fun c => ?_)
  · try with_reducible refine sg (kq114 hS) ?_
    try with_reducible refine sg (kq116 hS) ?_
    try with_reducible refine sg (by rw [lq116 hS]; exact g1) ?_
    try with_reducible refine sg (kq114 hS) ?_
    try with_reducible refine sg (kq116 hS) ?_
    refine bgr (by rw [lq116 hS]) (fun g2 => ?_)
    refine bi (fun c => ?_) (fun c => ?_)
    · try with_reducible refine sg (kq114 hS) ?_
      refine sb (rq114_5 hS) ?_
      refine sg (kq117 hS) ?_
      refine bgr (by rw [lq117 hS]) (fun g21 => ?_)
      try with_reducible refine sg (kq114 hS) ?_
      try with_reducible refine sg (kq117 hS) ?_
      refine bgr (by rw [lq117 hS]) (fun g22 => ?_)
      refine bi (fun c => ?_) (fun c => ?_)
      · exact eX12_arePlacesAlike_l57 hS _ _ _ _ _
      · exact eX12_arePlacesAlike_l57 hS _ _ _ _ _
    · exact eX12_arePlacesAlike_l57 hS _ _ _ _ _
  · try with_reducible refine sg (kq114 hS) ?_
    refine bc (eX12_areGridsAlike hS) (fun r23 hc24 => ?_)
    refine bg (fun g25 => ?_)
    rfl
def gX12_areCardsAlike_l39  (σ : Shp) (I : Nat → Nat → Int32) (J : Nat → Nat → Int64) (R : Nat → Nat → Option Nat) : Nat → (Int32) → (Int32) → (Int32) → (Int32) → Option ((Int32))
  | 0, _, _, _, _ => none
  | n + 1, x1, x2, x3, x4 =>
    if (8 : Int32) ≤ x4 then
      if x3 = 0 ∨ x3 = 1 then
      some x3
      else none
    else
      if x3 = 0 then
        if x3 = 0 ∨ x3 = 1 then
        some x3
        else none
      else
        if ¬ (x1 < 0 ∨ 4100 ≤ Int32.toNatClampNeg x1) then
        if ¬ (((I 118 (Int32.toNatClampNeg x1)) + x4) < 0 ∨ 164000 ≤ Int32.toNatClampNeg ((I 118 (Int32.toNatClampNeg x1)) + x4)) then
        if ¬ (x2 < 0 ∨ 4100 ≤ Int32.toNatClampNeg x2) then
        if ¬ (((I 118 (Int32.toNatClampNeg x2)) + x4) < 0 ∨ 164000 ≤ Int32.toNatClampNeg ((I 118 (Int32.toNatClampNeg x2)) + x4)) then
        if (J 119 (Int32.toNatClampNeg ((I 118 (Int32.toNatClampNeg x1)) + x4))) = (J 119 (Int32.toNatClampNeg ((I 118 (Int32.toNatClampNeg x2)) + x4))) then
          let v10 := x4 + (1 : Int32)
          gX12_areCardsAlike_l39 σ I J R n x1 x2 (1 : Int32) v10
        else
          let v9 := x4 + (1 : Int32)
          gX12_areCardsAlike_l39 σ I J R n x1 x2 (0 : Int32) v9
        else none
        else none
        else none
        else none
theorem eX12_areCardsAlike_l39 {σ : Shp} {I : Nat → Nat → Int32} {J : Nat → Nat → Int64} {R : Nat → Nat → Option Nat} (hS : Skel σ R) : ∀ (n : Nat) (x1 : Int32) (x2 : Int32) (x3 : Int32) (x4 : Int32), fX12_areCardsAlike_l39 σ I J R 114 n x1 x2 x3 x4 = gX12_areCardsAlike_l39 σ I J R n x1 x2 x3 x4 := by
  intro n
  induction n with
  | zero => intro x1 x2 x3 x4; rfl
  | succ n ih =>
    intro x1 x2 x3 x4
    rw [fX12_areCardsAlike_l39, gX12_areCardsAlike_l39]
    refine bi (fun c => ?_) (fun c => ?_)
    · refine bg (fun g3 => ?_)
      rfl
    · refine bi (fun c => ?_) (fun c => ?_)
      · refine bg (fun g4 => ?_)
        rfl
      · refine sg (kq114 hS) ?_
        refine sb (rq114_8 hS) ?_
        try with_reducible refine sg (kq114 hS) ?_
        refine sb (rq114_6 hS) ?_
        refine sg (kq118 hS) ?_
        refine bgr (by rw [lq118 hS]) (fun g5 => ?_)
        refine sg (kq119 hS) ?_
        refine bgr (by rw [lq119 hS]) (fun g6 => ?_)
        try with_reducible refine sg (kq114 hS) ?_
        try with_reducible refine sg (kq114 hS) ?_
        try with_reducible refine sg (kq118 hS) ?_
        refine bgr (by rw [lq118 hS]) (fun g7 => ?_)
        try with_reducible refine sg (kq119 hS) ?_
        refine bgr (by rw [lq119 hS]) (fun g8 => ?_)
        refine bi (fun c => ?_) (fun c => ?_)
        · exact ih _ _ _ _
        · exact ih _ _ _ _
def gX12_areCardsAlike (σ : Shp) (I : Nat → Nat → Int32) (J : Nat → Nat → Int64) (R : Nat → Nat → Option Nat) (x1 : Int32) (x2 : Int32) : Option ((Int32)) :=
  if ¬ (x1 < 0 ∨ 4100 ≤ Int32.toNatClampNeg x1) then
  if ¬ (x2 < 0 ∨ 4100 ≤ Int32.toNatClampNeg x2) then
  if (I 125 (Int32.toNatClampNeg x1)) = (I 125 (Int32.toNatClampNeg x2)) then
    if ¬ (x1 < 0 ∨ 4100 ≤ Int32.toNatClampNeg x1) then
    if ¬ (x2 < 0 ∨ 4100 ≤ Int32.toNatClampNeg x2) then
    if (I 126 (Int32.toNatClampNeg x1)) = (I 126 (Int32.toNatClampNeg x2)) then
      gX12_areCardsAlike_l39 σ I J R FUx x1 x2 (1 : Int32) (0 : Int32)
    else
      gX12_areCardsAlike_l39 σ I J R FUx x1 x2 (0 : Int32) (0 : Int32)
    else none
    else none
  else
    gX12_areCardsAlike_l39 σ I J R FUx x1 x2 (0 : Int32) (0 : Int32)
  else none
  else none
theorem eX12_areCardsAlike {σ : Shp} {I : Nat → Nat → Int32} {J : Nat → Nat → Int64} {R : Nat → Nat → Option Nat} {x1 : Int32} {x2 : Int32} (hS : Skel σ R) : fX12_areCardsAlike σ I J R 114 x1 x2 = gX12_areCardsAlike σ I J R x1 x2 := by
  unfold fX12_areCardsAlike gX12_areCardsAlike
  refine sg (kq114 hS) ?_
  refine sb (rq114_15 hS) ?_
  refine sg (kq125 hS) ?_
  refine bgr (by rw [lq125 hS]) (fun g1 => ?_)
  try with_reducible refine sg (kq114 hS) ?_
  try with_reducible refine sg (kq125 hS) ?_
  refine bgr (by rw [lq125 hS]) (fun g2 => ?_)
  refine bi (fun c => ?_) (fun c => ?_)
  · try with_reducible refine sg (kq114 hS) ?_
    refine sb (rq114_16 hS) ?_
    refine sg (kq126 hS) ?_
    refine bgr (by rw [lq126 hS]) (fun g11 => ?_)
    try with_reducible refine sg (kq114 hS) ?_
    try with_reducible refine sg (kq126 hS) ?_
    refine bgr (by rw [lq126 hS]) (fun g12 => ?_)
    refine bi (fun c => ?_) (fun c => ?_)
    · exact eX12_areCardsAlike_l39 hS _ _ _ _ _
    · exact eX12_areCardsAlike_l39 hS _ _ _ _ _
  · exact eX12_areCardsAlike_l39 hS _ _ _ _ _
def gX12_alike (σ : Shp) (I : Nat → Nat → Int32) (J : Nat → Nat → Int64) (R : Nat → Nat → Option Nat) (x1 : Int32) (x2 : Int32) : Option ((Int32)) :=
  if (fX12_isBin x1) = 0 then
    some (-2 : Int32)
  else
    if (fX12_isBin x2) = 0 then
      some (-2 : Int32)
    else
      if ¬ (x1 < 0 ∨ 16 ≤ Int32.toNatClampNeg x1) then
      let v2 := (I 115 (Int32.toNatClampNeg x1))
      if ¬ (x2 < 0 ∨ 16 ≤ Int32.toNatClampNeg x2) then
      let v4 := (I 115 (Int32.toNatClampNeg x2))
      if v2 = v4 then
        some (2 : Int32)
      else
        if v2 = 0 then
          some (0 : Int32)
        else
          if v4 = 0 then
            some (0 : Int32)
          else
            if ¬ (v2 < 0 ∨ 4100 ≤ Int32.toNatClampNeg v2) then
            if ¬ (v4 < 0 ∨ 4100 ≤ Int32.toNatClampNeg v4) then
            if (I 116 (Int32.toNatClampNeg v2)) = (I 116 (Int32.toNatClampNeg v4)) then
              if (I 116 (Int32.toNatClampNeg v2)) = (16 : Int32) then
                some (0 : Int32)
              else
                (gX12_isRow I v2).bind fun r7 =>
                if r7 = 0 then
                  if (I 116 (Int32.toNatClampNeg v2)) = (17 : Int32) then
                    (gX12_areCardsAlike σ I J R v2 v4).bind fun r11 =>
                    if r11 = 0 then
                      some (0 : Int32)
                    else
                      some (1 : Int32)
                  else
                    (gX12_arePlacesAlike σ I J R v2 v4).bind fun r9 =>
                    if r9 = 0 then
                      some (0 : Int32)
                    else
                      some (1 : Int32)
                else
                  (gX12_areRowsAlike σ I J R v2 v4).bind fun r13 =>
                  if r13 = 0 then
                    some (0 : Int32)
                  else
                    some (1 : Int32)
            else
              some (0 : Int32)
            else none
            else none
      else none
      else none
theorem eX12_alike {σ : Shp} {I : Nat → Nat → Int32} {J : Nat → Nat → Int64} {R : Nat → Nat → Option Nat} {x1 : Int32} {x2 : Int32} (hS : Skel σ R) : fX12_alike σ I J R 114 x1 x2 = gX12_alike σ I J R x1 x2 := by
  unfold fX12_alike gX12_alike
  refine bi (fun c => ?_) (fun c => ?_)
  · rfl
  · refine bi (fun c => ?_) (fun c => ?_)
    · rfl
    · refine sg (kq114 hS) ?_
      refine sb (rq114_3 hS) ?_
      refine sg (kq115 hS) ?_
      refine bgr (by rw [lq115 hS]) (fun g1 => ?_)
      try with_reducible refine sg (kq114 hS) ?_
      try with_reducible refine sg (kq115 hS) ?_
      refine bgr (by rw [lq115 hS]) (fun g3 => ?_)
      refine bi (fun c => ?_) (fun c => ?_)
      · rfl
      · refine bi (fun c => ?_) (fun c => ?_)
        · rfl
        · refine bi (fun c => ?_) (fun c => ?_)
          · rfl
          · try with_reducible refine sg (kq114 hS) ?_
            refine sb (rq114_4 hS) ?_
            refine sg (kq116 hS) ?_
            refine bgr (by rw [lq116 hS]) (fun g5 => ?_)
            try with_reducible refine sg (kq114 hS) ?_
            try with_reducible refine sg (kq116 hS) ?_
            refine bgr (by rw [lq116 hS]) (fun g6 => ?_)
            refine bi (fun c => ?_) (fun c => ?_)
            · try with_reducible refine sg (kq114 hS) ?_
              try with_reducible refine sg (kq116 hS) ?_
              try with_reducible refine sg (by rw [lq116 hS]; exact g5) ?_
              refine bi (fun c => ?_) (fun c => ?_)
              · rfl
              · try with_reducible refine sg (kq114 hS) ?_
                refine bc (eX12_isRow hS) (fun r7 hc8 => ?_)
                refine bi (fun c => ?_) (fun c => ?_)
                · try with_reducible refine sg (kq114 hS) ?_
                  try with_reducible refine sg (kq116 hS) ?_
                  try with_reducible refine sg (by rw [lq116 hS]; exact g5) ?_
                  refine bi (fun c => ?_) (fun c => ?_)
                  · try with_reducible refine sg (kq114 hS) ?_
                    refine bc (eX12_areCardsAlike hS) (fun r11 hc12 => ?_)
                    refine bi (fun c => ?_) (fun c => ?_)
                    · rfl
                    · rfl
                  · try with_reducible refine sg (kq114 hS) ?_
                    refine bc (eX12_arePlacesAlike hS) (fun r9 hc10 => ?_)
                    refine bi (fun c => ?_) (fun c => ?_)
                    · rfl
                    · rfl
                · try with_reducible refine sg (kq114 hS) ?_
                  refine bc (eX12_areRowsAlike hS) (fun r13 hc14 => ?_)
                  refine bi (fun c => ?_) (fun c => ?_)
                  · rfl
                  · rfl
            · rfl
def gX12_size_l61  (σ : Shp) (R : Nat → Nat → Option Nat) : Nat → (Nat → Nat → Int32) → (Int32) → (Int32) → (Int32) → (Int32) → Option ((Nat → Nat → Int32) × (Int32))
  | 0, _, _, _, _, _ => none
  | n + 1, I, x2, x3, x4, x5 =>
    if ¬ (x3 < 0 ∨ 4100 ≤ Int32.toNatClampNeg x3) then
    if (I 117 (Int32.toNatClampNeg x3)) ≤ x5 then
      if x2 = 0 then
        some (I, (I 117 (Int32.toNatClampNeg x3)))
      else
        some (I, x4)
    else
      (gX12_isRow I x3).bind fun r11 =>
      if r11 = 0 then
        if ¬ (x3 < 0 ∨ 4100 ≤ Int32.toNatClampNeg x3) then
        if ¬ (((I 118 (Int32.toNatClampNeg x3)) + x5) < 0 ∨ 41000 ≤ Int32.toNatClampNeg ((I 118 (Int32.toNatClampNeg x3)) + x5)) then
        if (I 120 (Int32.toNatClampNeg ((I 118 (Int32.toNatClampNeg x3)) + x5))) = 0 then
          let v17 := (x4 + (1 : Int32))
          let v18 := x5 + (1 : Int32)
          gX12_size_l61 σ R n I x2 x3 v17 v18
        else
          let v15 := (x4 + (0 : Int32))
          let v16 := x5 + (1 : Int32)
          gX12_size_l61 σ R n I x2 x3 v15 v16
        else none
        else none
      else
        if x2 = 0 then
          some (I, (I 117 (Int32.toNatClampNeg x3)))
        else
          some (I, x4)
    else none
theorem eX12_size_l61 {σ : Shp} {R : Nat → Nat → Option Nat} (hS : Skel σ R) : ∀ (n : Nat) (I : Nat → Nat → Int32) (x2 : Int32) (x3 : Int32) (x4 : Int32) (x5 : Int32), fX12_size_l61 σ R 114 n I x2 x3 x4 x5 = gX12_size_l61 σ R n I x2 x3 x4 x5 := by
  intro n
  induction n with
  | zero => intro I x2 x3 x4 x5; rfl
  | succ n ih =>
    intro I x2 x3 x4 x5
    rw [fX12_size_l61, gX12_size_l61]
    refine sg (kq114 hS) ?_
    refine sb (rq114_5 hS) ?_
    refine sg (kq117 hS) ?_
    refine bgr (by rw [lq117 hS]) (fun g10 => ?_)
    refine bi (fun c => ?_) (fun c => ?_)
    · refine bi (fun c => ?_) (fun c => ?_)
      · try with_reducible refine sg (kq114 hS) ?_
        try with_reducible refine sg (kq117 hS) ?_
        try with_reducible refine sg (by rw [lq117 hS]; exact g10) ?_
        rfl
      · rfl
    · try with_reducible refine sg (kq114 hS) ?_
      refine bc (eX12_isRow hS) (fun r11 hc12 => ?_)
      refine bi (fun c => ?_) (fun c => ?_)
      · try with_reducible refine sg (kq114 hS) ?_
        refine sb (rq114_10 hS) ?_
        try with_reducible refine sg (kq114 hS) ?_
        refine sb (rq114_6 hS) ?_
        refine sg (kq118 hS) ?_
        refine bgr (by rw [lq118 hS]) (fun g13 => ?_)
        refine sg (kq120 hS) ?_
        refine bgr (by rw [lq120 hS]) (fun g14 => ?_)
        refine bi (fun c => ?_) (fun c => ?_)
        · exact ih _ _ _ _ _
        · exact ih _ _ _ _ _
      · refine bi (fun c => ?_) (fun c => ?_)
        · try with_reducible refine sg (kq114 hS) ?_
          try with_reducible refine sg (kq117 hS) ?_
          try with_reducible refine sg (by rw [lq117 hS]; exact g10) ?_
          rfl
        · rfl
def gX12_size (σ : Shp) (I : Nat → Nat → Int32) (R : Nat → Nat → Option Nat) (x1 : Int32) (x2 : Int32) : Option ((Nat → Nat → Int32) × (Int32)) :=
  if (fX12_isBin x1) = 0 then
    some (I, (-2 : Int32))
  else
    if (fX12_in x2 (0 : Int32) (1 : Int32)) = 0 then
      some (I, (-2 : Int32))
    else
      if ¬ (x1 < 0 ∨ 16 ≤ Int32.toNatClampNeg x1) then
      let v2 := (I 115 (Int32.toNatClampNeg x1))
      if v2 = 0 then
        if v2 = 0 then
          (gX12_no I (1 : Int32)).bind fun (I6, r7) =>
          some (I6, r7)
        else
          (gX12_no I (4 : Int32)).bind fun (I3, r4) =>
          some (I3, r4)
      else
        if ¬ (v2 < 0 ∨ 4100 ≤ Int32.toNatClampNeg v2) then
        if (I 116 (Int32.toNatClampNeg v2)) < (16 : Int32) then
          gX12_size_l61 σ R FUx I x2 v2 (0 : Int32) (0 : Int32)
        else
          if v2 = 0 then
            (gX12_no I (1 : Int32)).bind fun (I22, r23) =>
            some (I22, r23)
          else
            (gX12_no I (4 : Int32)).bind fun (I19, r20) =>
            some (I19, r20)
        else none
      else none
theorem eX12_size {σ : Shp} {I : Nat → Nat → Int32} {R : Nat → Nat → Option Nat} {x1 : Int32} {x2 : Int32} (hS : Skel σ R) : fX12_size σ I R 114 x1 x2 = gX12_size σ I R x1 x2 := by
  unfold fX12_size gX12_size
  refine bi (fun c => ?_) (fun c => ?_)
  · rfl
  · refine bi (fun c => ?_) (fun c => ?_)
    · rfl
    · refine sg (kq114 hS) ?_
      refine sb (rq114_3 hS) ?_
      refine sg (kq115 hS) ?_
      refine bgr (by rw [lq115 hS]) (fun g1 => ?_)
      refine bi (fun c => ?_) (fun c => ?_)
      · refine bi (fun c => ?_) (fun c => ?_)
        · try with_reducible refine sg (kq114 hS) ?_
          refine bc (eX12_no hS) (fun pp hc8 => ?_)
          obtain ⟨I6, r7⟩ := pp
          rfl
        · try with_reducible refine sg (kq114 hS) ?_
          refine bc (eX12_no hS) (fun pp hc5 => ?_)
          obtain ⟨I3, r4⟩ := pp
          rfl
      · try with_reducible refine sg (kq114 hS) ?_
        refine sb (rq114_4 hS) ?_
        refine sg (kq116 hS) ?_
        refine bgr (by rw [lq116 hS]) (fun g9 => ?_)
        refine bi (fun c => ?_) (fun c => ?_)
        · exact eX12_size_l61 hS _ _ _ _ _ _
        · refine bi (fun c => ?_) (fun c => ?_)
          · try with_reducible refine sg (kq114 hS) ?_
            refine bc (eX12_no hS) (fun pp hc24 => ?_)
            obtain ⟨I22, r23⟩ := pp
            rfl
          · try with_reducible refine sg (kq114 hS) ?_
            refine bc (eX12_no hS) (fun pp hc21 => ?_)
            obtain ⟨I19, r20⟩ := pp
            rfl
def gX12_plant_b244  (σ : Shp) (R : Nat → Nat → Option Nat) (I : Nat → Nat → Int32) (x1 : Int32) (x7 : Int32) (x8 : Int32) (s0 : Option Nat) (s1 : Int32) (s2 : Int32) : Option ((Nat → Nat → Int32) × (Int32)) :=
  (s0 : Option Nat).bind fun a16 =>
  if kdx σ a16 = 23 then
  if ¬ (s1 < 0 ∨ lnx σ a16 ≤ Int32.toNatClampNeg s1) then
  let I19 := u2 I a16 (Int32.toNatClampNeg s1) ((Int32.toInt16 ((Int32.toInt16 s2).toInt32)).toInt32)
  if ¬ (x8 < 0 ∨ 4100 ≤ Int32.toNatClampNeg x8) then
  let I21 := u2 I19 127 (Int32.toNatClampNeg x8) ((Int32.toInt8 ((Int32.toInt8 x7).toInt32)).toInt32)
  if ¬ (x8 < 0 ∨ 4100 ≤ Int32.toNatClampNeg x8) then
  let I23 := u2 I21 121 (Int32.toNatClampNeg x8) (I21 114 18)
  let I24 := u2 I23 114 18 ((I23 114 18) + (1 : Int32))
  if ¬ (x1 < 0 ∨ 16 ≤ Int32.toNatClampNeg x1) then
  let I26 := u2 I24 115 (Int32.toNatClampNeg x1) x8
  some (I26, (I26 121 (Int32.toNatClampNeg x8)))
  else none
  else none
  else none
  else none
  else none
theorem eX12_plant_b244 {σ : Shp} {I : Nat → Nat → Int32} {R : Nat → Nat → Option Nat} {x1 : Int32} {x7 : Int32} {x8 : Int32} {s0 : Option Nat} {s1 : Int32} {s2 : Int32} (hS : Skel σ R) : fX12_plant_b244 σ R 114 I x1 x7 x8 s0 s1 s2 = gX12_plant_b244 σ R I x1 x7 x8 s0 s1 s2 := by
  unfold fX12_plant_b244 gX12_plant_b244
  refine bb (fun a16 ha16 => ?_)
  refine bg (fun g17 => ?_)
  refine bg (fun g18 => ?_)
  refine sg (kq114 hS) ?_
  refine sb (rq114_17 hS) ?_
  refine sg (kq127 hS) ?_
  refine bgr (by rw [lq127 hS]) (fun g20 => ?_)
  try with_reducible refine sg (kq114 hS) ?_
  refine sb (rq114_11 hS) ?_
  try with_reducible refine sg (kq114 hS) ?_
  refine sg (kq121 hS) ?_
  refine bgr (by rw [lq121 hS]) (fun g22 => ?_)
  try with_reducible refine sg (kq114 hS) ?_
  try with_reducible refine sg (kq114 hS) ?_
  try with_reducible refine sg (kq114 hS) ?_
  refine sb (rq114_3 hS) ?_
  refine sg (kq115 hS) ?_
  refine bgr (by rw [lq115 hS]) (fun g25 => ?_)
  try with_reducible refine sg (kq114 hS) ?_
  try with_reducible refine sg (kq121 hS) ?_
  try with_reducible refine sg (by rw [lq121 hS]; exact g22) ?_
  rfl
def gX12_plant_b220  (σ : Shp) (R : Nat → Nat → Option Nat) (I : Nat → Nat → Int32) (x1 : Int32) (x2 : Int32) (x6 : Int32) (x7 : Int32) (x8 : Int32) (s0 : Option Nat) (s1 : Int32) (s2 : Int32) : Option ((Nat → Nat → Int32) × (Int32)) :=
  (s0 : Option Nat).bind fun a12 =>
  if kdx σ a12 = 23 then
  if ¬ (s1 < 0 ∨ lnx σ a12 ≤ Int32.toNatClampNeg s1) then
  let I15 := u2 I a12 (Int32.toNatClampNeg s1) ((Int32.toInt16 ((Int32.toInt16 s2).toInt32)).toInt32)
  if x2 = (2 : Int32) then
    if ¬ (x6 < 0 ∨ 16 ≤ Int32.toNatClampNeg x6) then
    gX12_plant_b244 σ R I15 x1 x7 x8 (some 126) x8 (I15 115 (Int32.toNatClampNeg x6))
    else none
  else
    gX12_plant_b244 σ R I15 x1 x7 x8 (some 126) x8 (0 : Int32)
  else none
  else none
theorem eX12_plant_b220 {σ : Shp} {I : Nat → Nat → Int32} {R : Nat → Nat → Option Nat} {x1 : Int32} {x2 : Int32} {x6 : Int32} {x7 : Int32} {x8 : Int32} {s0 : Option Nat} {s1 : Int32} {s2 : Int32} (hS : Skel σ R) : fX12_plant_b220 σ R 114 I x1 x2 x6 x7 x8 s0 s1 s2 = gX12_plant_b220 σ R I x1 x2 x6 x7 x8 s0 s1 s2 := by
  unfold fX12_plant_b220 gX12_plant_b220
  refine bb (fun a12 ha12 => ?_)
  refine bg (fun g13 => ?_)
  refine bg (fun g14 => ?_)
  refine sg (kq114 hS) ?_
  refine sb (rq114_16 hS) ?_
  refine bi (fun c => ?_) (fun c => ?_)
  · try with_reducible refine sg (kq114 hS) ?_
    refine sb (rq114_3 hS) ?_
    refine sg (kq115 hS) ?_
    refine bgr (by rw [lq115 hS]) (fun g27 => ?_)
    exact eX12_plant_b244 hS
  · exact eX12_plant_b244 hS
def gX12_plant_b163  (σ : Shp) (R : Nat → Nat → Option Nat) (I : Nat → Nat → Int32) (x1 : Int32) (x2 : Int32) (x3 : Int32) (x4 : Int32) (x5 : Int32) (x6 : Int32) (x7 : Int32) : Option ((Nat → Nat → Int32) × (Int32)) :=
  (gX12_thing I (16 : Int32) (0 : Int32)).bind fun (I3, r4) =>
  if ¬ (r4 < 0 ∨ 4100 ≤ Int32.toNatClampNeg r4) then
  let I7 := u2 I3 122 (Int32.toNatClampNeg r4) ((Int32.toInt8 ((Int32.toInt8 x2).toInt32)).toInt32)
  if ¬ (r4 < 0 ∨ 4100 ≤ Int32.toNatClampNeg r4) then
  let I9 := u2 I7 123 (Int32.toNatClampNeg r4) x3
  if ¬ (r4 < 0 ∨ 4100 ≤ Int32.toNatClampNeg r4) then
  let I11 := u2 I9 124 (Int32.toNatClampNeg r4) x4
  if x2 = (2 : Int32) then
    if ¬ (x5 < 0 ∨ 16 ≤ Int32.toNatClampNeg x5) then
    gX12_plant_b220 σ R I11 x1 x2 x6 x7 r4 (some 125) r4 (I11 115 (Int32.toNatClampNeg x5))
    else none
  else
    gX12_plant_b220 σ R I11 x1 x2 x6 x7 r4 (some 125) r4 (0 : Int32)
  else none
  else none
  else none
theorem eX12_plant_b163 {σ : Shp} {I : Nat → Nat → Int32} {R : Nat → Nat → Option Nat} {x1 : Int32} {x2 : Int32} {x3 : Int32} {x4 : Int32} {x5 : Int32} {x6 : Int32} {x7 : Int32} (hS : Skel σ R) : fX12_plant_b163 σ R 114 I x1 x2 x3 x4 x5 x6 x7 = gX12_plant_b163 σ R I x1 x2 x3 x4 x5 x6 x7 := by
  unfold fX12_plant_b163 gX12_plant_b163
  refine sg (kq114 hS) ?_
  refine bc (eX12_thing hS) (fun pp hc5 => ?_)
  obtain ⟨I3, r4⟩ := pp
  try with_reducible refine sg (kq114 hS) ?_
  refine sb (rq114_12 hS) ?_
  refine sg (kq122 hS) ?_
  refine bgr (by rw [lq122 hS]) (fun g6 => ?_)
  try with_reducible refine sg (kq114 hS) ?_
  refine sb (rq114_13 hS) ?_
  refine sg (kq123 hS) ?_
  refine bgr (by rw [lq123 hS]) (fun g8 => ?_)
  try with_reducible refine sg (kq114 hS) ?_
  refine sb (rq114_14 hS) ?_
  refine sg (kq124 hS) ?_
  refine bgr (by rw [lq124 hS]) (fun g10 => ?_)
  try with_reducible refine sg (kq114 hS) ?_
  refine sb (rq114_15 hS) ?_
  refine bi (fun c => ?_) (fun c => ?_)
  · try with_reducible refine sg (kq114 hS) ?_
    refine sb (rq114_3 hS) ?_
    refine sg (kq115 hS) ?_
    refine bgr (by rw [lq115 hS]) (fun g28 => ?_)
    exact eX12_plant_b220 hS
  · exact eX12_plant_b220 hS
def gX12_plant_b40  (σ : Shp) (R : Nat → Nat → Option Nat) (I : Nat → Nat → Int32) (x1 : Int32) (x2 : Int32) (x3 : Int32) (x4 : Int32) (x5 : Int32) (x6 : Int32) : Option ((Nat → Nat → Int32) × (Int32)) :=
  (gX12_isFull I).bind fun r1 =>
  if r1 = 0 then
    if x2 = (2 : Int32) then
      if ¬ (x5 < 0 ∨ 16 ≤ Int32.toNatClampNeg x5) then
      (gX12_isOf I (I 115 (Int32.toNatClampNeg x5)) (16 : Int32)).bind fun r30 =>
      if r30 = 0 then
        (gX12_no I (4 : Int32)).bind fun (I32, r33) =>
        some (I32, r33)
      else
        if ¬ (x6 < 0 ∨ 16 ≤ Int32.toNatClampNeg x6) then
        (gX12_isOf I (I 115 (Int32.toNatClampNeg x6)) (16 : Int32)).bind fun r36 =>
        if r36 = 0 then
          (gX12_no I (4 : Int32)).bind fun (I42, r43) =>
          some (I42, r43)
        else
          if ¬ ((I 115 (Int32.toNatClampNeg x5)) < 0 ∨ 4100 ≤ Int32.toNatClampNeg (I 115 (Int32.toNatClampNeg x5))) then
          if ¬ ((I 115 (Int32.toNatClampNeg x6)) < 0 ∨ 4100 ≤ Int32.toNatClampNeg (I 115 (Int32.toNatClampNeg x6))) then
          if (I 127 (Int32.toNatClampNeg (I 115 (Int32.toNatClampNeg x5)))) ≤ (I 127 (Int32.toNatClampNeg (I 115 (Int32.toNatClampNeg x6)))) then
            let v40 := ((1 : Int32) + (I 127 (Int32.toNatClampNeg (I 115 (Int32.toNatClampNeg x6)))))
            if v40 ≤ (4 : Int32) then
              gX12_plant_b163 σ R I x1 x2 x3 x4 x5 x6 v40
            else
              some (I, (-4 : Int32))
          else
            let v41 := ((1 : Int32) + (I 127 (Int32.toNatClampNeg (I 115 (Int32.toNatClampNeg x5)))))
            if v41 ≤ (4 : Int32) then
              gX12_plant_b163 σ R I x1 x2 x3 x4 x5 x6 v41
            else
              some (I, (-4 : Int32))
          else none
          else none
        else none
      else none
    else
      gX12_plant_b163 σ R I x1 x2 x3 x4 x5 x6 (0 : Int32)
  else
    some (I, (-4 : Int32))
theorem eX12_plant_b40 {σ : Shp} {I : Nat → Nat → Int32} {R : Nat → Nat → Option Nat} {x1 : Int32} {x2 : Int32} {x3 : Int32} {x4 : Int32} {x5 : Int32} {x6 : Int32} (hS : Skel σ R) : fX12_plant_b40 σ R 114 I x1 x2 x3 x4 x5 x6 = gX12_plant_b40 σ R I x1 x2 x3 x4 x5 x6 := by
  unfold fX12_plant_b40 gX12_plant_b40
  refine sg (kq114 hS) ?_
  refine bc (eX12_isFull hS) (fun r1 hc2 => ?_)
  refine bi (fun c => ?_) (fun c => ?_)
  · refine bi (fun c => ?_) (fun c => ?_)
    · try with_reducible refine sg (kq114 hS) ?_
      refine sb (rq114_3 hS) ?_
      refine sg (kq115 hS) ?_
      refine bgr (by rw [lq115 hS]) (fun g29 => ?_)
      try with_reducible refine sg (kq114 hS) ?_
      refine bc (eX12_isOf hS) (fun r30 hc31 => ?_)
      refine bi (fun c => ?_) (fun c => ?_)
      · try with_reducible refine sg (kq114 hS) ?_
        refine bc (eX12_no hS) (fun pp hc34 => ?_)
        obtain ⟨I32, r33⟩ := pp
        rfl
      · try with_reducible refine sg (kq114 hS) ?_
        try with_reducible refine sg (kq115 hS) ?_
        refine bgr (by rw [lq115 hS]) (fun g35 => ?_)
        try with_reducible refine sg (kq114 hS) ?_
        refine bc (eX12_isOf hS) (fun r36 hc37 => ?_)
        refine bi (fun c => ?_) (fun c => ?_)
        · try with_reducible refine sg (kq114 hS) ?_
          refine bc (eX12_no hS) (fun pp hc44 => ?_)
          obtain ⟨I42, r43⟩ := pp
          rfl
        · try with_reducible refine sg (kq114 hS) ?_
          refine sb (rq114_17 hS) ?_
          try with_reducible refine sg (kq114 hS) ?_
          try with_reducible refine sg (kq115 hS) ?_
          try with_reducible refine sg (by rw [lq115 hS]; exact g29) ?_
          refine sg (kq127 hS) ?_
          refine bgr (by rw [lq127 hS]) (fun g38 => ?_)
          try with_reducible refine sg (kq114 hS) ?_
          try with_reducible refine sg (kq114 hS) ?_
          try with_reducible refine sg (kq115 hS) ?_
          try with_reducible refine sg (by rw [lq115 hS]; exact g35) ?_
          try with_reducible refine sg (kq127 hS) ?_
          refine bgr (by rw [lq127 hS]) (fun g39 => ?_)
          refine bi (fun c => ?_) (fun c => ?_)
          · try with_reducible refine sg (kq114 hS) ?_
            try with_reducible refine sg (kq114 hS) ?_
            try with_reducible refine sg (kq115 hS) ?_
            try with_reducible refine sg (by rw [lq115 hS]; exact g35) ?_
            try with_reducible refine sg (kq127 hS) ?_
            try with_reducible refine sg (by rw [lq127 hS]; exact g39) ?_
            refine bi (fun c => ?_) (fun c => ?_)
            · exact eX12_plant_b163 hS
            · rfl
          · try with_reducible refine sg (kq114 hS) ?_
            try with_reducible refine sg (kq114 hS) ?_
            try with_reducible refine sg (kq115 hS) ?_
            try with_reducible refine sg (by rw [lq115 hS]; exact g29) ?_
            try with_reducible refine sg (kq127 hS) ?_
            try with_reducible refine sg (by rw [lq127 hS]; exact g38) ?_
            refine bi (fun c => ?_) (fun c => ?_)
            · exact eX12_plant_b163 hS
            · rfl
    · exact eX12_plant_b163 hS
  · rfl
def gX12_plant (σ : Shp) (I : Nat → Nat → Int32) (R : Nat → Nat → Option Nat) (x1 : Int32) (x2 : Int32) (x3 : Int32) (x4 : Int32) (x5 : Int32) (x6 : Int32) : Option ((Nat → Nat → Int32) × (Int32)) :=
  if (fX12_isBin x1) = 0 then
    some (I, (-2 : Int32))
  else
    if (fX12_in x2 (0 : Int32) (5 : Int32)) = 0 then
      some (I, (-2 : Int32))
    else
      if x2 = (2 : Int32) then
        if (fX12_isBin x5) = 0 then
          some (I, (-2 : Int32))
        else
          if (fX12_isBin x6) = 0 then
            some (I, (-2 : Int32))
          else
            gX12_plant_b40 σ R I x1 x2 x3 x4 x5 x6
      else
        gX12_plant_b40 σ R I x1 x2 x3 x4 x5 x6
theorem eX12_plant {σ : Shp} {I : Nat → Nat → Int32} {R : Nat → Nat → Option Nat} {x1 : Int32} {x2 : Int32} {x3 : Int32} {x4 : Int32} {x5 : Int32} {x6 : Int32} (hS : Skel σ R) : fX12_plant σ I R 114 x1 x2 x3 x4 x5 x6 = gX12_plant σ I R x1 x2 x3 x4 x5 x6 := by
  unfold fX12_plant gX12_plant
  refine bi (fun c => ?_) (fun c => ?_)
  · rfl
  · refine bi (fun c => ?_) (fun c => ?_)
    · rfl
    · refine bi (fun c => ?_) (fun c => ?_)
      · refine bi (fun c => ?_) (fun c => ?_)
        · rfl
        · refine bi (fun c => ?_) (fun c => ?_)
          · rfl
          · exact eX12_plant_b40 hS
      · exact eX12_plant_b40 hS
def gX12_body (I : Nat → Nat → Int32) (x1 : Int32) : Option ((Nat → Nat → Int32)) :=
  if ¬ ((I 114 24) < 0 ∨ 200 ≤ Int32.toNatClampNeg (I 114 24)) then
  let I2 := u2 I 129 (Int32.toNatClampNeg (I 114 24)) x1
  let I3 := u2 I2 114 24 ((I2 114 24) + (1 : Int32))
  some I3
  else none
theorem eX12_body {σ : Shp} {I : Nat → Nat → Int32} {R : Nat → Nat → Option Nat} {x1 : Int32} (hS : Skel σ R) : fX12_body σ I R 114 x1 = gX12_body I x1 := by
  unfold fX12_body gX12_body
  refine sg (kq114 hS) ?_
  refine sb (rq114_23 hS) ?_
  try with_reducible refine sg (kq114 hS) ?_
  refine sg (kq129 hS) ?_
  refine bgr (by rw [lq129 hS]) (fun g1 => ?_)
  try with_reducible refine sg (kq114 hS) ?_
  try with_reducible refine sg (kq114 hS) ?_
  rfl
def gX12_plainSize_b62  (σ : Shp) (R : Nat → Nat → Option Nat) (I : Nat → Nat → Int32) (x1 : Int32) : Option ((Nat → Nat → Int32) × (Int32)) :=
  if ¬ (x1 < 0 ∨ 4100 ≤ Int32.toNatClampNeg x1) then
  if (I 122 (Int32.toNatClampNeg x1)) = (1 : Int32) then
    if ¬ (x1 < 0 ∨ 4100 ≤ Int32.toNatClampNeg x1) then
    if ¬ (x1 < 0 ∨ 4100 ≤ Int32.toNatClampNeg x1) then
    some (I, (((2 : Int32) * (I 123 (Int32.toNatClampNeg x1))) + (I 124 (Int32.toNatClampNeg x1))))
    else none
    else none
  else
    if (I 122 (Int32.toNatClampNeg x1)) = (3 : Int32) then
      if ¬ (x1 < 0 ∨ 4100 ≤ Int32.toNatClampNeg x1) then
      if ¬ (x1 < 0 ∨ 4100 ≤ Int32.toNatClampNeg x1) then
      if ¬ (I 124 (Int32.toNatClampNeg x1)) = 0 then
      some (I, ((I 123 (Int32.toNatClampNeg x1)) / (I 124 (Int32.toNatClampNeg x1))))
      else none
      else none
      else none
    else
      if ¬ (x1 < 0 ∨ 4100 ≤ Int32.toNatClampNeg x1) then
      some (I, (I 123 (Int32.toNatClampNeg x1)))
      else none
  else none
theorem eX12_plainSize_b62 {σ : Shp} {I : Nat → Nat → Int32} {R : Nat → Nat → Option Nat} {x1 : Int32} (hS : Skel σ R) : fX12_plainSize_b62 σ R 114 I x1 = gX12_plainSize_b62 σ R I x1 := by
  unfold fX12_plainSize_b62 gX12_plainSize_b62
  refine sg (kq114 hS) ?_
  refine sb (rq114_12 hS) ?_
  refine sg (kq122 hS) ?_
  refine bgr (by rw [lq122 hS]) (fun g5 => ?_)
  refine bi (fun c => ?_) (fun c => ?_)
  · try with_reducible refine sg (kq114 hS) ?_
    refine sb (rq114_13 hS) ?_
    refine sg (kq123 hS) ?_
    refine bgr (by rw [lq123 hS]) (fun g10 => ?_)
    try with_reducible refine sg (kq114 hS) ?_
    refine sb (rq114_14 hS) ?_
    refine sg (kq124 hS) ?_
    refine bgr (by rw [lq124 hS]) (fun g11 => ?_)
    rfl
  · try with_reducible refine sg (kq114 hS) ?_
    try with_reducible refine sg (kq122 hS) ?_
    try with_reducible refine sg (by rw [lq122 hS]; exact g5) ?_
    refine bi (fun c => ?_) (fun c => ?_)
    · try with_reducible refine sg (kq114 hS) ?_
      refine sb (rq114_13 hS) ?_
      refine sg (kq123 hS) ?_
      refine bgr (by rw [lq123 hS]) (fun g7 => ?_)
      try with_reducible refine sg (kq114 hS) ?_
      refine sb (rq114_14 hS) ?_
      refine sg (kq124 hS) ?_
      refine bgr (by rw [lq124 hS]) (fun g8 => ?_)
      refine bg (fun g9 => ?_)
      rfl
    · try with_reducible refine sg (kq114 hS) ?_
      refine sb (rq114_13 hS) ?_
      refine sg (kq123 hS) ?_
      refine bgr (by rw [lq123 hS]) (fun g6 => ?_)
      rfl
def gX12_plainSize_b30  (σ : Shp) (R : Nat → Nat → Option Nat) (I : Nat → Nat → Int32) (x1 : Int32) : Option ((Nat → Nat → Int32) × (Int32)) :=
  (gX12_body I (1 : Int32)).bind fun I2 =>
  if ¬ (x1 < 0 ∨ 4100 ≤ Int32.toNatClampNeg x1) then
  if (I2 122 (Int32.toNatClampNeg x1)) = (3 : Int32) then
    if ¬ (x1 < 0 ∨ 4100 ≤ Int32.toNatClampNeg x1) then
    if (I2 124 (Int32.toNatClampNeg x1)) = 0 then
      let I13 := u2 I2 114 30 (6 : Int32)
      some (I13, (0 : Int32))
    else
      gX12_plainSize_b62 σ R I2 x1
    else none
  else
    gX12_plainSize_b62 σ R I2 x1
  else none
theorem eX12_plainSize_b30 {σ : Shp} {I : Nat → Nat → Int32} {R : Nat → Nat → Option Nat} {x1 : Int32} (hS : Skel σ R) : fX12_plainSize_b30 σ R 114 I x1 = gX12_plainSize_b30 σ R I x1 := by
  unfold fX12_plainSize_b30 gX12_plainSize_b30
  refine sg (kq114 hS) ?_
  refine bc (eX12_body hS) (fun I2 hc3 => ?_)
  try with_reducible refine sg (kq114 hS) ?_
  refine sb (rq114_12 hS) ?_
  refine sg (kq122 hS) ?_
  refine bgr (by rw [lq122 hS]) (fun g4 => ?_)
  refine bi (fun c => ?_) (fun c => ?_)
  · try with_reducible refine sg (kq114 hS) ?_
    refine sb (rq114_14 hS) ?_
    refine sg (kq124 hS) ?_
    refine bgr (by rw [lq124 hS]) (fun g12 => ?_)
    refine bi (fun c => ?_) (fun c => ?_)
    · try with_reducible refine sg (kq114 hS) ?_
      rfl
    · exact eX12_plainSize_b62 hS
  · exact eX12_plainSize_b62 hS
def gX12_plainSize (σ : Shp) (I : Nat → Nat → Int32) (R : Nat → Nat → Option Nat) (x1 : Int32) : Option ((Nat → Nat → Int32) × (Int32)) :=
  if ¬ (x1 < 0 ∨ 4100 ≤ Int32.toNatClampNeg x1) then
  if (I 122 (Int32.toNatClampNeg x1)) = (1 : Int32) then
    (gX12_body I (2 : Int32)).bind fun I16 =>
    if (I16 122 (Int32.toNatClampNeg x1)) = (3 : Int32) then
      (gX12_body I16 (4 : Int32)).bind fun I18 =>
      gX12_plainSize_b30 σ R I18 x1
    else
      gX12_plainSize_b30 σ R I16 x1
  else
    if (I 122 (Int32.toNatClampNeg x1)) = (3 : Int32) then
      (gX12_body I (4 : Int32)).bind fun I14 =>
      gX12_plainSize_b30 σ R I14 x1
    else
      gX12_plainSize_b30 σ R I x1
  else none
theorem eX12_plainSize {σ : Shp} {I : Nat → Nat → Int32} {R : Nat → Nat → Option Nat} {x1 : Int32} (hS : Skel σ R) : fX12_plainSize σ I R 114 x1 = gX12_plainSize σ I R x1 := by
  unfold fX12_plainSize gX12_plainSize
  refine sg (kq114 hS) ?_
  refine sb (rq114_12 hS) ?_
  refine sg (kq122 hS) ?_
  refine bgr (by rw [lq122 hS]) (fun g1 => ?_)
  refine bi (fun c => ?_) (fun c => ?_)
  · try with_reducible refine sg (kq114 hS) ?_
    refine bc (eX12_body hS) (fun I16 hc17 => ?_)
    try with_reducible refine sg (kq114 hS) ?_
    try with_reducible refine sg (kq122 hS) ?_
    try with_reducible refine sg (by rw [lq122 hS]; exact g1) ?_
    refine bi (fun c => ?_) (fun c => ?_)
    · try with_reducible refine sg (kq114 hS) ?_
      refine bc (eX12_body hS) (fun I18 hc19 => ?_)
      exact eX12_plainSize_b30 hS
    · exact eX12_plainSize_b30 hS
  · try with_reducible refine sg (kq114 hS) ?_
    try with_reducible refine sg (kq122 hS) ?_
    try with_reducible refine sg (by rw [lq122 hS]; exact g1) ?_
    refine bi (fun c => ?_) (fun c => ?_)
    · try with_reducible refine sg (kq114 hS) ?_
      refine bc (eX12_body hS) (fun I14 hc15 => ?_)
      exact eX12_plainSize_b30 hS
    · exact eX12_plainSize_b30 hS
def gX12_sizeOf_b193 (q18 : (Nat → Nat → Int32) → (Int32) → (Int32) → (Option ((Nat → Nat → Int32) × (Int32)))) (σ : Shp) (R : Nat → Nat → Option Nat) (I : Nat → Nat → Int32) (x2 : Int32) (x3 : Int32) (s0 : Int32) : Option ((Nat → Nat → Int32) × (Int32)) :=
  if s0 = 0 then
    let I23 := u2 I 114 30 (1 : Int32)
    q18 I23 x2 x3
  else
    if ¬ (x2 < 0 ∨ 8 ≤ Int32.toNatClampNeg x2) then
    let I19 := u2 I 130 (Int32.toNatClampNeg x2) s0
    if ¬ (x2 < 0 ∨ 8 ≤ Int32.toNatClampNeg x2) then
    let I21 := u2 I19 131 (Int32.toNatClampNeg x2) (0 : Int32)
    let v22 := x2 + (1 : Int32)
    q18 I21 v22 x3
    else none
    else none
theorem eX12_sizeOf_b193 {σ : Shp} {I : Nat → Nat → Int32} {R : Nat → Nat → Option Nat} {x2 : Int32} {x3 : Int32} {s0 : Int32} (hS : Skel σ R) {qf18 q18 : (Nat → Nat → Int32) → (Int32) → (Int32) → (Option ((Nat → Nat → Int32) × (Int32)))} (hq18 : ∀ (I : Nat → Nat → Int32) (x2 : Int32) (x3 : Int32), qf18 I x2 x3 = q18 I x2 x3) : fX12_sizeOf_b193 qf18 σ R 114 I x2 x3 s0 = gX12_sizeOf_b193 q18 σ R I x2 x3 s0 := by
  unfold fX12_sizeOf_b193 gX12_sizeOf_b193
  refine bi (fun c => ?_) (fun c => ?_)
  · refine sg (kq114 hS) ?_
    exact hq18 _ _ _
  · refine sg (kq114 hS) ?_
    refine sb (rq114_26 hS) ?_
    refine sg (kq130 hS) ?_
    refine bgr (by rw [lq130 hS]) (fun g18 => ?_)
    try with_reducible refine sg (kq114 hS) ?_
    refine sb (rq114_27 hS) ?_
    refine sg (kq131 hS) ?_
    refine bgr (by rw [lq131 hS]) (fun g20 => ?_)
    exact hq18 _ _ _
def gX12_sizeOf_b109 (q18 : (Nat → Nat → Int32) → (Int32) → (Int32) → (Option ((Nat → Nat → Int32) × (Int32)))) (σ : Shp) (R : Nat → Nat → Option Nat) (I : Nat → Nat → Int32) (x2 : Int32) (x3 : Int32) (x4 : Int32) (x5 : Int32) (s0 : Option Nat) (s1 : Int32) (s2 : Int32) : Option ((Nat → Nat → Int32) × (Int32)) :=
  (s0 : Option Nat).bind fun a11 =>
  if kdx σ a11 = 20 then
  if ¬ (s1 < 0 ∨ lnx σ a11 ≤ Int32.toNatClampNeg s1) then
  let I14 := u2 I a11 (Int32.toNatClampNeg s1) s2
  if ¬ ((x2 - (1 : Int32)) < 0 ∨ 8 ≤ Int32.toNatClampNeg (x2 - (1 : Int32))) then
  let I16 := u2 I14 131 (Int32.toNatClampNeg (x2 - (1 : Int32))) ((I14 131 (Int32.toNatClampNeg (x2 - (1 : Int32)))) + (1 : Int32))
  if x5 = (2 : Int32) then
    (gX12_body I16 (2 : Int32)).bind fun I25 =>
    (gX12_body I25 (1 : Int32)).bind fun I27 =>
    if ¬ ((x2 - (1 : Int32)) < 0 ∨ 8 ≤ Int32.toNatClampNeg (x2 - (1 : Int32))) then
    if ¬ (x4 < 0 ∨ 4100 ≤ Int32.toNatClampNeg x4) then
    if ¬ (x4 < 0 ∨ 4100 ≤ Int32.toNatClampNeg x4) then
    let v32 := (((I27 132 (Int32.toNatClampNeg (x2 - (1 : Int32)))) + ((2 : Int32) * (I27 123 (Int32.toNatClampNeg x4)))) + (I27 124 (Int32.toNatClampNeg x4)))
    let v33 := x2 + (-1 : Int32)
    q18 I27 v33 v32
    else none
    else none
    else none
  else
    if x5 = 0 then
      if ¬ (x4 < 0 ∨ 4100 ≤ Int32.toNatClampNeg x4) then
      gX12_sizeOf_b193 q18 σ R I16 x2 x3 (I16 125 (Int32.toNatClampNeg x4))
      else none
    else
      if ¬ (x4 < 0 ∨ 4100 ≤ Int32.toNatClampNeg x4) then
      gX12_sizeOf_b193 q18 σ R I16 x2 x3 (I16 126 (Int32.toNatClampNeg x4))
      else none
  else none
  else none
  else none
theorem eX12_sizeOf_b109 {σ : Shp} {I : Nat → Nat → Int32} {R : Nat → Nat → Option Nat} {x2 : Int32} {x3 : Int32} {x4 : Int32} {x5 : Int32} {s0 : Option Nat} {s1 : Int32} {s2 : Int32} (hS : Skel σ R) {qf18 q18 : (Nat → Nat → Int32) → (Int32) → (Int32) → (Option ((Nat → Nat → Int32) × (Int32)))} (hq18 : ∀ (I : Nat → Nat → Int32) (x2 : Int32) (x3 : Int32), qf18 I x2 x3 = q18 I x2 x3) : fX12_sizeOf_b109 qf18 σ R 114 I x2 x3 x4 x5 s0 s1 s2 = gX12_sizeOf_b109 q18 σ R I x2 x3 x4 x5 s0 s1 s2 := by
  unfold fX12_sizeOf_b109 gX12_sizeOf_b109
  refine bb (fun a11 ha11 => ?_)
  refine bg (fun g12 => ?_)
  refine bg (fun g13 => ?_)
  refine sg (kq114 hS) ?_
  refine sb (rq114_27 hS) ?_
  refine sg (kq131 hS) ?_
  refine bgr (by rw [lq131 hS]) (fun g15 => ?_)
  try with_reducible refine sg (kq131 hS) ?_
  try with_reducible refine sg (by rw [lq131 hS]; exact g15) ?_
  refine bi (fun c => ?_) (fun c => ?_)
  · try with_reducible refine sg (kq114 hS) ?_
    refine bc (eX12_body hS) (fun I25 hc26 => ?_)
    try with_reducible refine sg (kq114 hS) ?_
    refine bc (eX12_body hS) (fun I27 hc28 => ?_)
    try with_reducible refine sg (kq114 hS) ?_
    refine sb (rq114_28 hS) ?_
    refine sg (kq132 hS) ?_
    refine bgr (by rw [lq132 hS]) (fun g29 => ?_)
    try with_reducible refine sg (kq114 hS) ?_
    refine sb (rq114_13 hS) ?_
    refine sg (kq123 hS) ?_
    refine bgr (by rw [lq123 hS]) (fun g30 => ?_)
    try with_reducible refine sg (kq114 hS) ?_
    refine sb (rq114_14 hS) ?_
    refine sg (kq124 hS) ?_
    refine bgr (by rw [lq124 hS]) (fun g31 => ?_)
    exact hq18 _ _ _
  · refine bi (fun c => ?_) (fun c => ?_)
    · try with_reducible refine sg (kq114 hS) ?_
      refine sb (rq114_15 hS) ?_
      refine sg (kq125 hS) ?_
      refine bgr (by rw [lq125 hS]) (fun g24 => ?_)
      exact eX12_sizeOf_b193 hS hq18
    · try with_reducible refine sg (kq114 hS) ?_
      refine sb (rq114_16 hS) ?_
      refine sg (kq126 hS) ?_
      refine bgr (by rw [lq126 hS]) (fun g17 => ?_)
      exact eX12_sizeOf_b193 hS hq18
def gX12_sizeOf_b83 (q18 : (Nat → Nat → Int32) → (Int32) → (Int32) → (Option ((Nat → Nat → Int32) × (Int32)))) (σ : Shp) (R : Nat → Nat → Option Nat) (I : Nat → Nat → Int32) (x2 : Int32) (x3 : Int32) (x4 : Int32) (x5 : Int32) : Option ((Nat → Nat → Int32) × (Int32)) :=
  if x5 = 0 then
    gX12_sizeOf_b109 q18 σ R I x2 x3 x4 x5 (some 132) (x2 - (1 : Int32)) (0 : Int32)
  else
    if ¬ ((x2 - (1 : Int32)) < 0 ∨ 8 ≤ Int32.toNatClampNeg (x2 - (1 : Int32))) then
    gX12_sizeOf_b109 q18 σ R I x2 x3 x4 x5 (some 132) (x2 - (1 : Int32)) ((I 132 (Int32.toNatClampNeg (x2 - (1 : Int32)))) + x3)
    else none
theorem eX12_sizeOf_b83 {σ : Shp} {I : Nat → Nat → Int32} {R : Nat → Nat → Option Nat} {x2 : Int32} {x3 : Int32} {x4 : Int32} {x5 : Int32} (hS : Skel σ R) {qf18 q18 : (Nat → Nat → Int32) → (Int32) → (Int32) → (Option ((Nat → Nat → Int32) × (Int32)))} (hq18 : ∀ (I : Nat → Nat → Int32) (x2 : Int32) (x3 : Int32), qf18 I x2 x3 = q18 I x2 x3) : fX12_sizeOf_b83 qf18 σ R 114 I x2 x3 x4 x5 = gX12_sizeOf_b83 q18 σ R I x2 x3 x4 x5 := by
  unfold fX12_sizeOf_b83 gX12_sizeOf_b83
  refine sg (kq114 hS) ?_
  refine sb (rq114_28 hS) ?_
  refine bi (fun c => ?_) (fun c => ?_)
  · exact eX12_sizeOf_b109 hS hq18
  · try with_reducible refine sg (kq114 hS) ?_
    refine sg (kq132 hS) ?_
    refine bgr (by rw [lq132 hS]) (fun g10 => ?_)
    exact eX12_sizeOf_b109 hS hq18
def gX12_sizeOf_l18  (σ : Shp) (R : Nat → Nat → Option Nat) : Nat → (Nat → Nat → Int32) → (Int32) → (Int32) → Option ((Nat → Nat → Int32) × (Int32))
  | 0, _, _, _ => none
  | n + 1, I, x2, x3 =>
    if x2 ≤ 0 then
      some (I, x3)
    else
      if (I 114 30) = 0 then
        if ¬ ((x2 - (1 : Int32)) < 0 ∨ 8 ≤ Int32.toNatClampNeg (x2 - (1 : Int32))) then
        let v6 := (I 130 (Int32.toNatClampNeg (x2 - (1 : Int32))))
        if ¬ (v6 < 0 ∨ 4100 ≤ Int32.toNatClampNeg v6) then
        if (I 122 (Int32.toNatClampNeg v6)) = (2 : Int32) then
          if ¬ ((x2 - (1 : Int32)) < 0 ∨ 8 ≤ Int32.toNatClampNeg (x2 - (1 : Int32))) then
          let v9 := (I 131 (Int32.toNatClampNeg (x2 - (1 : Int32))))
          if v9 = 0 then
            (gX12_body I (3 : Int32)).bind fun I34 =>
            gX12_sizeOf_b83 (gX12_sizeOf_l18 σ R n) σ R I34 x2 x3 v6 v9
          else
            gX12_sizeOf_b83 (gX12_sizeOf_l18 σ R n) σ R I x2 x3 v6 v9
          else none
        else
          (gX12_plainSize σ I R v6).bind fun (I36, r37) =>
          let v39 := x2 + (-1 : Int32)
          gX12_sizeOf_l18 σ R n I36 v39 r37
        else none
        else none
      else
        some (I, x3)
theorem eX12_sizeOf_l18 {σ : Shp} {R : Nat → Nat → Option Nat} (hS : Skel σ R) : ∀ (n : Nat) (I : Nat → Nat → Int32) (x2 : Int32) (x3 : Int32), fX12_sizeOf_l18 σ R 114 n I x2 x3 = gX12_sizeOf_l18 σ R n I x2 x3 := by
  intro n
  induction n with
  | zero => intro I x2 x3; rfl
  | succ n ih =>
    intro I x2 x3
    rw [fX12_sizeOf_l18, gX12_sizeOf_l18]
    refine bi (fun c => ?_) (fun c => ?_)
    · rfl
    · refine sg (kq114 hS) ?_
      refine bi (fun c => ?_) (fun c => ?_)
      · try with_reducible refine sg (kq114 hS) ?_
        refine sb (rq114_26 hS) ?_
        refine sg (kq130 hS) ?_
        refine bgr (by rw [lq130 hS]) (fun g5 => ?_)
        try with_reducible refine sg (kq114 hS) ?_
        refine sb (rq114_12 hS) ?_
        refine sg (kq122 hS) ?_
        refine bgr (by rw [lq122 hS]) (fun g7 => ?_)
        refine bi (fun c => ?_) (fun c => ?_)
        · try with_reducible refine sg (kq114 hS) ?_
          refine sb (rq114_27 hS) ?_
          refine sg (kq131 hS) ?_
          refine bgr (by rw [lq131 hS]) (fun g8 => ?_)
          refine bi (fun c => ?_) (fun c => ?_)
          · try with_reducible refine sg (kq114 hS) ?_
            refine bc (eX12_body hS) (fun I34 hc35 => ?_)
            exact eX12_sizeOf_b83 hS ih
          · exact eX12_sizeOf_b83 hS ih
        · try with_reducible refine sg (kq114 hS) ?_
          refine bc (eX12_plainSize hS) (fun pp hc38 => ?_)
          obtain ⟨I36, r37⟩ := pp
          exact ih _ _ _
      · rfl
def gX12_sizeOf (σ : Shp) (I : Nat → Nat → Int32) (R : Nat → Nat → Option Nat) (x1 : Int32) : Option ((Nat → Nat → Int32) × (Int32)) :=
  if ¬ ((0 : Int32) < 0 ∨ 8 ≤ Int32.toNatClampNeg (0 : Int32)) then
  let I2 := u2 I 130 (Int32.toNatClampNeg (0 : Int32)) x1
  if ¬ ((0 : Int32) < 0 ∨ 8 ≤ Int32.toNatClampNeg (0 : Int32)) then
  let I4 := u2 I2 131 (Int32.toNatClampNeg (0 : Int32)) (0 : Int32)
  gX12_sizeOf_l18 σ R FUx I4 (1 : Int32) (0 : Int32)
  else none
  else none
theorem eX12_sizeOf {σ : Shp} {I : Nat → Nat → Int32} {R : Nat → Nat → Option Nat} {x1 : Int32} (hS : Skel σ R) : fX12_sizeOf σ I R 114 x1 = gX12_sizeOf σ I R x1 := by
  unfold fX12_sizeOf gX12_sizeOf
  refine sg (kq114 hS) ?_
  refine sb (rq114_26 hS) ?_
  refine sg (kq130 hS) ?_
  refine bgr (by rw [lq130 hS]) (fun g1 => ?_)
  try with_reducible refine sg (kq114 hS) ?_
  refine sb (rq114_27 hS) ?_
  refine sg (kq131 hS) ?_
  refine bgr (by rw [lq131 hS]) (fun g3 => ?_)
  exact eX12_sizeOf_l18 hS _ _ _ _
