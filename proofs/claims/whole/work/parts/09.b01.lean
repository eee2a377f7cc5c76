def gX4_countOff_b105  (σ : Shp) (J : Nat → Nat → Int64) (D : Nat → Nat → UInt64) (R : Nat → Nat → Option Nat) (I : Nat → Nat → Int32) (x1 : Int32) (x9 : Int32) (s0 : Option Nat) (s1 : Int32) (s2 : Int32) : Option ((Nat → Nat → Int32)) :=
  (s0 : Option Nat).bind fun a5 =>
  if kdx σ a5 = 20 then
  if ¬ (s1 < 0 ∨ lnx σ a5 ≤ Int32.toNatClampNeg s1) then
  let I8 := u2 I a5 (Int32.toNatClampNeg s1) s2
  if ¬ (x1 < 0 ∨ 9 ≤ Int32.toNatClampNeg x1) then
  if x9 = 0 then
    if ¬ ((3 : Int32) < 0 ∨ 5 ≤ Int32.toNatClampNeg (3 : Int32)) then
    let I11 := u2 I8 (43 + Int32.toNatClampNeg x1) (Int32.toNatClampNeg (3 : Int32)) ((I8 (43 + Int32.toNatClampNeg x1) (Int32.toNatClampNeg (3 : Int32))) + (1 : Int32))
    some I11
    else none
  else
    if ¬ ((3 : Int32) < 0 ∨ 5 ≤ Int32.toNatClampNeg (3 : Int32)) then
    let I13 := u2 I8 (43 + Int32.toNatClampNeg x1) (Int32.toNatClampNeg (3 : Int32)) (0 : Int32)
    some I13
    else none
  else none
  else none
  else none
theorem eX4_countOff_b105 {σ : Shp} {I : Nat → Nat → Int32} {J : Nat → Nat → Int64} {D : Nat → Nat → UInt64} {R : Nat → Nat → Option Nat} {x1 : Int32} {x9 : Int32} {s0 : Option Nat} {s1 : Int32} {s2 : Int32} (hS : Skel σ R) : fX4_countOff_b105 σ J D R 26 I x1 x9 s0 s1 s2 = gX4_countOff_b105 σ J D R I x1 x9 s0 s1 s2 := by
  unfold fX4_countOff_b105 gX4_countOff_b105
  refine bb (fun a5 ha5 => ?_)
  refine bg (fun g6 => ?_)
  refine bg (fun g7 => ?_)
  refine sg (kq26 hS) ?_
  refine sb (rq26_1 hS) ?_
  refine sg (kq42 hS) ?_
  refine bgr (by rw [lq42 hS]) (fun g9 => ?_)
  refine sb (rr42 hS g9) ?_
  refine bi (fun c => ?_) (fun c => ?_)
  · try with_reducible refine sg (kq26 hS) ?_
    try with_reducible refine sg (kq42 hS) ?_
    try with_reducible refine sg (by rw [lq42 hS]; exact g9) ?_
    refine sg (kr42 hS g9) ?_
    refine bgr (by rw [lr42 hS g9]) (fun g10 => ?_)
    try with_reducible refine sg (kr42 hS g9) ?_
    try with_reducible refine sg (by rw [lr42 hS g9]; exact g10) ?_
    rfl
  · refine sg (kr42 hS g9) ?_
    refine bgr (by rw [lr42 hS g9]) (fun g12 => ?_)
    rfl
def gX4_countOff_b77  (σ : Shp) (J : Nat → Nat → Int64) (D : Nat → Nat → UInt64) (R : Nat → Nat → Option Nat) (I : Nat → Nat → Int32) (x1 : Int32) (s0 : Int32) : Option ((Nat → Nat → Int32)) :=
  if ¬ (x1 < 0 ∨ 9 ≤ Int32.toNatClampNeg x1) then
  if s0 = 0 then
    gX4_countOff_b105 σ J D R I x1 s0 (some (43 + Int32.toNatClampNeg x1)) (2 : Int32) (0 : Int32)
  else
    if ¬ ((2 : Int32) < 0 ∨ 5 ≤ Int32.toNatClampNeg (2 : Int32)) then
    gX4_countOff_b105 σ J D R I x1 s0 (some (43 + Int32.toNatClampNeg x1)) (2 : Int32) ((I (43 + Int32.toNatClampNeg x1) (Int32.toNatClampNeg (2 : Int32))) + (1 : Int32))
    else none
  else none
theorem eX4_countOff_b77 {σ : Shp} {I : Nat → Nat → Int32} {J : Nat → Nat → Int64} {D : Nat → Nat → UInt64} {R : Nat → Nat → Option Nat} {x1 : Int32} {s0 : Int32} (hS : Skel σ R) : fX4_countOff_b77 σ J D R 26 I x1 s0 = gX4_countOff_b77 σ J D R I x1 s0 := by
  unfold fX4_countOff_b77 gX4_countOff_b77
  refine sg (kq26 hS) ?_
  refine sb (rq26_1 hS) ?_
  refine sg (kq42 hS) ?_
  refine bgr (by rw [lq42 hS]) (fun g4 => ?_)
  refine sb (rr42 hS g4) ?_
  refine bi (fun c => ?_) (fun c => ?_)
  · exact eX4_countOff_b105 hS
  · try with_reducible refine sg (kq26 hS) ?_
    try with_reducible refine sg (kq42 hS) ?_
    try with_reducible refine sg (by rw [lq42 hS]; exact g4) ?_
    refine sg (kr42 hS g4) ?_
    refine bgr (by rw [lr42 hS g4]) (fun g14 => ?_)
    exact eX4_countOff_b105 hS
def gX4_countOff_b47  (σ : Shp) (J : Nat → Nat → Int64) (D : Nat → Nat → UInt64) (R : Nat → Nat → Option Nat) (I : Nat → Nat → Int32) (x1 : Int32) (s0 : UInt64) : Option ((Nat → Nat → Int32)) :=
  if 0 ≤ (Op.cmpValue (FP.dcmp s0 (FP.dconst0)) .g) then
    if (Op.cmpValue (FP.dcmp s0 (D 26 7)) .l) ≤ 0 then
      gX4_countOff_b77 σ J D R I x1 (0 : Int32)
    else
      gX4_countOff_b77 σ J D R I x1 (1 : Int32)
  else
    if (Op.cmpValue (FP.dcmp (FP.dneg s0) (D 26 7)) .l) ≤ 0 then
      gX4_countOff_b77 σ J D R I x1 (0 : Int32)
    else
      gX4_countOff_b77 σ J D R I x1 (1 : Int32)
theorem eX4_countOff_b47 {σ : Shp} {I : Nat → Nat → Int32} {J : Nat → Nat → Int64} {D : Nat → Nat → UInt64} {R : Nat → Nat → Option Nat} {x1 : Int32} {s0 : UInt64} (hS : Skel σ R) : fX4_countOff_b47 σ J D R 26 I x1 s0 = gX4_countOff_b47 σ J D R I x1 s0 := by
  unfold fX4_countOff_b47 gX4_countOff_b47
  refine bi (fun c => ?_) (fun c => ?_)
  · refine sg (kq26 hS) ?_
    refine bi (fun c => ?_) (fun c => ?_)
    · exact eX4_countOff_b77 hS
    · exact eX4_countOff_b77 hS
  · refine sg (kq26 hS) ?_
    refine bi (fun c => ?_) (fun c => ?_)
    · exact eX4_countOff_b77 hS
    · exact eX4_countOff_b77 hS
def gX4_countOff (σ : Shp) (I : Nat → Nat → Int32) (J : Nat → Nat → Int64) (D : Nat → Nat → UInt64) (R : Nat → Nat → Option Nat) (x1 : Int32) (x2 : Int32) (x3 : Int64) (x5 : UInt64) : Option ((Nat → Nat → Int32)) :=
  if x2 = 0 then
    if ¬ (x1 < 0 ∨ 9 ≤ Int32.toNatClampNeg x1) then
    if ¬ ((2 : Int32) < 0 ∨ 5 ≤ Int32.toNatClampNeg (2 : Int32)) then
    let I17 := u2 I (43 + Int32.toNatClampNeg x1) (Int32.toNatClampNeg (2 : Int32)) (0 : Int32)
    if ¬ ((3 : Int32) < 0 ∨ 5 ≤ Int32.toNatClampNeg (3 : Int32)) then
    let I19 := u2 I17 (43 + Int32.toNatClampNeg x1) (Int32.toNatClampNeg (3 : Int32)) (0 : Int32)
    some I19
    else none
    else none
    else none
  else
    if ¬ (x1 < 0 ∨ 9 ≤ Int32.toNatClampNeg x1) then
    if (J 52 (Int32.toNatClampNeg x1)) = x3 then
      gX4_countOff_b47 σ J D R I x1 (FP.dconst0)
    else
      if ¬ (x1 < 0 ∨ 9 ≤ Int32.toNatClampNeg x1) then
      if (FP.dsub (D 53 (Int32.toNatClampNeg x1)) x5) &&& 0x7fffffffffffffff ≤ 0x7ff0000000000000 then
      gX4_countOff_b47 σ J D R I x1 (FP.dsub (D 53 (Int32.toNatClampNeg x1)) x5)
      else none
      else none
    else none
theorem eX4_countOff {σ : Shp} {I : Nat → Nat → Int32} {J : Nat → Nat → Int64} {D : Nat → Nat → UInt64} {R : Nat → Nat → Option Nat} {x1 : Int32} {x2 : Int32} {x3 : Int64} {x5 : UInt64} (hS : Skel σ R) : fX4_countOff σ I J D R 26 x1 x2 x3 x5 = gX4_countOff σ I J D R x1 x2 x3 x5 := by
  unfold fX4_countOff gX4_countOff
  refine bi (fun c => ?_) (fun c => ?_)
  · refine sg (kq26 hS) ?_
    refine sb (rq26_1 hS) ?_
    refine sg (kq42 hS) ?_
    refine bgr (by rw [lq42 hS]) (fun g15 => ?_)
    refine sb (rr42 hS g15) ?_
    refine sg (kr42 hS g15) ?_
    refine bgr (by rw [lr42 hS g15]) (fun g16 => ?_)
    try with_reducible refine sg (kq26 hS) ?_
    try with_reducible refine sg (kq42 hS) ?_
    try with_reducible refine sg (by rw [lq42 hS]; exact g15) ?_
    try with_reducible refine sg (kr42 hS g15) ?_
    refine bgr (by rw [lr42 hS g15]) (fun g18 => ?_)
    rfl
  · refine sg (kq26 hS) ?_
    refine sb (rq26_2 hS) ?_
    refine sg (kq52 hS) ?_
    refine bgr (by rw [lq52 hS]) (fun g1 => ?_)
    refine bi (fun c => ?_) (fun c => ?_)
    · exact eX4_countOff_b47 hS
    · try with_reducible refine sg (kq26 hS) ?_
      refine sb (rq26_3 hS) ?_
      refine sg (kq53 hS) ?_
      refine bgr (by rw [lq53 hS]) (fun g2 => ?_)
      refine bg (fun g3 => ?_)
      exact eX4_countOff_b47 hS
def gX4_countSame_b75 (q4 : (Nat → Nat → Int32) → (Nat → Nat → Int64) → (Int32) → (Int32) → (Option ((Nat → Nat → Int32) × (Nat → Nat → Int64) × (Int32)))) (σ : Shp) (R : Nat → Nat → Option Nat) (I : Nat → Nat → Int32) (J : Nat → Nat → Int64) (x3 : Int32) (x5 : Int32) (s0 : Int32) : Option ((Nat → Nat → Int32) × (Nat → Nat → Int64) × (Int32)) :=
  if ¬ (x3 < 0 ∨ 9 ≤ Int32.toNatClampNeg x3) then
  if x5 = 0 then
    if ¬ ((4 : Int32) < 0 ∨ 5 ≤ Int32.toNatClampNeg (4 : Int32)) then
    let I6 := u2 I (43 + Int32.toNatClampNeg x3) (Int32.toNatClampNeg (4 : Int32)) (1 : Int32)
    if ¬ (x3 < 0 ∨ 9 ≤ Int32.toNatClampNeg x3) then
    if ¬ (x3 < 0 ∨ 9 ≤ Int32.toNatClampNeg x3) then
    let J9 := u2 J 54 (Int32.toNatClampNeg x3) (J 52 (Int32.toNatClampNeg x3))
    let v10 := x3 + (3 : Int32)
    q4 I6 J9 s0 v10
    else none
    else none
    else none
  else
    if ¬ ((4 : Int32) < 0 ∨ 5 ≤ Int32.toNatClampNeg (4 : Int32)) then
    let I12 := u2 I (43 + Int32.toNatClampNeg x3) (Int32.toNatClampNeg (4 : Int32)) ((I (43 + Int32.toNatClampNeg x3) (Int32.toNatClampNeg (4 : Int32))) + (1 : Int32))
    if ¬ (x3 < 0 ∨ 9 ≤ Int32.toNatClampNeg x3) then
    if ¬ (x3 < 0 ∨ 9 ≤ Int32.toNatClampNeg x3) then
    let J15 := u2 J 54 (Int32.toNatClampNeg x3) (J 52 (Int32.toNatClampNeg x3))
    let v16 := x3 + (3 : Int32)
    q4 I12 J15 s0 v16
    else none
    else none
    else none
  else none
theorem eX4_countSame_b75 {σ : Shp} {I : Nat → Nat → Int32} {J : Nat → Nat → Int64} {R : Nat → Nat → Option Nat} {x3 : Int32} {x5 : Int32} {s0 : Int32} (hS : Skel σ R) {qf4 q4 : (Nat → Nat → Int32) → (Nat → Nat → Int64) → (Int32) → (Int32) → (Option ((Nat → Nat → Int32) × (Nat → Nat → Int64) × (Int32)))} (hq4 : ∀ (I : Nat → Nat → Int32) (J : Nat → Nat → Int64) (x2 : Int32) (x3 : Int32), qf4 I J x2 x3 = q4 I J x2 x3) : fX4_countSame_b75 qf4 σ R 26 I J x3 x5 s0 = gX4_countSame_b75 q4 σ R I J x3 x5 s0 := by
  unfold fX4_countSame_b75 gX4_countSame_b75
  refine sg (kq26 hS) ?_
  refine sb (rq26_1 hS) ?_
  refine sg (kq42 hS) ?_
  refine bgr (by rw [lq42 hS]) (fun g4 => ?_)
  refine sb (rr42 hS g4) ?_
  refine bi (fun c => ?_) (fun c => ?_)
  · refine sg (kr42 hS g4) ?_
    refine bgr (by rw [lr42 hS g4]) (fun g5 => ?_)
    try with_reducible refine sg (kq26 hS) ?_
    refine sb (rq26_4 hS) ?_
    try with_reducible refine sg (kq26 hS) ?_
    refine sb (rq26_2 hS) ?_
    refine sg (kq52 hS) ?_
    refine bgr (by rw [lq52 hS]) (fun g7 => ?_)
    refine sg (kq54 hS) ?_
    refine bgr (by rw [lq54 hS]) (fun g8 => ?_)
    exact hq4 _ _ _ _
  · try with_reducible refine sg (kq26 hS) ?_
    try with_reducible refine sg (kq42 hS) ?_
    try with_reducible refine sg (by rw [lq42 hS]; exact g4) ?_
    refine sg (kr42 hS g4) ?_
    refine bgr (by rw [lr42 hS g4]) (fun g11 => ?_)
    try with_reducible refine sg (kr42 hS g4) ?_
    try with_reducible refine sg (by rw [lr42 hS g4]; exact g11) ?_
    try with_reducible refine sg (kq26 hS) ?_
    refine sb (rq26_4 hS) ?_
    try with_reducible refine sg (kq26 hS) ?_
    refine sb (rq26_2 hS) ?_
    refine sg (kq52 hS) ?_
    refine bgr (by rw [lq52 hS]) (fun g13 => ?_)
    refine sg (kq54 hS) ?_
    refine bgr (by rw [lq54 hS]) (fun g14 => ?_)
    exact hq4 _ _ _ _
def gX4_countSame_b54 (q4 : (Nat → Nat → Int32) → (Nat → Nat → Int64) → (Int32) → (Int32) → (Option ((Nat → Nat → Int32) × (Nat → Nat → Int64) × (Int32)))) (σ : Shp) (R : Nat → Nat → Option Nat) (I : Nat → Nat → Int32) (J : Nat → Nat → Int64) (x2 : Int32) (x3 : Int32) (x4 : Int32) (s0 : Int32) : Option ((Nat → Nat → Int32) × (Nat → Nat → Int64) × (Int32)) :=
  if x2 = 0 then
    if x4 = 0 then
      if s0 = 0 then
        gX4_countSame_b75 q4 σ R I J x3 s0 (1 : Int32)
      else
        gX4_countSame_b75 q4 σ R I J x3 s0 (0 : Int32)
    else
      gX4_countSame_b75 q4 σ R I J x3 s0 (0 : Int32)
  else
    gX4_countSame_b75 q4 σ R I J x3 s0 (1 : Int32)
theorem eX4_countSame_b54 {σ : Shp} {I : Nat → Nat → Int32} {J : Nat → Nat → Int64} {R : Nat → Nat → Option Nat} {x2 : Int32} {x3 : Int32} {x4 : Int32} {s0 : Int32} (hS : Skel σ R) {qf4 q4 : (Nat → Nat → Int32) → (Nat → Nat → Int64) → (Int32) → (Int32) → (Option ((Nat → Nat → Int32) × (Nat → Nat → Int64) × (Int32)))} (hq4 : ∀ (I : Nat → Nat → Int32) (J : Nat → Nat → Int64) (x2 : Int32) (x3 : Int32), qf4 I J x2 x3 = q4 I J x2 x3) : fX4_countSame_b54 qf4 σ R 26 I J x2 x3 x4 s0 = gX4_countSame_b54 q4 σ R I J x2 x3 x4 s0 := by
  unfold fX4_countSame_b54 gX4_countSame_b54
  refine bi (fun c => ?_) (fun c => ?_)
  · refine bi (fun c => ?_) (fun c => ?_)
    · refine bi (fun c => ?_) (fun c => ?_)
      · exact eX4_countSame_b75 hS hq4
      · exact eX4_countSame_b75 hS hq4
    · exact eX4_countSame_b75 hS hq4
  · exact eX4_countSame_b75 hS hq4
def gX4_countSame_b26 (q4 : (Nat → Nat → Int32) → (Nat → Nat → Int64) → (Int32) → (Int32) → (Option ((Nat → Nat → Int32) × (Nat → Nat → Int64) × (Int32)))) (σ : Shp) (R : Nat → Nat → Option Nat) (I : Nat → Nat → Int32) (J : Nat → Nat → Int64) (x2 : Int32) (x3 : Int32) (s0 : Int32) : Option ((Nat → Nat → Int32) × (Nat → Nat → Int64) × (Int32)) :=
  if s0 = 0 then
    if ¬ (x3 < 0 ∨ 9 ≤ Int32.toNatClampNeg x3) then
    if ¬ (x3 < 0 ∨ 9 ≤ Int32.toNatClampNeg x3) then
    if (J 52 (Int32.toNatClampNeg x3)) = (J 54 (Int32.toNatClampNeg x3)) then
      gX4_countSame_b54 q4 σ R I J x2 x3 s0 (1 : Int32)
    else
      gX4_countSame_b54 q4 σ R I J x2 x3 s0 (0 : Int32)
    else none
    else none
  else
    gX4_countSame_b54 q4 σ R I J x2 x3 s0 (0 : Int32)
theorem eX4_countSame_b26 {σ : Shp} {I : Nat → Nat → Int32} {J : Nat → Nat → Int64} {R : Nat → Nat → Option Nat} {x2 : Int32} {x3 : Int32} {s0 : Int32} (hS : Skel σ R) {qf4 q4 : (Nat → Nat → Int32) → (Nat → Nat → Int64) → (Int32) → (Int32) → (Option ((Nat → Nat → Int32) × (Nat → Nat → Int64) × (Int32)))} (hq4 : ∀ (I : Nat → Nat → Int32) (J : Nat → Nat → Int64) (x2 : Int32) (x3 : Int32), qf4 I J x2 x3 = q4 I J x2 x3) : fX4_countSame_b26 qf4 σ R 26 I J x2 x3 s0 = gX4_countSame_b26 q4 σ R I J x2 x3 s0 := by
  unfold fX4_countSame_b26 gX4_countSame_b26
  refine bi (fun c => ?_) (fun c => ?_)
  · refine sg (kq26 hS) ?_
    refine sb (rq26_2 hS) ?_
    refine sg (kq52 hS) ?_
    refine bgr (by rw [lq52 hS]) (fun g17 => ?_)
    try with_reducible refine sg (kq26 hS) ?_
    refine sb (rq26_4 hS) ?_
    refine sg (kq54 hS) ?_
    refine bgr (by rw [lq54 hS]) (fun g18 => ?_)
    refine bi (fun c => ?_) (fun c => ?_)
    · exact eX4_countSame_b54 hS hq4
    · exact eX4_countSame_b54 hS hq4
  · exact eX4_countSame_b54 hS hq4
def gX4_countSame_l4  (σ : Shp) (R : Nat → Nat → Option Nat) : Nat → (Nat → Nat → Int32) → (Nat → Nat → Int64) → (Int32) → (Int32) → Option ((Nat → Nat → Int32) × (Nat → Nat → Int64) × (Int32))
  | 0, _, _, _, _ => none
  | n + 1, I, J, x2, x3 =>
    if (9 : Int32) ≤ x3 then
      if x2 = 0 ∨ x2 = 1 then
      some (I, J, x2)
      else none
    else
      if ¬ (x3 < 0 ∨ 9 ≤ Int32.toNatClampNeg x3) then
      if ¬ ((4 : Int32) < 0 ∨ 5 ≤ Int32.toNatClampNeg (4 : Int32)) then
      if (I (43 + Int32.toNatClampNeg x3) (Int32.toNatClampNeg (4 : Int32))) = 0 then
        gX4_countSame_b26 (gX4_countSame_l4 σ R n) σ R I J x2 x3 (1 : Int32)
      else
        gX4_countSame_b26 (gX4_countSame_l4 σ R n) σ R I J x2 x3 (0 : Int32)
      else none
      else none
theorem eX4_countSame_l4 {σ : Shp} {R : Nat → Nat → Option Nat} (hS : Skel σ R) : ∀ (n : Nat) (I : Nat → Nat → Int32) (J : Nat → Nat → Int64) (x2 : Int32) (x3 : Int32), fX4_countSame_l4 σ R 26 n I J x2 x3 = gX4_countSame_l4 σ R n I J x2 x3 := by
  intro n
  induction n with
  | zero => intro I J x2 x3; rfl
  | succ n ih =>
    intro I J x2 x3
    rw [fX4_countSame_l4, gX4_countSame_l4]
    refine bi (fun c => ?_) (fun c => ?_)
    · refine bg (fun g1 => ?_)
      rfl
    · refine sg (kq26 hS) ?_
      refine sb (rq26_1 hS) ?_
      refine sg (kq42 hS) ?_
      refine bgr (by rw [lq42 hS]) (fun g2 => ?_)
      refine sb (rr42 hS g2) ?_
      refine sg (kr42 hS g2) ?_
      refine bgr (by rw [lr42 hS g2]) (fun g3 => ?_)
      refine bi (fun c => ?_) (fun c => ?_)
      · exact eX4_countSame_b26 hS ih
      · exact eX4_countSame_b26 hS ih
def gX4_countSame (σ : Shp) (I : Nat → Nat → Int32) (J : Nat → Nat → Int64) (R : Nat → Nat → Option Nat) (x1 : Int32) : Option ((Nat → Nat → Int32) × (Nat → Nat → Int64) × (Int32)) :=
  gX4_countSame_l4 σ R FUx I J (0 : Int32) x1
theorem eX4_countSame {σ : Shp} {I : Nat → Nat → Int32} {J : Nat → Nat → Int64} {R : Nat → Nat → Option Nat} {x1 : Int32} (hS : Skel σ R) : fX4_countSame σ I J R 26 x1 = gX4_countSame σ I J R x1 := by
  unfold fX4_countSame gX4_countSame
  exact eX4_countSame_l4 hS _ _ _ _ _
def gX4_sendTo (I : Nat → Nat → Int32) (x1 : Int32) (x2 : Int32) (x3 : Int32) : Option ((Nat → Nat → Int32)) :=
  if ¬ (x1 < 0 ∨ 9 ≤ Int32.toNatClampNeg x1) then
  if ¬ ((0 : Int32) < 0 ∨ 5 ≤ Int32.toNatClampNeg (0 : Int32)) then
  let I3 := u2 I (43 + Int32.toNatClampNeg x1) (Int32.toNatClampNeg (0 : Int32)) x2
  if ¬ ((1 : Int32) < 0 ∨ 5 ≤ Int32.toNatClampNeg (1 : Int32)) then
  let I5 := u2 I3 (43 + Int32.toNatClampNeg x1) (Int32.toNatClampNeg (1 : Int32)) x3
  if ¬ ((2 : Int32) < 0 ∨ 5 ≤ Int32.toNatClampNeg (2 : Int32)) then
  let I7 := u2 I5 (43 + Int32.toNatClampNeg x1) (Int32.toNatClampNeg (2 : Int32)) (0 : Int32)
  if ¬ ((3 : Int32) < 0 ∨ 5 ≤ Int32.toNatClampNeg (3 : Int32)) then
  let I9 := u2 I7 (43 + Int32.toNatClampNeg x1) (Int32.toNatClampNeg (3 : Int32)) (0 : Int32)
  some I9
  else none
  else none
  else none
  else none
  else none
theorem eX4_sendTo {σ : Shp} {I : Nat → Nat → Int32} {R : Nat → Nat → Option Nat} {x1 : Int32} {x2 : Int32} {x3 : Int32} (hS : Skel σ R) : fX4_sendTo σ I R 26 x1 x2 x3 = gX4_sendTo I x1 x2 x3 := by
  unfold fX4_sendTo gX4_sendTo
  refine sg (kq26 hS) ?_
  refine sb (rq26_1 hS) ?_
  refine sg (kq42 hS) ?_
  refine bgr (by rw [lq42 hS]) (fun g1 => ?_)
  refine sb (rr42 hS g1) ?_
  refine sg (kr42 hS g1) ?_
  refine bgr (by rw [lr42 hS g1]) (fun g2 => ?_)
  try with_reducible refine sg (kq26 hS) ?_
  try with_reducible refine sg (kq42 hS) ?_
  try with_reducible refine sg (by rw [lq42 hS]; exact g1) ?_
  try with_reducible refine sg (kr42 hS g1) ?_
  refine bgr (by rw [lr42 hS g1]) (fun g4 => ?_)
  try with_reducible refine sg (kq26 hS) ?_
  try with_reducible refine sg (kq42 hS) ?_
  try with_reducible refine sg (by rw [lq42 hS]; exact g1) ?_
  try with_reducible refine sg (kr42 hS g1) ?_
  refine bgr (by rw [lr42 hS g1]) (fun g6 => ?_)
  try with_reducible refine sg (kq26 hS) ?_
  try with_reducible refine sg (kq42 hS) ?_
  try with_reducible refine sg (by rw [lq42 hS]; exact g1) ?_
  try with_reducible refine sg (kr42 hS g1) ?_
  refine bgr (by rw [lr42 hS g1]) (fun g8 => ?_)
  rfl
def gX4_judge_b83  (σ : Shp) (J : Nat → Nat → Int64) (R : Nat → Nat → Option Nat) (I : Nat → Nat → Int32) (x1 : Int32) (x3 : Int32) : Option ((Nat → Nat → Int32)) :=
  if x3 = 0 then
    if ¬ (x1 < 0 ∨ 9 ≤ Int32.toNatClampNeg x1) then
    if ¬ ((3 : Int32) < 0 ∨ 5 ≤ Int32.toNatClampNeg (3 : Int32)) then
    if (I (43 + Int32.toNatClampNeg x1) (Int32.toNatClampNeg (3 : Int32))) < (5 : Int32) then
      some I
    else
      (gX4_sendTo I x1 (1 : Int32) (0 : Int32)).bind fun I6 =>
      some I6
    else none
    else none
  else
    some I
theorem eX4_judge_b83 {σ : Shp} {I : Nat → Nat → Int32} {J : Nat → Nat → Int64} {R : Nat → Nat → Option Nat} {x1 : Int32} {x3 : Int32} (hS : Skel σ R) : fX4_judge_b83 σ J R 26 I x1 x3 = gX4_judge_b83 σ J R I x1 x3 := by
  unfold fX4_judge_b83 gX4_judge_b83
  refine bi (fun c => ?_) (fun c => ?_)
  · refine sg (kq26 hS) ?_
    refine sb (rq26_1 hS) ?_
    refine sg (kq42 hS) ?_
    refine bgr (by rw [lq42 hS]) (fun g4 => ?_)
    refine sb (rr42 hS g4) ?_
    refine sg (kr42 hS g4) ?_
    refine bgr (by rw [lr42 hS g4]) (fun g5 => ?_)
    refine bi (fun c => ?_) (fun c => ?_)
    · rfl
    · try with_reducible refine sg (kq26 hS) ?_
      refine bc (eX4_sendTo hS) (fun I6 hc7 => ?_)
      rfl
  · rfl
def gX4_judge_b57  (σ : Shp) (J : Nat → Nat → Int64) (R : Nat → Nat → Option Nat) (I : Nat → Nat → Int32) (x1 : Int32) (x3 : Int32) : Option ((Nat → Nat → Int32)) :=
  if x3 = 0 then
    gX4_judge_b83 σ J R I x1 x3
  else
    if ¬ (x1 < 0 ∨ 9 ≤ Int32.toNatClampNeg x1) then
    if ¬ ((2 : Int32) < 0 ∨ 5 ≤ Int32.toNatClampNeg (2 : Int32)) then
    if (I (43 + Int32.toNatClampNeg x1) (Int32.toNatClampNeg (2 : Int32))) < (3 : Int32) then
      gX4_judge_b83 σ J R I x1 x3
    else
      (gX4_sendTo I x1 (0 : Int32) (1 : Int32)).bind fun I10 =>
      some I10
    else none
    else none
theorem eX4_judge_b57 {σ : Shp} {I : Nat → Nat → Int32} {J : Nat → Nat → Int64} {R : Nat → Nat → Option Nat} {x1 : Int32} {x3 : Int32} (hS : Skel σ R) : fX4_judge_b57 σ J R 26 I x1 x3 = gX4_judge_b57 σ J R I x1 x3 := by
  unfold fX4_judge_b57 gX4_judge_b57
  refine bi (fun c => ?_) (fun c => ?_)
  · exact eX4_judge_b83 hS
  · refine sg (kq26 hS) ?_
    refine sb (rq26_1 hS) ?_
    refine sg (kq42 hS) ?_
    refine bgr (by rw [lq42 hS]) (fun g8 => ?_)
    refine sb (rr42 hS g8) ?_
    refine sg (kr42 hS g8) ?_
    refine bgr (by rw [lr42 hS g8]) (fun g9 => ?_)
    refine bi (fun c => ?_) (fun c => ?_)
    · exact eX4_judge_b83 hS
    · try with_reducible refine sg (kq26 hS) ?_
      refine bc (eX4_sendTo hS) (fun I10 hc11 => ?_)
      rfl
def gX4_judge_b17  (σ : Shp) (J : Nat → Nat → Int64) (R : Nat → Nat → Option Nat) (I : Nat → Nat → Int32) (x1 : Int32) (x2 : Int32) (s0 : Int32) : Option ((Nat → Nat → Int32)) :=
  if ¬ (x1 < 0 ∨ 9 ≤ Int32.toNatClampNeg x1) then
  if (fX11_isNumber (J 52 (Int32.toNatClampNeg x1))) = 0 then
    gX4_judge_b57 σ J R I x1 s0
  else
    if ¬ (x1 < 0 ∨ 9 ≤ Int32.toNatClampNeg x1) then
    if ¬ ((4 : Int32) < 0 ∨ 5 ≤ Int32.toNatClampNeg (4 : Int32)) then
    if (I (43 + Int32.toNatClampNeg x1) (Int32.toNatClampNeg (4 : Int32))) < (8 : Int32) then
      gX4_judge_b57 σ J R I x1 s0
    else
      if x2 = 0 then
        gX4_judge_b57 σ J R I x1 s0
      else
        (gX4_sendTo I x1 (0 : Int32) (2 : Int32)).bind fun I14 =>
        some I14
    else none
    else none
  else none
theorem eX4_judge_b17 {σ : Shp} {I : Nat → Nat → Int32} {J : Nat → Nat → Int64} {R : Nat → Nat → Option Nat} {x1 : Int32} {x2 : Int32} {s0 : Int32} (hS : Skel σ R) : fX4_judge_b17 σ J R 26 I x1 x2 s0 = gX4_judge_b17 σ J R I x1 x2 s0 := by
  unfold fX4_judge_b17 gX4_judge_b17
  refine sg (kq26 hS) ?_
  refine sb (rq26_2 hS) ?_
  refine sg (kq52 hS) ?_
  refine bgr (by rw [lq52 hS]) (fun g3 => ?_)
  refine bi (fun c => ?_) (fun c => ?_)
  · exact eX4_judge_b57 hS
  · try with_reducible refine sg (kq26 hS) ?_
    refine sb (rq26_1 hS) ?_
    refine sg (kq42 hS) ?_
    refine bgr (by rw [lq42 hS]) (fun g12 => ?_)
    refine sb (rr42 hS g12) ?_
    refine sg (kr42 hS g12) ?_
    refine bgr (by rw [lr42 hS g12]) (fun g13 => ?_)
    refine bi (fun c => ?_) (fun c => ?_)
    · exact eX4_judge_b57 hS
    · refine bi (fun c => ?_) (fun c => ?_)
      · exact eX4_judge_b57 hS
      · try with_reducible refine sg (kq26 hS) ?_
        refine bc (eX4_sendTo hS) (fun I14 hc15 => ?_)
        rfl
def gX4_judge (σ : Shp) (I : Nat → Nat → Int32) (J : Nat → Nat → Int64) (R : Nat → Nat → Option Nat) (x1 : Int32) (x2 : Int32) : Option ((Nat → Nat → Int32)) :=
  if ¬ (x1 < 0 ∨ 9 ≤ Int32.toNatClampNeg x1) then
  if ¬ ((0 : Int32) < 0 ∨ 5 ≤ Int32.toNatClampNeg (0 : Int32)) then
  if (I (43 + Int32.toNatClampNeg x1) (Int32.toNatClampNeg (0 : Int32))) = (1 : Int32) then
    gX4_judge_b17 σ J R I x1 x2 (1 : Int32)
  else
    gX4_judge_b17 σ J R I x1 x2 (0 : Int32)
  else none
  else none
theorem eX4_judge {σ : Shp} {I : Nat → Nat → Int32} {J : Nat → Nat → Int64} {R : Nat → Nat → Option Nat} {x1 : Int32} {x2 : Int32} (hS : Skel σ R) : fX4_judge σ I J R 26 x1 x2 = gX4_judge σ I J R x1 x2 := by
  unfold fX4_judge gX4_judge
  refine sg (kq26 hS) ?_
  refine sb (rq26_1 hS) ?_
  refine sg (kq42 hS) ?_
  refine bgr (by rw [lq42 hS]) (fun g1 => ?_)
  refine sb (rr42 hS g1) ?_
  refine sg (kr42 hS g1) ?_
  refine bgr (by rw [lr42 hS g1]) (fun g2 => ?_)
  refine bi (fun c => ?_) (fun c => ?_)
  · exact eX4_judge_b17 hS
  · exact eX4_judge_b17 hS
def gX4_manyReading_l4  (σ : Shp) (J : Nat → Nat → Int64) (R : Nat → Nat → Option Nat) : Nat → (Int32) → (Int32) → Option ((Int32))
  | 0, _, _ => none
  | n + 1, x2, x3 =>
    if (9 : Int32) ≤ x3 then
      some x2
    else
      if ¬ (x3 < 0 ∨ 9 ≤ Int32.toNatClampNeg x3) then
      if (fX11_isNumber (J 52 (Int32.toNatClampNeg x3))) = 0 then
        let v2 := x3 + (3 : Int32)
        gX4_manyReading_l4 σ J R n x2 v2
      else
        let v3 := x2 + (1 : Int32)
        let v4 := x3 + (3 : Int32)
        gX4_manyReading_l4 σ J R n v3 v4
      else none
theorem eX4_manyReading_l4 {σ : Shp} {J : Nat → Nat → Int64} {R : Nat → Nat → Option Nat} (hS : Skel σ R) : ∀ (n : Nat) (x2 : Int32) (x3 : Int32), fX4_manyReading_l4 σ J R 26 n x2 x3 = gX4_manyReading_l4 σ J R n x2 x3 := by
  intro n
  induction n with
  | zero => intro x2 x3; rfl
  | succ n ih =>
    intro x2 x3
    rw [fX4_manyReading_l4, gX4_manyReading_l4]
    refine bi (fun c => ?_) (fun c => ?_)
    · rfl
    · refine sg (kq26 hS) ?_
      refine sb (rq26_2 hS) ?_
      refine sg (kq52 hS) ?_
      refine bgr (by rw [lq52 hS]) (fun g1 => ?_)
      refine bi (fun c => ?_) (fun c => ?_)
      · exact ih _ _
      · exact ih _ _
def gX4_manyReading (σ : Shp) (J : Nat → Nat → Int64) (R : Nat → Nat → Option Nat) (x1 : Int32) : Option ((Int32)) :=
  gX4_manyReading_l4 σ J R FUx (0 : Int32) x1
theorem eX4_manyReading {σ : Shp} {J : Nat → Nat → Int64} {R : Nat → Nat → Option Nat} {x1 : Int32} (hS : Skel σ R) : fX4_manyReading σ J R 26 x1 = gX4_manyReading σ J R x1 := by
  unfold fX4_manyReading gX4_manyReading
  exact eX4_manyReading_l4 hS _ _ _
def gX11_sortByOrder_l22 (q9 : (Nat → Nat → Int64) → (Option Nat) → (Int32) → (Int32) → (Option ((Nat → Nat → Int64)))) (σ : Shp) : Nat → (Nat → Nat → Int64) → (Option Nat) → (Int32) → (Int32) → (Int64) → (Int32) → Option ((Nat → Nat → Int64))
  | 0, _, _, _, _, _, _ => none
  | n + 1, J, x0, x2, x3, x4, x6 =>
    if x6 ≤ 0 then
      (x0 : Option Nat).bind fun a8 =>
      if kdx σ a8 = 21 then
      if ¬ (x6 < 0 ∨ lnx σ a8 ≤ Int32.toNatClampNeg x6) then
      let J11 := u2 J a8 (Int32.toNatClampNeg x6) x4
      let v12 := x3 + (1 : Int32)
      q9 J11 x0 x2 v12
      else none
      else none
    else
      (x0 : Option Nat).bind fun a13 =>
      if kdx σ a13 = 21 then
      if ¬ ((x6 - (1 : Int32)) < 0 ∨ lnx σ a13 ≤ Int32.toNatClampNeg (x6 - (1 : Int32))) then
      if (fX11_orderKey (J a13 (Int32.toNatClampNeg (x6 - (1 : Int32))))) ≤ (fX11_orderKey x4) then
        if ¬ (x6 < 0 ∨ lnx σ a13 ≤ Int32.toNatClampNeg x6) then
        let J17 := u2 J a13 (Int32.toNatClampNeg x6) x4
        let v18 := x3 + (1 : Int32)
        q9 J17 x0 x2 v18
        else none
      else
        if ¬ (x6 < 0 ∨ lnx σ a13 ≤ Int32.toNatClampNeg x6) then
        let J20 := u2 J a13 (Int32.toNatClampNeg x6) (J a13 (Int32.toNatClampNeg (x6 - (1 : Int32))))
        let v21 := x6 + (-1 : Int32)
        gX11_sortByOrder_l22 q9 σ n J20 x0 x2 x3 x4 v21
        else none
      else none
      else none
theorem eX11_sortByOrder_l22 {σ : Shp} {R : Nat → Nat → Option Nat} (hS : Skel σ R) {qf9 q9 : (Nat → Nat → Int64) → (Option Nat) → (Int32) → (Int32) → (Option ((Nat → Nat → Int64)))} (hq9 : ∀ (J : Nat → Nat → Int64) (x0 : Option Nat) (x2 : Int32) (x3 : Int32), qf9 J x0 x2 x3 = q9 J x0 x2 x3) : ∀ (n : Nat) (J : Nat → Nat → Int64) (x0 : Option Nat) (x2 : Int32) (x3 : Int32) (x4 : Int64) (x6 : Int32), fX11_sortByOrder_l22 qf9 σ n J x0 x2 x3 x4 x6 = gX11_sortByOrder_l22 q9 σ n J x0 x2 x3 x4 x6 := by
  intro n
  induction n with
  | zero => intro J x0 x2 x3 x4 x6; rfl
  | succ n ih =>
    intro J x0 x2 x3 x4 x6
    rw [fX11_sortByOrder_l22, gX11_sortByOrder_l22]
    refine bi (fun c => ?_) (fun c => ?_)
    · refine bb (fun a8 ha8 => ?_)
      refine bg (fun g9 => ?_)
      refine bg (fun g10 => ?_)
      exact hq9 _ _ _ _
    · refine bb (fun a13 ha13 => ?_)
      refine bg (fun g14 => ?_)
      refine bg (fun g15 => ?_)
      refine bi (fun c => ?_) (fun c => ?_)
      · refine bg (fun g16 => ?_)
        exact hq9 _ _ _ _
      · refine bg (fun g19 => ?_)
        exact ih _ _ _ _ _ _
def gX11_sortByOrder_l9  (σ : Shp) : Nat → (Nat → Nat → Int64) → (Option Nat) → (Int32) → (Int32) → Option ((Nat → Nat → Int64))
  | 0, _, _, _, _ => none
  | n + 1, J, x0, x2, x3 =>
    if x2 ≤ x3 then
      some J
    else
      (x0 : Option Nat).bind fun a4 =>
      if kdx σ a4 = 21 then
      if ¬ (x3 < 0 ∨ lnx σ a4 ≤ Int32.toNatClampNeg x3) then
      let v7 := (J a4 (Int32.toNatClampNeg x3))
      gX11_sortByOrder_l22 (gX11_sortByOrder_l9 σ n) σ FUx J x0 x2 x3 v7 x3
      else none
      else none
theorem eX11_sortByOrder_l9 {σ : Shp} {R : Nat → Nat → Option Nat} (hS : Skel σ R) : ∀ (n : Nat) (J : Nat → Nat → Int64) (x0 : Option Nat) (x2 : Int32) (x3 : Int32), fX11_sortByOrder_l9 σ n J x0 x2 x3 = gX11_sortByOrder_l9 σ n J x0 x2 x3 := by
  intro n
  induction n with
  | zero => intro J x0 x2 x3; rfl
  | succ n ih =>
    intro J x0 x2 x3
    rw [fX11_sortByOrder_l9, gX11_sortByOrder_l9]
    refine bi (fun c => ?_) (fun c => ?_)
    · rfl
    · refine bb (fun a4 ha4 => ?_)
      refine bg (fun g5 => ?_)
      refine bg (fun g6 => ?_)
      exact eX11_sortByOrder_l22 hS ih _ _ _ _ _ _ _
def gX11_sortByOrder (σ : Shp) (J : Nat → Nat → Int64) (x0 : Option Nat) (x1 : Int32) : Option ((Nat → Nat → Int64)) :=
  (x0 : Option Nat).bind fun a1 =>
  if kdx σ a1 = 21 then
  let v3 := (fXM_minI x1 (Int32.ofNat (lnx σ a1)))
  gX11_sortByOrder_l9 σ FUx J x0 v3 (1 : Int32)
  else none
theorem eX11_sortByOrder {σ : Shp} {J : Nat → Nat → Int64} {R : Nat → Nat → Option Nat} {x0 : Option Nat} {x1 : Int32} (hS : Skel σ R) : fX11_sortByOrder σ J x0 x1 = gX11_sortByOrder σ J x0 x1 := by
  unfold fX11_sortByOrder gX11_sortByOrder
  refine bb (fun a1 ha1 => ?_)
  refine bg (fun g2 => ?_)
  exact eX11_sortByOrder_l9 hS _ _ _ _ _
def gX4_middleOf_l4  (σ : Shp) (I : Nat → Nat → Int32) (R : Nat → Nat → Option Nat) : Nat → (Nat → Nat → Int64) → (Int32) → (Int32) → Option ((Nat → Nat → Int64) × (Int64))
  | 0, _, _, _ => none
  | n + 1, J, x2, x3 =>
    if (9 : Int32) ≤ x3 then
      if x2 = 0 then
        some (J, (9221120237041090560 : Int64))
      else
        (gX11_sortByOrder σ J (some 56) x2).bind fun J1 =>
        if ¬ (((x2 - (1 : Int32)) / (2 : Int32)) < 0 ∨ 9 ≤ Int32.toNatClampNeg ((x2 - (1 : Int32)) / (2 : Int32))) then
        some (J1, (J1 56 (Int32.toNatClampNeg ((x2 - (1 : Int32)) / (2 : Int32)))))
        else none
    else
      if ¬ (x3 < 0 ∨ 9 ≤ Int32.toNatClampNeg x3) then
      if ¬ ((0 : Int32) < 0 ∨ 5 ≤ Int32.toNatClampNeg (0 : Int32)) then
      if (I (43 + Int32.toNatClampNeg x3) (Int32.toNatClampNeg (0 : Int32))) = (1 : Int32) then
        if ¬ (x3 < 0 ∨ 9 ≤ Int32.toNatClampNeg x3) then
        if (fX11_isNumber (J 52 (Int32.toNatClampNeg x3))) = 0 then
          let v8 := x3 + (3 : Int32)
          gX4_middleOf_l4 σ I R n J x2 v8
        else
          if (9 : Int32) ≤ x2 then
            let v9 := x3 + (3 : Int32)
            gX4_middleOf_l4 σ I R n J x2 v9
          else
            if ¬ (x2 < 0 ∨ 9 ≤ Int32.toNatClampNeg x2) then
            let J11 := u2 J 56 (Int32.toNatClampNeg x2) (J 52 (Int32.toNatClampNeg x3))
            let v12 := x2 + (1 : Int32)
            let v13 := x3 + (3 : Int32)
            gX4_middleOf_l4 σ I R n J11 v12 v13
            else none
        else none
      else
        let v6 := x3 + (3 : Int32)
        gX4_middleOf_l4 σ I R n J x2 v6
      else none
      else none
theorem eX4_middleOf_l4 {σ : Shp} {I : Nat → Nat → Int32} {R : Nat → Nat → Option Nat} (hS : Skel σ R) : ∀ (n : Nat) (J : Nat → Nat → Int64) (x2 : Int32) (x3 : Int32), fX4_middleOf_l4 σ I R 26 n J x2 x3 = gX4_middleOf_l4 σ I R n J x2 x3 := by
  intro n
  induction n with
  | zero => intro J x2 x3; rfl
  | succ n ih =>
    intro J x2 x3
    rw [fX4_middleOf_l4, gX4_middleOf_l4]
    refine bi (fun c => ?_) (fun c => ?_)
    · refine bi (fun c => ?_) (fun c => ?_)
      · rfl
      · refine sg (kq26 hS) ?_
        refine sb (rq26_6 hS) ?_
        refine bc (eX11_sortByOrder hS) (fun J1 hc2 => ?_)
        try with_reducible refine sg (kq26 hS) ?_
        refine sg (kq56 hS) ?_
        refine bgr (by rw [lq56 hS]) (fun g3 => ?_)
        rfl
    · refine sg (kq26 hS) ?_
      refine sb (rq26_1 hS) ?_
      refine sg (kq42 hS) ?_
      refine bgr (by rw [lq42 hS]) (fun g4 => ?_)
      refine sb (rr42 hS g4) ?_
      refine sg (kr42 hS g4) ?_
      refine bgr (by rw [lr42 hS g4]) (fun g5 => ?_)
      refine bi (fun c => ?_) (fun c => ?_)
      · try with_reducible refine sg (kq26 hS) ?_
        refine sb (rq26_2 hS) ?_
        refine sg (kq52 hS) ?_
        refine bgr (by rw [lq52 hS]) (fun g7 => ?_)
        refine bi (fun c => ?_) (fun c => ?_)
        · exact ih _ _ _
        · refine bi (fun c => ?_) (fun c => ?_)
          · exact ih _ _ _
          · try with_reducible refine sg (kq26 hS) ?_
            refine sb (rq26_6 hS) ?_
            try with_reducible refine sg (kq26 hS) ?_
            try with_reducible refine sg (kq52 hS) ?_
            try with_reducible refine sg (by rw [lq52 hS]; exact g7) ?_
            refine sg (kq56 hS) ?_
            refine bgr (by rw [lq56 hS]) (fun g10 => ?_)
            exact ih _ _ _
      · exact ih _ _ _
def gX4_middleOf (σ : Shp) (I : Nat → Nat → Int32) (J : Nat → Nat → Int64) (R : Nat → Nat → Option Nat) (x1 : Int32) : Option ((Nat → Nat → Int64) × (Int64)) :=
  gX4_middleOf_l4 σ I R FUx J (0 : Int32) x1
theorem eX4_middleOf {σ : Shp} {I : Nat → Nat → Int32} {J : Nat → Nat → Int64} {R : Nat → Nat → Option Nat} {x1 : Int32} (hS : Skel σ R) : fX4_middleOf σ I J R 26 x1 = gX4_middleOf σ I J R x1 := by
  unfold fX4_middleOf gX4_middleOf
  exact eX4_middleOf_l4 hS _ _ _ _
def gX4_vote_l54  (σ : Shp) (D : Nat → Nat → UInt64) (R : Nat → Nat → Option Nat) : Nat → (Nat → Nat → Int32) → (Nat → Nat → Int64) → (Int32) → (Int32) → (Int32) → (UInt64) → (Int32) → Option ((Nat → Nat → Int32) × (Nat → Nat → Int64))
  | 0, _, _, _, _, _, _, _ => none
  | n + 1, I, J, x1, x2, x3, x4, x6 =>
    if (9 : Int32) ≤ x6 then
      some (I, J)
    else
      if x3 = 0 then
        if ¬ (x1 < 0 ∨ 3 ≤ Int32.toNatClampNeg x1) then
        (gX4_countOff σ I J D R x6 (0 : Int32) (J 55 (Int32.toNatClampNeg x1)) x4).bind fun I13 =>
        (gX4_judge σ I13 J R x6 x2).bind fun I15 =>
        let v17 := x6 + (3 : Int32)
        gX4_vote_l54 σ D R n I15 J x1 x2 x3 x4 v17
        else none
      else
        if ¬ (x6 < 0 ∨ 9 ≤ Int32.toNatClampNeg x6) then
        if (fX11_isNumber (J 52 (Int32.toNatClampNeg x6))) = 0 then
          if ¬ (x1 < 0 ∨ 3 ≤ Int32.toNatClampNeg x1) then
          (gX4_countOff σ I J D R x6 (0 : Int32) (J 55 (Int32.toNatClampNeg x1)) x4).bind fun I20 =>
          (gX4_judge σ I20 J R x6 x2).bind fun I22 =>
          let v24 := x6 + (3 : Int32)
          gX4_vote_l54 σ D R n I22 J x1 x2 x3 x4 v24
          else none
        else
          if ¬ (x1 < 0 ∨ 3 ≤ Int32.toNatClampNeg x1) then
          (gX4_countOff σ I J D R x6 (1 : Int32) (J 55 (Int32.toNatClampNeg x1)) x4).bind fun I26 =>
          (gX4_judge σ I26 J R x6 x2).bind fun I28 =>
          let v30 := x6 + (3 : Int32)
          gX4_vote_l54 σ D R n I28 J x1 x2 x3 x4 v30
          else none
        else none
theorem eX4_vote_l54 {σ : Shp} {D : Nat → Nat → UInt64} {R : Nat → Nat → Option Nat} (hS : Skel σ R) : ∀ (n : Nat) (I : Nat → Nat → Int32) (J : Nat → Nat → Int64) (x1 : Int32) (x2 : Int32) (x3 : Int32) (x4 : UInt64) (x6 : Int32), fX4_vote_l54 σ D R 26 n I J x1 x2 x3 x4 x6 = gX4_vote_l54 σ D R n I J x1 x2 x3 x4 x6 := by
  intro n
  induction n with
  | zero => intro I J x1 x2 x3 x4 x6; rfl
  | succ n ih =>
    intro I J x1 x2 x3 x4 x6
    rw [fX4_vote_l54, gX4_vote_l54]
    refine bi (fun c => ?_) (fun c => ?_)
    · rfl
    · refine bi (fun c => ?_) (fun c => ?_)
      · refine sg (kq26 hS) ?_
        refine sb (rq26_5 hS) ?_
        refine sg (kq55 hS) ?_
        refine bgr (by rw [lq55 hS]) (fun g12 => ?_)
        try with_reducible refine sg (kq26 hS) ?_
        refine bc (eX4_countOff hS) (fun I13 hc14 => ?_)
        try with_reducible refine sg (kq26 hS) ?_
        refine bc (eX4_judge hS) (fun I15 hc16 => ?_)
        exact ih _ _ _ _ _ _ _
      · refine sg (kq26 hS) ?_
        refine sb (rq26_2 hS) ?_
        refine sg (kq52 hS) ?_
        refine bgr (by rw [lq52 hS]) (fun g18 => ?_)
        refine bi (fun c => ?_) (fun c => ?_)
        · try with_reducible refine sg (kq26 hS) ?_
          refine sb (rq26_5 hS) ?_
          refine sg (kq55 hS) ?_
          refine bgr (by rw [lq55 hS]) (fun g19 => ?_)
          try with_reducible refine sg (kq26 hS) ?_
          refine bc (eX4_countOff hS) (fun I20 hc21 => ?_)
          try with_reducible refine sg (kq26 hS) ?_
          refine bc (eX4_judge hS) (fun I22 hc23 => ?_)
          exact ih _ _ _ _ _ _ _
        · try with_reducible refine sg (kq26 hS) ?_
          refine sb (rq26_5 hS) ?_
          refine sg (kq55 hS) ?_
          refine bgr (by rw [lq55 hS]) (fun g25 => ?_)
          try with_reducible refine sg (kq26 hS) ?_
          refine bc (eX4_countOff hS) (fun I26 hc27 => ?_)
          try with_reducible refine sg (kq26 hS) ?_
          refine bc (eX4_judge hS) (fun I28 hc29 => ?_)
          exact ih _ _ _ _ _ _ _
def gX4_vote (σ : Shp) (I : Nat → Nat → Int32) (J : Nat → Nat → Int64) (D : Nat → Nat → UInt64) (R : Nat → Nat → Option Nat) (x1 : Int32) : Option ((Nat → Nat → Int32) × (Nat → Nat → Int64)) :=
  (gX4_countSame σ I J R x1).bind fun (I1, J2, r3) =>
  (gX4_middleOf σ I1 J2 R x1).bind fun (J5, r6) =>
  if ¬ (x1 < 0 ∨ 3 ≤ Int32.toNatClampNeg x1) then
  let J9 := u2 J5 55 (Int32.toNatClampNeg x1) r6
  if (fX11_isNumber (J9 55 (Int32.toNatClampNeg x1))) = 0 then
    (gX4_valueReal σ J9 D R x1).bind fun r10 =>
    gX4_vote_l54 σ D R FUx I1 J9 x1 r3 (0 : Int32) r10 x1
  else
    (gX4_manyReading σ J9 R x1).bind fun r31 =>
    if r31 < (3 : Int32) then
      (gX4_valueReal σ J9 D R x1).bind fun r33 =>
      gX4_vote_l54 σ D R FUx I1 J9 x1 r3 (0 : Int32) r33 x1
    else
      (gX4_valueReal σ J9 D R x1).bind fun r35 =>
      gX4_vote_l54 σ D R FUx I1 J9 x1 r3 (1 : Int32) r35 x1
  else none
theorem eX4_vote {σ : Shp} {I : Nat → Nat → Int32} {J : Nat → Nat → Int64} {D : Nat → Nat → UInt64} {R : Nat → Nat → Option Nat} {x1 : Int32} (hS : Skel σ R) : fX4_vote σ I J D R 26 x1 = gX4_vote σ I J D R x1 := by
  unfold fX4_vote gX4_vote
  refine sg (kq26 hS) ?_
  refine bc (eX4_countSame hS) (fun pp hc4 => ?_)
  obtain ⟨I1, J2, r3⟩ := pp
  try with_reducible refine sg (kq26 hS) ?_
  refine sb (rq26_5 hS) ?_
  try with_reducible refine sg (kq26 hS) ?_
  refine bc (eX4_middleOf hS) (fun pp hc7 => ?_)
  obtain ⟨J5, r6⟩ := pp
  refine sg (kq55 hS) ?_
  refine bgr (by rw [lq55 hS]) (fun g8 => ?_)
  try with_reducible refine sg (kq26 hS) ?_
  try with_reducible refine sg (kq55 hS) ?_
  try with_reducible refine sg (by rw [lq55 hS]; exact g8) ?_
  refine bi (fun c => ?_) (fun c => ?_)
  · try with_reducible refine sg (kq26 hS) ?_
    refine bc (eX4_valueReal hS) (fun r10 hc11 => ?_)
    exact eX4_vote_l54 hS _ _ _ _ _ _ _ _
  · try with_reducible refine sg (kq26 hS) ?_
    refine bc (eX4_manyReading hS) (fun r31 hc32 => ?_)
    refine bi (fun c => ?_) (fun c => ?_)
    · try with_reducible refine sg (kq26 hS) ?_
      refine bc (eX4_valueReal hS) (fun r33 hc34 => ?_)
      exact eX4_vote_l54 hS _ _ _ _ _ _ _ _
    · try with_reducible refine sg (kq26 hS) ?_
      refine bc (eX4_valueReal hS) (fun r35 hc36 => ?_)
      exact eX4_vote_l54 hS _ _ _ _ _ _ _ _
def gX4_passMinute_l12  (σ : Shp) (D : Nat → Nat → UInt64) (R : Nat → Nat → Option Nat) : Nat → (Nat → Nat → Int32) → (Nat → Nat → Int64) → (Int32) → Option ((Nat → Nat → Int32) × (Nat → Nat → Int64))
  | 0, _, _, _ => none
  | n + 1, I, J, x1 =>
    if (3 : Int32) ≤ x1 then
      some (I, J)
    else
      (gX4_vote σ I J D R x1).bind fun (I2, J3) =>
      (gX4_steer σ I2 J3 D R x1).bind fun J5 =>
      (gX4_changeAir σ I2 J5 R x1).bind fun (I7, J8) =>
      let v10 := x1 + (1 : Int32)
      gX4_passMinute_l12 σ D R n I7 J8 v10
theorem eX4_passMinute_l12 {σ : Shp} {D : Nat → Nat → UInt64} {R : Nat → Nat → Option Nat} (hS : Skel σ R) : ∀ (n : Nat) (I : Nat → Nat → Int32) (J : Nat → Nat → Int64) (x1 : Int32), fX4_passMinute_l12 σ D R 26 n I J x1 = gX4_passMinute_l12 σ D R n I J x1 := by
  intro n
  induction n with
  | zero => intro I J x1; rfl
  | succ n ih =>
    intro I J x1
    rw [fX4_passMinute_l12, gX4_passMinute_l12]
    refine bi (fun c => ?_) (fun c => ?_)
    · rfl
    · refine sg (kq26 hS) ?_
      refine bc (eX4_vote hS) (fun pp hc4 => ?_)
      obtain ⟨I2, J3⟩ := pp
      try with_reducible refine sg (kq26 hS) ?_
      refine bc (eX4_steer hS) (fun J5 hc6 => ?_)
      try with_reducible refine sg (kq26 hS) ?_
      refine bc (eX4_changeAir hS) (fun pp hc9 => ?_)
      obtain ⟨I7, J8⟩ := pp
      exact ih _ _ _
def gX4_passMinute (σ : Shp) (I : Nat → Nat → Int32) (J : Nat → Nat → Int64) (D : Nat → Nat → UInt64) (R : Nat → Nat → Option Nat) : Option ((Nat → Nat → Int32) × (Nat → Nat → Int64)) :=
  let I1 := u2 I 26 13 ((I 26 13) + (1 : Int32))
  gX4_passMinute_l12 σ D R FUx I1 J (0 : Int32)
theorem eX4_passMinute {σ : Shp} {I : Nat → Nat → Int32} {J : Nat → Nat → Int64} {D : Nat → Nat → UInt64} {R : Nat → Nat → Option Nat}  (hS : Skel σ R) : fX4_passMinute σ I J D R 26 = gX4_passMinute σ I J D R := by
  unfold fX4_passMinute gX4_passMinute
  refine sg (kq26 hS) ?_
  try with_reducible refine sg (kq26 hS) ?_
  exact eX4_passMinute_l12 hS _ _ _ _
def gX4_markAdded_b57  (σ : Shp) (R : Nat → Nat → Option Nat) (I : Nat → Nat → Int32) (x1 : Int32) (x2 : Int32) (x3 : Int32) (x4 : Int32) : Option ((Nat → Nat → Int32) × (Int32)) :=
  if x4 < (6 : Int32) then
    if ¬ (x1 < 0 ∨ 3 ≤ Int32.toNatClampNeg x1) then
    if ¬ (x4 < 0 ∨ 6 ≤ Int32.toNatClampNeg x4) then
    let I5 := u2 I (63 + Int32.toNatClampNeg x1) (Int32.toNatClampNeg x4) x2
    if ¬ (x1 < 0 ∨ 3 ≤ Int32.toNatClampNeg x1) then
    if ¬ (x4 < 0 ∨ 6 ≤ Int32.toNatClampNeg x4) then
    let I8 := u2 I5 (67 + Int32.toNatClampNeg x1) (Int32.toNatClampNeg x4) x3
    if ¬ (x1 < 0 ∨ 3 ≤ Int32.toNatClampNeg x1) then
    let I10 := u2 I8 70 (Int32.toNatClampNeg x1) (x4 + (1 : Int32))
    some (I10, (x4 + (1 : Int32)))
    else none
    else none
    else none
    else none
    else none
  else
    some (I, (-4 : Int32))
theorem eX4_markAdded_b57 {σ : Shp} {I : Nat → Nat → Int32} {R : Nat → Nat → Option Nat} {x1 : Int32} {x2 : Int32} {x3 : Int32} {x4 : Int32} (hS : Skel σ R) : fX4_markAdded_b57 σ R 26 I x1 x2 x3 x4 = gX4_markAdded_b57 σ R I x1 x2 x3 x4 := by
  unfold fX4_markAdded_b57 gX4_markAdded_b57
  refine bi (fun c => ?_) (fun c => ?_)
  · refine sg (kq26 hS) ?_
    refine sb (rq26_10 hS) ?_
    refine sg (kq62 hS) ?_
    refine bgr (by rw [lq62 hS]) (fun g3 => ?_)
    refine sb (rr62 hS g3) ?_
    refine sg (kr62 hS g3) ?_
    refine bgr (by rw [lr62 hS g3]) (fun g4 => ?_)
    try with_reducible refine sg (kq26 hS) ?_
    refine sb (rq26_11 hS) ?_
    refine sg (kq66 hS) ?_
    refine bgr (by rw [lq66 hS]) (fun g6 => ?_)
    refine sb (rr66 hS g6) ?_
    refine sg (kr66 hS g6) ?_
    refine bgr (by rw [lr66 hS g6]) (fun g7 => ?_)
    try with_reducible refine sg (kq26 hS) ?_
    refine sb (rq26_12 hS) ?_
    refine sg (kq70 hS) ?_
    refine bgr (by rw [lq70 hS]) (fun g9 => ?_)
    rfl
  · rfl
def gX4_markAdded (σ : Shp) (I : Nat → Nat → Int32) (R : Nat → Nat → Option Nat) (x1 : Int32) (x2 : Int32) (x3 : Int32) : Option ((Nat → Nat → Int32) × (Int32)) :=
  if ¬ (x1 < 0 ∨ 3 ≤ Int32.toNatClampNeg x1) then
  let v2 := (I 70 (Int32.toNatClampNeg x1))
  if x2 < 0 then
    some (I, (-2 : Int32))
  else
    if (1440 : Int32) ≤ x2 then
      some (I, (-2 : Int32))
    else
      if x3 < (-50000 : Int32) then
        some (I, (-2 : Int32))
      else
        if x3 ≤ (60000 : Int32) then
          if v2 ≤ 0 then
            gX4_markAdded_b57 σ R I x1 x2 x3 v2
          else
            if ¬ (x1 < 0 ∨ 3 ≤ Int32.toNatClampNeg x1) then
            if ¬ ((v2 - (1 : Int32)) < 0 ∨ 6 ≤ Int32.toNatClampNeg (v2 - (1 : Int32))) then
            if (I (63 + Int32.toNatClampNeg x1) (Int32.toNatClampNeg (v2 - (1 : Int32)))) < x2 then
              gX4_markAdded_b57 σ R I x1 x2 x3 v2
            else
              some (I, (-2 : Int32))
            else none
            else none
        else
          some (I, (-2 : Int32))
  else none
theorem eX4_markAdded {σ : Shp} {I : Nat → Nat → Int32} {R : Nat → Nat → Option Nat} {x1 : Int32} {x2 : Int32} {x3 : Int32} (hS : Skel σ R) : fX4_markAdded σ I R 26 x1 x2 x3 = gX4_markAdded σ I R x1 x2 x3 := by
  unfold fX4_markAdded gX4_markAdded
  refine sg (kq26 hS) ?_
  refine sb (rq26_12 hS) ?_
  refine sg (kq70 hS) ?_
  refine bgr (by rw [lq70 hS]) (fun g1 => ?_)
  refine bi (fun c => ?_) (fun c => ?_)
  · rfl
  · refine bi (fun c => ?_) (fun c => ?_)
    · rfl
    · refine bi (fun c => ?_) (fun c => ?_)
      · rfl
      · refine bi (fun c => ?_) (fun c => ?_)
        · refine bi (fun c => ?_) (fun c => ?_)
          · exact eX4_markAdded_b57 hS
          · try with_reducible refine sg (kq26 hS) ?_
            refine sb (rq26_10 hS) ?_
            refine sg (kq62 hS) ?_
            refine bgr (by rw [lq62 hS]) (fun g11 => ?_)
            refine sb (rr62 hS g11) ?_
            refine sg (kr62 hS g11) ?_
            refine bgr (by rw [lr62 hS g11]) (fun g12 => ?_)
            refine bi (fun c => ?_) (fun c => ?_)
            · exact eX4_markAdded_b57 hS
            · rfl
        · rfl
def gX4_marksGone (I : Nat → Nat → Int32) (x1 : Int32) : Option ((Nat → Nat → Int32) × (Int32)) :=
  if ¬ (x1 < 0 ∨ 3 ≤ Int32.toNatClampNeg x1) then
  let v2 := (I 70 (Int32.toNatClampNeg x1))
  let I3 := u2 I 70 (Int32.toNatClampNeg x1) (0 : Int32)
  some (I3, v2)
  else none
theorem eX4_marksGone {σ : Shp} {I : Nat → Nat → Int32} {R : Nat → Nat → Option Nat} {x1 : Int32} (hS : Skel σ R) : fX4_marksGone σ I R 26 x1 = gX4_marksGone I x1 := by
  unfold fX4_marksGone gX4_marksGone
  refine sg (kq26 hS) ?_
  refine sb (rq26_12 hS) ?_
  refine sg (kq70 hS) ?_
  refine bgr (by rw [lq70 hS]) (fun g1 => ?_)
  try with_reducible refine sg (kq26 hS) ?_
  try with_reducible refine sg (kq70 hS) ?_
  try with_reducible refine sg (by rw [lq70 hS]; exact g1) ?_
  rfl
def gX5_setParts (I : Nat → Nat → Int32) (x1 : Int32) (x2 : Int32) (x3 : Int32) (x4 : Int32) (x5 : Int32) : Option ((Nat → Nat → Int32)) :=
  if ¬ (x1 < 0 ∨ 2 ≤ Int32.toNatClampNeg x1) then
  if ¬ (x2 < 0 ∨ 4 ≤ Int32.toNatClampNeg x2) then
  let I3 := u2 I (96 + Int32.toNatClampNeg x1) (Int32.toNatClampNeg x2) x3
  if ¬ (x1 < 0 ∨ 2 ≤ Int32.toNatClampNeg x1) then
  if ¬ (x2 < 0 ∨ 4 ≤ Int32.toNatClampNeg x2) then
  let I6 := u2 I3 (99 + Int32.toNatClampNeg x1) (Int32.toNatClampNeg x2) x4
  if ¬ (x1 < 0 ∨ 2 ≤ Int32.toNatClampNeg x1) then
  if ¬ (x2 < 0 ∨ 4 ≤ Int32.toNatClampNeg x2) then
  let I9 := u2 I6 (102 + Int32.toNatClampNeg x1) (Int32.toNatClampNeg x2) x5
  some I9
  else none
  else none
  else none
  else none
  else none
  else none
theorem eX5_setParts {σ : Shp} {I : Nat → Nat → Int32} {R : Nat → Nat → Option Nat} {x1 : Int32} {x2 : Int32} {x3 : Int32} {x4 : Int32} {x5 : Int32} (hS : Skel σ R) : fX5_setParts σ I R 91 x1 x2 x3 x4 x5 = gX5_setParts I x1 x2 x3 x4 x5 := by
  unfold fX5_setParts gX5_setParts
  refine sg (kq91 hS) ?_
  refine sb (rq91_1 hS) ?_
  refine sg (kq95 hS) ?_
  refine bgr (by rw [lq95 hS]) (fun g1 => ?_)
  refine sb (rr95 hS g1) ?_
  refine sg (kr95 hS g1) ?_
  refine bgr (by rw [lr95 hS g1]) (fun g2 => ?_)
  try with_reducible refine sg (kq91 hS) ?_
  refine sb (rq91_2 hS) ?_
  refine sg (kq98 hS) ?_
  refine bgr (by rw [lq98 hS]) (fun g4 => ?_)
  refine sb (rr98 hS g4) ?_
  refine sg (kr98 hS g4) ?_
  refine bgr (by rw [lr98 hS g4]) (fun g5 => ?_)
  try with_reducible refine sg (kq91 hS) ?_
  refine sb (rq91_3 hS) ?_
  refine sg (kq101 hS) ?_
  refine bgr (by rw [lq101 hS]) (fun g7 => ?_)
  refine sb (rr101 hS g7) ?_
  refine sg (kr101 hS g7) ?_
  refine bgr (by rw [lr101 hS g7]) (fun g8 => ?_)
  rfl
def gX5_lessen_l2  (σ : Shp) (R : Nat → Nat → Option Nat) : Nat → (Nat → Nat → Int32) → (Nat → Nat → Int64) → (Int32) → (Int32) → Option ((Nat → Nat → Int32) × (Nat → Nat → Int64))
  | 0, _, _, _, _ => none
  | n + 1, I, J, x1, x2 =>
    if (4 : Int32) ≤ x2 then
      let I1 := u2 I 91 9 (7 : Int32)
      some (I1, J)
    else
      if ¬ (x1 < 0 ∨ 2 ≤ Int32.toNatClampNeg x1) then
      if ¬ (x2 < 0 ∨ 4 ≤ Int32.toNatClampNeg x2) then
      let J4 := u2 J (93 + Int32.toNatClampNeg x1) (Int32.toNatClampNeg x2) ((J (93 + Int32.toNatClampNeg x1) (Int32.toNatClampNeg x2)) / (4 : Int64))
      let v5 := x2 + (1 : Int32)
      gX5_lessen_l2 σ R n I J4 x1 v5
      else none
      else none
theorem eX5_lessen_l2 {σ : Shp} {R : Nat → Nat → Option Nat} (hS : Skel σ R) : ∀ (n : Nat) (I : Nat → Nat → Int32) (J : Nat → Nat → Int64) (x1 : Int32) (x2 : Int32), fX5_lessen_l2 σ R 91 n I J x1 x2 = gX5_lessen_l2 σ R n I J x1 x2 := by
  intro n
  induction n with
  | zero => intro I J x1 x2; rfl
  | succ n ih =>
    intro I J x1 x2
    rw [fX5_lessen_l2, gX5_lessen_l2]
    refine bi (fun c => ?_) (fun c => ?_)
    · refine sg (kq91 hS) ?_
      rfl
    · refine sg (kq91 hS) ?_
      refine sb (rq91_0 hS) ?_
      refine sg (kq92 hS) ?_
      refine bgr (by rw [lq92 hS]) (fun g2 => ?_)
      refine sb (rr92 hS g2) ?_
      refine sg (kr92 hS g2) ?_
      refine bgr (by rw [lr92 hS g2]) (fun g3 => ?_)
      try with_reducible refine sg (kr92 hS g2) ?_
      try with_reducible refine sg (by rw [lr92 hS g2]; exact g3) ?_
      exact ih _ _ _ _
def gX5_lessen (σ : Shp) (I : Nat → Nat → Int32) (J : Nat → Nat → Int64) (R : Nat → Nat → Option Nat) (x1 : Int32) : Option ((Nat → Nat → Int32) × (Nat → Nat → Int64)) :=
  gX5_lessen_l2 σ R FUx I J x1 (0 : Int32)
theorem eX5_lessen {σ : Shp} {I : Nat → Nat → Int32} {J : Nat → Nat → Int64} {R : Nat → Nat → Option Nat} {x1 : Int32} (hS : Skel σ R) : fX5_lessen σ I J R 91 x1 = gX5_lessen σ I J R x1 := by
  unfold fX5_lessen gX5_lessen
  exact eX5_lessen_l2 hS _ _ _ _ _
def gX11_shareOut_l113 (q94 : (Nat → Nat → Int64) → (Int32) → (Option Nat) → (Option Nat) → (Int64) → (Int32) → (Option ((Nat → Nat → Int64)))) (σ : Shp) : Nat → (Nat → Nat → Int64) → (Int32) → (Option Nat) → (Option Nat) → (Int64) → (Int32) → (Int32) → (Int32) → Option ((Nat → Nat → Int64))
  | 0, _, _, _, _, _, _, _, _ => none
  | n + 1, J, x3, x4, x5, x8, x10, x11, x12 =>
    if x3 ≤ x12 then
      (x4 : Option Nat).bind fun a1 =>
      if kdx σ a1 = 21 then
      if ¬ (x11 < 0 ∨ lnx σ a1 ≤ Int32.toNatClampNeg x11) then
      let J4 := u2 J a1 (Int32.toNatClampNeg x11) ((J a1 (Int32.toNatClampNeg x11)) + (1 : Int64))
      (x5 : Option Nat).bind fun a5 =>
      if kdx σ a5 = 21 then
      if ¬ (x11 < 0 ∨ lnx σ a5 ≤ Int32.toNatClampNeg x11) then
      let J8 := u2 J4 a5 (Int32.toNatClampNeg x11) (-1 : Int64)
      let v9 := (x8 - (1 : Int64))
      let v10 := x10 + (1 : Int32)
      q94 J8 x3 x4 x5 v9 v10
      else none
      else none
      else none
      else none
    else
      (x5 : Option Nat).bind fun a11 =>
      if kdx σ a11 = 21 then
      if ¬ (x12 < 0 ∨ lnx σ a11 ≤ Int32.toNatClampNeg x12) then
      if ¬ (x11 < 0 ∨ lnx σ a11 ≤ Int32.toNatClampNeg x11) then
      if (J a11 (Int32.toNatClampNeg x12)) ≤ (J a11 (Int32.toNatClampNeg x11)) then
        let v15 := x12 + (1 : Int32)
        gX11_shareOut_l113 q94 σ n J x3 x4 x5 x8 x10 x11 v15
      else
        let v16 := x12 + (1 : Int32)
        gX11_shareOut_l113 q94 σ n J x3 x4 x5 x8 x10 x12 v16
      else none
      else none
      else none
theorem eX11_shareOut_l113 {σ : Shp} {R : Nat → Nat → Option Nat} (hS : Skel σ R) {qf94 q94 : (Nat → Nat → Int64) → (Int32) → (Option Nat) → (Option Nat) → (Int64) → (Int32) → (Option ((Nat → Nat → Int64)))} (hq94 : ∀ (J : Nat → Nat → Int64) (x3 : Int32) (x4 : Option Nat) (x5 : Option Nat) (x8 : Int64) (x10 : Int32), qf94 J x3 x4 x5 x8 x10 = q94 J x3 x4 x5 x8 x10) : ∀ (n : Nat) (J : Nat → Nat → Int64) (x3 : Int32) (x4 : Option Nat) (x5 : Option Nat) (x8 : Int64) (x10 : Int32) (x11 : Int32) (x12 : Int32), fX11_shareOut_l113 qf94 σ n J x3 x4 x5 x8 x10 x11 x12 = gX11_shareOut_l113 q94 σ n J x3 x4 x5 x8 x10 x11 x12 := by
  intro n
  induction n with
  | zero => intro J x3 x4 x5 x8 x10 x11 x12; rfl
  | succ n ih =>
    intro J x3 x4 x5 x8 x10 x11 x12
    rw [fX11_shareOut_l113, gX11_shareOut_l113]
    refine bi (fun c => ?_) (fun c => ?_)
    · refine bb (fun a1 ha1 => ?_)
      refine bg (fun g2 => ?_)
      refine bg (fun g3 => ?_)
      refine bb (fun a5 ha5 => ?_)
      refine bg (fun g6 => ?_)
      refine bg (fun g7 => ?_)
      exact hq94 _ _ _ _ _ _
    · refine bb (fun a11 ha11 => ?_)
      refine bg (fun g12 => ?_)
      refine bg (fun g13 => ?_)
      refine bg (fun g14 => ?_)
      refine bi (fun c => ?_) (fun c => ?_)
      · exact ih _ _ _ _ _ _ _ _
      · exact ih _ _ _ _ _ _ _ _
def gX11_shareOut_l94  (σ : Shp) : Nat → (Nat → Nat → Int64) → (Int32) → (Option Nat) → (Option Nat) → (Int64) → (Int32) → Option ((Nat → Nat → Int64))
  | 0, _, _, _, _, _, _ => none
  | n + 1, J, x3, x4, x5, x8, x10 =>
    if x3 ≤ x10 then
      some J
    else
      if x8 ≤ (0 : Int64) then
        some J
      else
        gX11_shareOut_l113 (gX11_shareOut_l94 σ n) σ FUx J x3 x4 x5 x8 x10 (0 : Int32) (1 : Int32)
theorem eX11_shareOut_l94 {σ : Shp} {R : Nat → Nat → Option Nat} (hS : Skel σ R) : ∀ (n : Nat) (J : Nat → Nat → Int64) (x3 : Int32) (x4 : Option Nat) (x5 : Option Nat) (x8 : Int64) (x10 : Int32), fX11_shareOut_l94 σ n J x3 x4 x5 x8 x10 = gX11_shareOut_l94 σ n J x3 x4 x5 x8 x10 := by
  intro n
  induction n with
  | zero => intro J x3 x4 x5 x8 x10; rfl
  | succ n ih =>
    intro J x3 x4 x5 x8 x10
    rw [fX11_shareOut_l94, gX11_shareOut_l94]
    refine bi (fun c => ?_) (fun c => ?_)
    · rfl
    · refine bi (fun c => ?_) (fun c => ?_)
      · rfl
      · exact eX11_shareOut_l113 hS ih _ _ _ _ _ _ _ _ _
def gX11_shareOut_l41  (σ : Shp) : Nat → (Nat → Nat → Int64) → (Int64) → (Option Nat) → (Int32) → (Option Nat) → (Option Nat) → (Int64) → (Int64) → (Int32) → Option ((Nat → Nat → Int64))
  | 0, _, _, _, _, _, _, _, _, _ => none
  | n + 1, J, x0, x2, x3, x4, x5, x6, x8, x10 =>
    if x3 ≤ x10 then
      gX11_shareOut_l94 σ FUx J x3 x4 x5 x8 (0 : Int32)
    else
      (x2 : Option Nat).bind fun a17 =>
      if kdx σ a17 = 21 then
      if ¬ (x10 < 0 ∨ lnx σ a17 ≤ Int32.toNatClampNeg x10) then
      if ¬ x6 = 0 then
      (x4 : Option Nat).bind fun a21 =>
      if kdx σ a21 = 21 then
      if ¬ (x10 < 0 ∨ lnx σ a21 ≤ Int32.toNatClampNeg x10) then
      let J24 := u2 J a21 (Int32.toNatClampNeg x10) ((x0 * (J a17 (Int32.toNatClampNeg x10))) / x6)
      (x5 : Option Nat).bind fun a25 =>
      if kdx σ a25 = 21 then
      if ¬ (x10 < 0 ∨ lnx σ a25 ≤ Int32.toNatClampNeg x10) then
      let J28 := u2 J24 a25 (Int32.toNatClampNeg x10) ((x0 * (J24 a17 (Int32.toNatClampNeg x10))) - (x0 * (J24 a17 (Int32.toNatClampNeg x10))) / x6 * x6)
      let v29 := (x8 - (J28 a21 (Int32.toNatClampNeg x10)))
      let v30 := x10 + (1 : Int32)
      gX11_shareOut_l41 σ n J28 x0 x2 x3 x4 x5 x6 v29 v30
      else none
      else none
      else none
      else none
      else none
      else none
      else none
theorem eX11_shareOut_l41 {σ : Shp} {R : Nat → Nat → Option Nat} (hS : Skel σ R) : ∀ (n : Nat) (J : Nat → Nat → Int64) (x0 : Int64) (x2 : Option Nat) (x3 : Int32) (x4 : Option Nat) (x5 : Option Nat) (x6 : Int64) (x8 : Int64) (x10 : Int32), fX11_shareOut_l41 σ n J x0 x2 x3 x4 x5 x6 x8 x10 = gX11_shareOut_l41 σ n J x0 x2 x3 x4 x5 x6 x8 x10 := by
  intro n
  induction n with
  | zero => intro J x0 x2 x3 x4 x5 x6 x8 x10; rfl
  | succ n ih =>
    intro J x0 x2 x3 x4 x5 x6 x8 x10
    rw [fX11_shareOut_l41, gX11_shareOut_l41]
    refine bi (fun c => ?_) (fun c => ?_)
    · exact eX11_shareOut_l94 hS _ _ _ _ _ _ _
    · refine bb (fun a17 ha17 => ?_)
      refine bg (fun g18 => ?_)
      refine bg (fun g19 => ?_)
      refine bg (fun g20 => ?_)
      refine bb (fun a21 ha21 => ?_)
      refine bg (fun g22 => ?_)
      refine bg (fun g23 => ?_)
      refine bb (fun a25 ha25 => ?_)
      refine bg (fun g26 => ?_)
      refine bg (fun g27 => ?_)
      exact ih _ _ _ _ _ _ _ _ _
def gX11_shareOut_l6  (σ : Shp) : Nat → (Nat → Nat → Int64) → (Int64) → (Option Nat) → (Int32) → (Option Nat) → (Option Nat) → (Int64) → (Int32) → Option ((Nat → Nat → Int64))
  | 0, _, _, _, _, _, _, _, _ => none
  | n + 1, J, x0, x2, x3, x4, x5, x6, x8 =>
    if x3 ≤ x8 then
      if (0 : Int64) < x6 then
        gX11_shareOut_l41 σ FUx J x0 x2 x3 x4 x5 x6 x0 (0 : Int32)
      else
        some J
    else
      (x2 : Option Nat).bind fun a31 =>
      if kdx σ a31 = 21 then
      if ¬ (x8 < 0 ∨ lnx σ a31 ≤ Int32.toNatClampNeg x8) then
      let v34 := (x6 + (J a31 (Int32.toNatClampNeg x8)))
      let v35 := x8 + (1 : Int32)
      gX11_shareOut_l6 σ n J x0 x2 x3 x4 x5 v34 v35
      else none
      else none
theorem eX11_shareOut_l6 {σ : Shp} {R : Nat → Nat → Option Nat} (hS : Skel σ R) : ∀ (n : Nat) (J : Nat → Nat → Int64) (x0 : Int64) (x2 : Option Nat) (x3 : Int32) (x4 : Option Nat) (x5 : Option Nat) (x6 : Int64) (x8 : Int32), fX11_shareOut_l6 σ n J x0 x2 x3 x4 x5 x6 x8 = gX11_shareOut_l6 σ n J x0 x2 x3 x4 x5 x6 x8 := by
  intro n
  induction n with
  | zero => intro J x0 x2 x3 x4 x5 x6 x8; rfl
  | succ n ih =>
    intro J x0 x2 x3 x4 x5 x6 x8
    rw [fX11_shareOut_l6, gX11_shareOut_l6]
    refine bi (fun c => ?_) (fun c => ?_)
    · refine bi (fun c => ?_) (fun c => ?_)
      · exact eX11_shareOut_l41 hS _ _ _ _ _ _ _ _ _ _
      · rfl
    · refine bb (fun a31 ha31 => ?_)
      refine bg (fun g32 => ?_)
      refine bg (fun g33 => ?_)
      exact ih _ _ _ _ _ _ _ _
def gX11_shareOut (σ : Shp) (J : Nat → Nat → Int64) (x0 : Int64) (x2 : Option Nat) (x3 : Int32) (x4 : Option Nat) (x5 : Option Nat) : Option ((Nat → Nat → Int64)) :=
  gX11_shareOut_l6 σ FUx J x0 x2 x3 x4 x5 (0 : Int64) (0 : Int32)
theorem eX11_shareOut {σ : Shp} {J : Nat → Nat → Int64} {R : Nat → Nat → Option Nat} {x0 : Int64} {x2 : Option Nat} {x3 : Int32} {x4 : Option Nat} {x5 : Option Nat} (hS : Skel σ R) : fX11_shareOut σ J x0 x2 x3 x4 x5 = gX11_shareOut σ J x0 x2 x3 x4 x5 := by
  unfold fX11_shareOut gX11_shareOut
  exact eX11_shareOut_l6 hS _ _ _ _ _ _ _ _ _
def gX5_dayOf_l179  (σ : Shp) (I : Nat → Nat → Int32) (R : Nat → Nat → Option Nat) : Nat → (Nat → Nat → Int64) → (Int32) → (Int32) → Option ((Nat → Nat → Int64))
  | 0, _, _, _ => none
  | n + 1, J, x1, x2 =>
    if (4 : Int32) ≤ x2 then
      some J
    else
      if ¬ (x1 < 0 ∨ 2 ≤ Int32.toNatClampNeg x1) then
      if ¬ (x2 < 0 ∨ 4 ≤ Int32.toNatClampNeg x2) then
      if ¬ (x2 < 0 ∨ 4 ≤ Int32.toNatClampNeg x2) then
      let J10 := u2 J (93 + Int32.toNatClampNeg x1) (Int32.toNatClampNeg x2) (fXM_minJ (1000000000 : Int64) (J 107 (Int32.toNatClampNeg x2)))
      let v11 := x2 + (1 : Int32)
      gX5_dayOf_l179 σ I R n J10 x1 v11
      else none
      else none
      else none
theorem eX5_dayOf_l179 {σ : Shp} {I : Nat → Nat → Int32} {R : Nat → Nat → Option Nat} (hS : Skel σ R) : ∀ (n : Nat) (J : Nat → Nat → Int64) (x1 : Int32) (x2 : Int32), fX5_dayOf_l179 σ I R 91 n J x1 x2 = gX5_dayOf_l179 σ I R n J x1 x2 := by
  intro n
  induction n with
  | zero => intro J x1 x2; rfl
  | succ n ih =>
    intro J x1 x2
    rw [fX5_dayOf_l179, gX5_dayOf_l179]
    refine bi (fun c => ?_) (fun c => ?_)
    · rfl
    · refine sg (kq91 hS) ?_
      refine sb (rq91_0 hS) ?_
      refine sg (kq92 hS) ?_
      refine bgr (by rw [lq92 hS]) (fun g7 => ?_)
      refine sb (rr92 hS g7) ?_
      try with_reducible refine sg (kq91 hS) ?_
      refine sb (rq91_7 hS) ?_
      refine sg (kq107 hS) ?_
      refine bgr (by rw [lq107 hS]) (fun g8 => ?_)
      refine sg (kr92 hS g7) ?_
      refine bgr (by rw [lr92 hS g7]) (fun g9 => ?_)
      exact ih _ _ _
def gX5_dayOf_l50  (σ : Shp) (I : Nat → Nat → Int32) (R : Nat → Nat → Option Nat) : Nat → (Nat → Nat → Int64) → (Int32) → (Int32) → Option ((Nat → Nat → Int64))
  | 0, _, _, _ => none
  | n + 1, J, x1, x2 =>
    if (4 : Int32) ≤ x2 then
      gX5_dayOf_l179 σ I R FUx J x1 (0 : Int32)
    else
      if ¬ (x1 < 0 ∨ 2 ≤ Int32.toNatClampNeg x1) then
      if ¬ (x2 < 0 ∨ 4 ≤ Int32.toNatClampNeg x2) then
      if ¬ ((0 : Int32) < 0 ∨ 3 ≤ Int32.toNatClampNeg (0 : Int32)) then
      let J15 := u2 J 104 (Int32.toNatClampNeg (0 : Int32)) (Int32.toInt64 (I (96 + Int32.toNatClampNeg x1) (Int32.toNatClampNeg x2)))
      if ¬ (x1 < 0 ∨ 2 ≤ Int32.toNatClampNeg x1) then
      if ¬ (x2 < 0 ∨ 4 ≤ Int32.toNatClampNeg x2) then
      if ¬ ((1 : Int32) < 0 ∨ 3 ≤ Int32.toNatClampNeg (1 : Int32)) then
      let J19 := u2 J15 104 (Int32.toNatClampNeg (1 : Int32)) (Int32.toInt64 (I (99 + Int32.toNatClampNeg x1) (Int32.toNatClampNeg x2)))
      if ¬ ((2 : Int32) < 0 ∨ 3 ≤ Int32.toNatClampNeg (2 : Int32)) then
      let J21 := u2 J19 104 (Int32.toNatClampNeg (2 : Int32)) (((2000 : Int64) - (J19 104 (Int32.toNatClampNeg (0 : Int32)))) - (J19 104 (Int32.toNatClampNeg (1 : Int32))))
      if ¬ (x1 < 0 ∨ 2 ≤ Int32.toNatClampNeg x1) then
      if ¬ (x2 < 0 ∨ 4 ≤ Int32.toNatClampNeg x2) then
      (gX11_shareOut σ J21 (J21 (93 + Int32.toNatClampNeg x1) (Int32.toNatClampNeg x2)) (some 104) (3 : Int32) (some 105) (some 106)).bind fun J24 =>
      if (4 : Int32) ≤ (x2 + (1 : Int32)) then
        if ¬ (x2 < 0 ∨ 4 ≤ Int32.toNatClampNeg x2) then
        if ¬ ((1 : Int32) < 0 ∨ 3 ≤ Int32.toNatClampNeg (1 : Int32)) then
        let J28 := u2 J24 107 (Int32.toNatClampNeg x2) ((J24 107 (Int32.toNatClampNeg x2)) + (J24 105 (Int32.toNatClampNeg (1 : Int32))))
        let v29 := x2 + (1 : Int32)
        gX5_dayOf_l50 σ I R n J28 x1 v29
        else none
        else none
      else
        if ¬ ((x2 + (1 : Int32)) < 0 ∨ 4 ≤ Int32.toNatClampNeg (x2 + (1 : Int32))) then
        if ¬ ((0 : Int32) < 0 ∨ 3 ≤ Int32.toNatClampNeg (0 : Int32)) then
        let J32 := u2 J24 107 (Int32.toNatClampNeg (x2 + (1 : Int32))) ((J24 107 (Int32.toNatClampNeg (x2 + (1 : Int32)))) + (J24 105 (Int32.toNatClampNeg (0 : Int32))))
        if ¬ (x2 < 0 ∨ 4 ≤ Int32.toNatClampNeg x2) then
        if ¬ ((1 : Int32) < 0 ∨ 3 ≤ Int32.toNatClampNeg (1 : Int32)) then
        let J35 := u2 J32 107 (Int32.toNatClampNeg x2) ((J32 107 (Int32.toNatClampNeg x2)) + (J32 105 (Int32.toNatClampNeg (1 : Int32))))
        let v36 := x2 + (1 : Int32)
        gX5_dayOf_l50 σ I R n J35 x1 v36
        else none
        else none
        else none
        else none
      else none
      else none
      else none
      else none
      else none
      else none
      else none
      else none
      else none
theorem eX5_dayOf_l50 {σ : Shp} {I : Nat → Nat → Int32} {R : Nat → Nat → Option Nat} (hS : Skel σ R) : ∀ (n : Nat) (J : Nat → Nat → Int64) (x1 : Int32) (x2 : Int32), fX5_dayOf_l50 σ I R 91 n J x1 x2 = gX5_dayOf_l50 σ I R n J x1 x2 := by
  intro n
  induction n with
  | zero => intro J x1 x2; rfl
  | succ n ih =>
    intro J x1 x2
    rw [fX5_dayOf_l50, gX5_dayOf_l50]
    refine bi (fun c => ?_) (fun c => ?_)
    · exact eX5_dayOf_l179 hS _ _ _ _
    · refine sg (kq91 hS) ?_
      refine sb (rq91_4 hS) ?_
      try with_reducible refine sg (kq91 hS) ?_
      refine sb (rq91_1 hS) ?_
      refine sg (kq95 hS) ?_
      refine bgr (by rw [lq95 hS]) (fun g12 => ?_)
      refine sb (rr95 hS g12) ?_
      refine sg (kr95 hS g12) ?_
      refine bgr (by rw [lr95 hS g12]) (fun g13 => ?_)
      refine sg (kq104 hS) ?_
      refine bgr (by rw [lq104 hS]) (fun g14 => ?_)
      try with_reducible refine sg (kq91 hS) ?_
      try with_reducible refine sg (kq91 hS) ?_
      refine sb (rq91_2 hS) ?_
      refine sg (kq98 hS) ?_
      refine bgr (by rw [lq98 hS]) (fun g16 => ?_)
      refine sb (rr98 hS g16) ?_
      refine sg (kr98 hS g16) ?_
      refine bgr (by rw [lr98 hS g16]) (fun g17 => ?_)
      try with_reducible refine sg (kq104 hS) ?_
      refine bgr (by rw [lq104 hS]) (fun g18 => ?_)
      try with_reducible refine sg (kq91 hS) ?_
      try with_reducible refine sg (kq91 hS) ?_
      try with_reducible refine sg (kq104 hS) ?_
      try with_reducible refine sg (by rw [lq104 hS]; exact g14) ?_
      try with_reducible refine sg (kq91 hS) ?_
      try with_reducible refine sg (kq104 hS) ?_
      try with_reducible refine sg (by rw [lq104 hS]; exact g18) ?_
      try with_reducible refine sg (kq104 hS) ?_
      refine bgr (by rw [lq104 hS]) (fun g20 => ?_)
      try with_reducible refine sg (kq91 hS) ?_
      refine sb (rq91_0 hS) ?_
      refine sg (kq92 hS) ?_
      refine bgr (by rw [lq92 hS]) (fun g22 => ?_)
      refine sb (rr92 hS g22) ?_
      refine sg (kr92 hS g22) ?_
      refine bgr (by rw [lr92 hS g22]) (fun g23 => ?_)
      try with_reducible refine sg (kq91 hS) ?_
      try with_reducible refine sg (kq91 hS) ?_
      refine sb (rq91_5 hS) ?_
      try with_reducible refine sg (kq91 hS) ?_
      refine sb (rq91_6 hS) ?_
      refine bc (eX11_shareOut hS) (fun J24 hc25 => ?_)
      refine bi (fun c => ?_) (fun c => ?_)
      · try with_reducible refine sg (kq91 hS) ?_
        refine sb (rq91_7 hS) ?_
        refine sg (kq107 hS) ?_
        refine bgr (by rw [lq107 hS]) (fun g26 => ?_)
        try with_reducible refine sg (kq91 hS) ?_
        refine sg (kq105 hS) ?_
        refine bgr (by rw [lq105 hS]) (fun g27 => ?_)
        try with_reducible refine sg (kq107 hS) ?_
        try with_reducible refine sg (by rw [lq107 hS]; exact g26) ?_
        exact ih _ _ _
      · try with_reducible refine sg (kq91 hS) ?_
        refine sb (rq91_7 hS) ?_
        refine sg (kq107 hS) ?_
        refine bgr (by rw [lq107 hS]) (fun g30 => ?_)
        try with_reducible refine sg (kq91 hS) ?_
        refine sg (kq105 hS) ?_
        refine bgr (by rw [lq105 hS]) (fun g31 => ?_)
        try with_reducible refine sg (kq107 hS) ?_
        try with_reducible refine sg (by rw [lq107 hS]; exact g30) ?_
        try with_reducible refine sg (kq91 hS) ?_
        try with_reducible refine sg (kq107 hS) ?_
        refine bgr (by rw [lq107 hS]) (fun g33 => ?_)
        try with_reducible refine sg (kq91 hS) ?_
        try with_reducible refine sg (kq105 hS) ?_
        refine bgr (by rw [lq105 hS]) (fun g34 => ?_)
        try with_reducible refine sg (kq107 hS) ?_
        try with_reducible refine sg (by rw [lq107 hS]; exact g33) ?_
        exact ih _ _ _
def gX5_dayOf_l30  (σ : Shp) (I : Nat → Nat → Int32) (R : Nat → Nat → Option Nat) : Nat → (Nat → Nat → Int64) → (Int32) → (Int32) → Option ((Nat → Nat → Int64))
  | 0, _, _, _ => none
  | n + 1, J, x1, x2 =>
    if (4 : Int32) ≤ x2 then
      gX5_dayOf_l50 σ I R FUx J x1 (0 : Int32)
    else
      if ¬ (x2 < 0 ∨ 4 ≤ Int32.toNatClampNeg x2) then
      let J38 := u2 J 107 (Int32.toNatClampNeg x2) (0 : Int64)
      let v39 := x2 + (1 : Int32)
      gX5_dayOf_l30 σ I R n J38 x1 v39
      else none
theorem eX5_dayOf_l30 {σ : Shp} {I : Nat → Nat → Int32} {R : Nat → Nat → Option Nat} (hS : Skel σ R) : ∀ (n : Nat) (J : Nat → Nat → Int64) (x1 : Int32) (x2 : Int32), fX5_dayOf_l30 σ I R 91 n J x1 x2 = gX5_dayOf_l30 σ I R n J x1 x2 := by
  intro n
  induction n with
  | zero => intro J x1 x2; rfl
  | succ n ih =>
    intro J x1 x2
    rw [fX5_dayOf_l30, gX5_dayOf_l30]
    refine bi (fun c => ?_) (fun c => ?_)
    · exact eX5_dayOf_l50 hS _ _ _ _
    · refine sg (kq91 hS) ?_
      refine sb (rq91_7 hS) ?_
      refine sg (kq107 hS) ?_
      refine bgr (by rw [lq107 hS]) (fun g37 => ?_)
      exact ih _ _ _
def gX5_dayOf (σ : Shp) (I : Nat → Nat → Int32) (J : Nat → Nat → Int64) (R : Nat → Nat → Option Nat) (x1 : Int32) : Option ((Nat → Nat → Int64)) :=
  if ¬ (x1 < 0 ∨ 2 ≤ Int32.toNatClampNeg x1) then
  if ¬ ((3 : Int32) < 0 ∨ 4 ≤ Int32.toNatClampNeg (3 : Int32)) then
  if ¬ (x1 < 0 ∨ 2 ≤ Int32.toNatClampNeg x1) then
  if ¬ ((3 : Int32) < 0 ∨ 4 ≤ Int32.toNatClampNeg (3 : Int32)) then
  if ¬ ((0 : Int32) < 0 ∨ 4 ≤ Int32.toNatClampNeg (0 : Int32)) then
  let J6 := u2 J 107 (Int32.toNatClampNeg (0 : Int32)) (((J (93 + Int32.toNatClampNeg x1) (Int32.toNatClampNeg (3 : Int32))) * (Int32.toInt64 (I (102 + Int32.toNatClampNeg x1) (Int32.toNatClampNeg (3 : Int32))))) / (100 : Int64))
  gX5_dayOf_l30 σ I R FUx J6 x1 (1 : Int32)
  else none
  else none
  else none
  else none
  else none
theorem eX5_dayOf {σ : Shp} {I : Nat → Nat → Int32} {J : Nat → Nat → Int64} {R : Nat → Nat → Option Nat} {x1 : Int32} (hS : Skel σ R) : fX5_dayOf σ I J R 91 x1 = gX5_dayOf σ I J R x1 := by
  unfold fX5_dayOf gX5_dayOf
  refine sg (kq91 hS) ?_
  refine sb (rq91_7 hS) ?_
  try with_reducible refine sg (kq91 hS) ?_
  refine sb (rq91_0 hS) ?_
  refine sg (kq92 hS) ?_
  refine bgr (by rw [lq92 hS]) (fun g1 => ?_)
  refine sb (rr92 hS g1) ?_
  refine sg (kr92 hS g1) ?_
  refine bgr (by rw [lr92 hS g1]) (fun g2 => ?_)
  try with_reducible refine sg (kq91 hS) ?_
  refine sb (rq91_3 hS) ?_
  refine sg (kq101 hS) ?_
  refine bgr (by rw [lq101 hS]) (fun g3 => ?_)
  refine sb (rr101 hS g3) ?_
  refine sg (kr101 hS g3) ?_
  refine bgr (by rw [lr101 hS g3]) (fun g4 => ?_)
  refine sg (kq107 hS) ?_
  refine bgr (by rw [lq107 hS]) (fun g5 => ?_)
  exact eX5_dayOf_l30 hS _ _ _ _
def gX5_passDay_l2  (σ : Shp) (R : Nat → Nat → Option Nat) : Nat → (Nat → Nat → Int32) → (Nat → Nat → Int64) → (Int32) → Option ((Nat → Nat → Int32) × (Nat → Nat → Int64))
  | 0, _, _, _ => none
  | n + 1, I, J, x1 =>
    if (2 : Int32) ≤ x1 then
      let I1 := u2 I 91 8 ((I 91 8) + (1 : Int32))
      if (I1 91 9) ≤ 0 then
        some (I1, J)
      else
        let I2 := u2 I1 91 9 ((I1 91 9) - (1 : Int32))
        some (I2, J)
    else
      (gX5_dayOf σ I J R x1).bind fun J3 =>
      let v5 := x1 + (1 : Int32)
      gX5_passDay_l2 σ R n I J3 v5
theorem eX5_passDay_l2 {σ : Shp} {R : Nat → Nat → Option Nat} (hS : Skel σ R) : ∀ (n : Nat) (I : Nat → Nat → Int32) (J : Nat → Nat → Int64) (x1 : Int32), fX5_passDay_l2 σ R 91 n I J x1 = gX5_passDay_l2 σ R n I J x1 := by
  intro n
  induction n with
  | zero => intro I J x1; rfl
  | succ n ih =>
    intro I J x1
    rw [fX5_passDay_l2, gX5_passDay_l2]
    refine bi (fun c => ?_) (fun c => ?_)
    · refine sg (kq91 hS) ?_
      try with_reducible refine sg (kq91 hS) ?_
      try with_reducible refine sg (kq91 hS) ?_
      refine bi (fun c => ?_) (fun c => ?_)
      · rfl
      · try with_reducible refine sg (kq91 hS) ?_
        try with_reducible refine sg (kq91 hS) ?_
        rfl
    · refine sg (kq91 hS) ?_
      refine bc (eX5_dayOf hS) (fun J3 hc4 => ?_)
      exact ih _ _ _
def gX5_passDay (σ : Shp) (I : Nat → Nat → Int32) (J : Nat → Nat → Int64) (R : Nat → Nat → Option Nat) : Option ((Nat → Nat → Int32) × (Nat → Nat → Int64)) :=
  gX5_passDay_l2 σ R FUx I J (0 : Int32)
theorem eX5_passDay {σ : Shp} {I : Nat → Nat → Int32} {J : Nat → Nat → Int64} {R : Nat → Nat → Option Nat}  (hS : Skel σ R) : fX5_passDay σ I J R 91 = gX5_passDay σ I J R := by
  unfold fX5_passDay gX5_passDay
  exact eX5_passDay_l2 hS _ _ _ _
def gX6_added (I : Nat → Nat → Int32) (x1 : Int32) (x2 : Int32) (x3 : Int32) (x4 : Int32) (x5 : Int32) : Option ((Nat → Nat → Int32) × (Int32)) :=
  if ¬ (x1 < 0 ∨ 4 ≤ Int32.toNatClampNeg x1) then
  let v2 := (I 10 (Int32.toNatClampNeg x1))
  if v2 < (40 : Int32) then
    let v3 := ((x1 * (40 : Int32)) + v2)
    if ¬ (v3 < 0 ∨ 160 ≤ Int32.toNatClampNeg v3) then
    let I5 := u2 I 11 (Int32.toNatClampNeg v3) x2
    if ¬ (v3 < 0 ∨ 160 ≤ Int32.toNatClampNeg v3) then
    let I7 := u2 I5 12 (Int32.toNatClampNeg v3) x3
    if ¬ (v3 < 0 ∨ 160 ≤ Int32.toNatClampNeg v3) then
    let I9 := u2 I7 13 (Int32.toNatClampNeg v3) x4
    if ¬ (v3 < 0 ∨ 160 ≤ Int32.toNatClampNeg v3) then
    let I11 := u2 I9 14 (Int32.toNatClampNeg v3) x5
    let I12 := u2 I11 10 (Int32.toNatClampNeg x1) (v2 + (1 : Int32))
    some (I12, v2)
    else none
    else none
    else none
    else none
  else
    some (I, (-4 : Int32))
  else none
theorem eX6_added {σ : Shp} {I : Nat → Nat → Int32} {R : Nat → Nat → Option Nat} {x1 : Int32} {x2 : Int32} {x3 : Int32} {x4 : Int32} {x5 : Int32} (hS : Skel σ R) : fX6_added σ I R 9 x1 x2 x3 x4 x5 = gX6_added I x1 x2 x3 x4 x5 := by
  unfold fX6_added gX6_added
  refine sg (kq9 hS) ?_
  refine sb (rq9_0 hS) ?_
  refine sg (kq10 hS) ?_
  refine bgr (by rw [lq10 hS]) (fun g1 => ?_)
  refine bi (fun c => ?_) (fun c => ?_)
  · try with_reducible refine sg (kq9 hS) ?_
    refine sb (rq9_1 hS) ?_
    refine sg (kq11 hS) ?_
    refine bgr (by rw [lq11 hS]) (fun g4 => ?_)
    try with_reducible refine sg (kq9 hS) ?_
    refine sb (rq9_2 hS) ?_
    refine sg (kq12 hS) ?_
    refine bgr (by rw [lq12 hS]) (fun g6 => ?_)
    try with_reducible refine sg (kq9 hS) ?_
    refine sb (rq9_3 hS) ?_
    refine sg (kq13 hS) ?_
    refine bgr (by rw [lq13 hS]) (fun g8 => ?_)
    try with_reducible refine sg (kq9 hS) ?_
    refine sb (rq9_4 hS) ?_
    refine sg (kq14 hS) ?_
    refine bgr (by rw [lq14 hS]) (fun g10 => ?_)
    try with_reducible refine sg (kq9 hS) ?_
    try with_reducible refine sg (kq10 hS) ?_
    try with_reducible refine sg (by rw [lq10 hS]; exact g1) ?_
    rfl
  · rfl
def gX6_emptied (I : Nat → Nat → Int32) (x1 : Int32) : Option ((Nat → Nat → Int32) × (Int32)) :=
  if ¬ (x1 < 0 ∨ 4 ≤ Int32.toNatClampNeg x1) then
  let v2 := (I 10 (Int32.toNatClampNeg x1))
  let I3 := u2 I 10 (Int32.toNatClampNeg x1) (0 : Int32)
  some (I3, v2)
  else none
theorem eX6_emptied {σ : Shp} {I : Nat → Nat → Int32} {R : Nat → Nat → Option Nat} {x1 : Int32} (hS : Skel σ R) : fX6_emptied σ I R 9 x1 = gX6_emptied I x1 := by
  unfold fX6_emptied gX6_emptied
  refine sg (kq9 hS) ?_
  refine sb (rq9_0 hS) ?_
  refine sg (kq10 hS) ?_
  refine bgr (by rw [lq10 hS]) (fun g1 => ?_)
  try with_reducible refine sg (kq9 hS) ?_
  try with_reducible refine sg (kq10 hS) ?_
  try with_reducible refine sg (by rw [lq10 hS]; exact g1) ?_
  rfl
def gX6_stepsInAll_l4  (σ : Shp) (I : Nat → Nat → Int32) (R : Nat → Nat → Option Nat) : Nat → (Int32) → (Int32) → Option ((Int32))
  | 0, _, _ => none
  | n + 1, x1, x2 =>
    if (4 : Int32) ≤ x2 then
      some x1
    else
      if ¬ (x2 < 0 ∨ 4 ≤ Int32.toNatClampNeg x2) then
      let v2 := (x1 + (I 10 (Int32.toNatClampNeg x2)))
      let v3 := x2 + (1 : Int32)
      gX6_stepsInAll_l4 σ I R n v2 v3
      else none
theorem eX6_stepsInAll_l4 {σ : Shp} {I : Nat → Nat → Int32} {R : Nat → Nat → Option Nat} (hS : Skel σ R) : ∀ (n : Nat) (x1 : Int32) (x2 : Int32), fX6_stepsInAll_l4 σ I R 9 n x1 x2 = gX6_stepsInAll_l4 σ I R n x1 x2 := by
  intro n
  induction n with
  | zero => intro x1 x2; rfl
  | succ n ih =>
    intro x1 x2
    rw [fX6_stepsInAll_l4, gX6_stepsInAll_l4]
    refine bi (fun c => ?_) (fun c => ?_)
    · rfl
    · refine sg (kq9 hS) ?_
      refine sb (rq9_0 hS) ?_
      refine sg (kq10 hS) ?_
      refine bgr (by rw [lq10 hS]) (fun g1 => ?_)
      exact ih _ _
def gX6_stepsInAll (σ : Shp) (I : Nat → Nat → Int32) (R : Nat → Nat → Option Nat) : Option ((Int32)) :=
  gX6_stepsInAll_l4 σ I R FUx (0 : Int32) (0 : Int32)
theorem eX6_stepsInAll {σ : Shp} {I : Nat → Nat → Int32} {R : Nat → Nat → Option Nat}  (hS : Skel σ R) : fX6_stepsInAll σ I R 9 = gX6_stepsInAll σ I R := by
  unfold fX6_stepsInAll gX6_stepsInAll
  exact eX6_stepsInAll_l4 hS _ _ _
def gX6_lengthOf (I : Nat → Nat → Int32) (x1 : Int32) : Option ((Int32)) :=
  if ¬ (x1 < 0 ∨ 4 ≤ Int32.toNatClampNeg x1) then
  some (I 10 (Int32.toNatClampNeg x1))
  else none
theorem eX6_lengthOf {σ : Shp} {I : Nat → Nat → Int32} {R : Nat → Nat → Option Nat} {x1 : Int32} (hS : Skel σ R) : fX6_lengthOf σ I R 9 x1 = gX6_lengthOf I x1 := by
  unfold fX6_lengthOf gX6_lengthOf
  refine sg (kq9 hS) ?_
  refine sb (rq9_0 hS) ?_
  refine sg (kq10 hS) ?_
  refine bgr (by rw [lq10 hS]) (fun g1 => ?_)
  rfl
def gX6_isPlace (I : Nat → Nat → Int32) (x1 : Int32) (x2 : Int32) : Option ((Int32)) :=
  if x1 < 0 then
    some (0 : Int32)
  else
    if (4 : Int32) ≤ x1 then
      some (0 : Int32)
    else
      if x2 < 0 then
        some (0 : Int32)
      else
        if ¬ (x1 < 0 ∨ 4 ≤ Int32.toNatClampNeg x1) then
        if (I 10 (Int32.toNatClampNeg x1)) ≤ x2 then
          some (0 : Int32)
        else
          some (1 : Int32)
        else none
theorem eX6_isPlace {σ : Shp} {I : Nat → Nat → Int32} {R : Nat → Nat → Option Nat} {x1 : Int32} {x2 : Int32} (hS : Skel σ R) : fX6_isPlace σ I R 9 x1 x2 = gX6_isPlace I x1 x2 := by
  unfold fX6_isPlace gX6_isPlace
  refine bi (fun c => ?_) (fun c => ?_)
  · rfl
  · refine bi (fun c => ?_) (fun c => ?_)
    · rfl
    · refine bi (fun c => ?_) (fun c => ?_)
      · rfl
      · refine sg (kq9 hS) ?_
        refine sb (rq9_0 hS) ?_
        refine sg (kq10 hS) ?_
        refine bgr (by rw [lq10 hS]) (fun g1 => ?_)
        refine bi (fun c => ?_) (fun c => ?_)
        · rfl
        · rfl
def gX6_opAt (I : Nat → Nat → Int32) (x1 : Int32) (x2 : Int32) : Option ((Int32)) :=
  (gX6_isPlace I x1 x2).bind fun r1 =>
  if r1 = 0 then
    some (0 : Int32)
  else
    if ¬ (((x1 * (40 : Int32)) + x2) < 0 ∨ 160 ≤ Int32.toNatClampNeg ((x1 * (40 : Int32)) + x2)) then
    some (I 11 (Int32.toNatClampNeg ((x1 * (40 : Int32)) + x2)))
    else none
theorem eX6_opAt {σ : Shp} {I : Nat → Nat → Int32} {R : Nat → Nat → Option Nat} {x1 : Int32} {x2 : Int32} (hS : Skel σ R) : fX6_opAt σ I R 9 x1 x2 = gX6_opAt I x1 x2 := by
  unfold fX6_opAt gX6_opAt
  refine sg (kq9 hS) ?_
  refine bc (eX6_isPlace hS) (fun r1 hc2 => ?_)
  refine bi (fun c => ?_) (fun c => ?_)
  · rfl
  · try with_reducible refine sg (kq9 hS) ?_
    refine sb (rq9_1 hS) ?_
    refine sg (kq11 hS) ?_
    refine bgr (by rw [lq11 hS]) (fun g3 => ?_)
    rfl
def gX6_aAt (I : Nat → Nat → Int32) (x1 : Int32) (x2 : Int32) : Option ((Int32)) :=
  (gX6_isPlace I x1 x2).bind fun r1 =>
  if r1 = 0 then
    some (0 : Int32)
  else
    if ¬ (((x1 * (40 : Int32)) + x2) < 0 ∨ 160 ≤ Int32.toNatClampNeg ((x1 * (40 : Int32)) + x2)) then
    some (I 12 (Int32.toNatClampNeg ((x1 * (40 : Int32)) + x2)))
    else none
theorem eX6_aAt {σ : Shp} {I : Nat → Nat → Int32} {R : Nat → Nat → Option Nat} {x1 : Int32} {x2 : Int32} (hS : Skel σ R) : fX6_aAt σ I R 9 x1 x2 = gX6_aAt I x1 x2 := by
  unfold fX6_aAt gX6_aAt
  refine sg (kq9 hS) ?_
  refine bc (eX6_isPlace hS) (fun r1 hc2 => ?_)
  refine bi (fun c => ?_) (fun c => ?_)
  · rfl
  · try with_reducible refine sg (kq9 hS) ?_
    refine sb (rq9_2 hS) ?_
    refine sg (kq12 hS) ?_
    refine bgr (by rw [lq12 hS]) (fun g3 => ?_)
    rfl
def gX6_bAt (I : Nat → Nat → Int32) (x1 : Int32) (x2 : Int32) : Option ((Int32)) :=
  (gX6_isPlace I x1 x2).bind fun r1 =>
  if r1 = 0 then
    some (0 : Int32)
  else
    if ¬ (((x1 * (40 : Int32)) + x2) < 0 ∨ 160 ≤ Int32.toNatClampNeg ((x1 * (40 : Int32)) + x2)) then
    some (I 13 (Int32.toNatClampNeg ((x1 * (40 : Int32)) + x2)))
    else none
theorem eX6_bAt {σ : Shp} {I : Nat → Nat → Int32} {R : Nat → Nat → Option Nat} {x1 : Int32} {x2 : Int32} (hS : Skel σ R) : fX6_bAt σ I R 9 x1 x2 = gX6_bAt I x1 x2 := by
  unfold fX6_bAt gX6_bAt
  refine sg (kq9 hS) ?_
  refine bc (eX6_isPlace hS) (fun r1 hc2 => ?_)
  refine bi (fun c => ?_) (fun c => ?_)
  · rfl
  · try with_reducible refine sg (kq9 hS) ?_
    refine sb (rq9_3 hS) ?_
    refine sg (kq13 hS) ?_
    refine bgr (by rw [lq13 hS]) (fun g3 => ?_)
    rfl
def gX6_cAt (I : Nat → Nat → Int32) (x1 : Int32) (x2 : Int32) : Option ((Int32)) :=
  (gX6_isPlace I x1 x2).bind fun r1 =>
  if r1 = 0 then
    some (0 : Int32)
  else
    if ¬ (((x1 * (40 : Int32)) + x2) < 0 ∨ 160 ≤ Int32.toNatClampNeg ((x1 * (40 : Int32)) + x2)) then
    some (I 14 (Int32.toNatClampNeg ((x1 * (40 : Int32)) + x2)))
    else none
theorem eX6_cAt {σ : Shp} {I : Nat → Nat → Int32} {R : Nat → Nat → Option Nat} {x1 : Int32} {x2 : Int32} (hS : Skel σ R) : fX6_cAt σ I R 9 x1 x2 = gX6_cAt I x1 x2 := by
  unfold fX6_cAt gX6_cAt
  refine sg (kq9 hS) ?_
  refine bc (eX6_isPlace hS) (fun r1 hc2 => ?_)
  refine bi (fun c => ?_) (fun c => ?_)
  · rfl
  · try with_reducible refine sg (kq9 hS) ?_
    refine sb (rq9_4 hS) ?_
    refine sg (kq14 hS) ?_
    refine bgr (by rw [lq14 hS]) (fun g3 => ?_)
    rfl
def gX6_endAt (I : Nat → Nat → Int32) (x1 : Int32) (x2 : Int32) : Option ((Int32)) :=
  (gX6_isPlace I x1 x2).bind fun r1 =>
  if r1 = 0 then
    some (0 : Int32)
  else
    if ¬ (((x1 * (40 : Int32)) + x2) < 0 ∨ 160 ≤ Int32.toNatClampNeg ((x1 * (40 : Int32)) + x2)) then
    some (I 15 (Int32.toNatClampNeg ((x1 * (40 : Int32)) + x2)))
    else none
theorem eX6_endAt {σ : Shp} {I : Nat → Nat → Int32} {R : Nat → Nat → Option Nat} {x1 : Int32} {x2 : Int32} (hS : Skel σ R) : fX6_endAt σ I R 9 x1 x2 = gX6_endAt I x1 x2 := by
  unfold fX6_endAt gX6_endAt
  refine sg (kq9 hS) ?_
  refine bc (eX6_isPlace hS) (fun r1 hc2 => ?_)
  refine bi (fun c => ?_) (fun c => ?_)
  · rfl
  · try with_reducible refine sg (kq9 hS) ?_
    refine sb (rq9_5 hS) ?_
    refine sg (kq15 hS) ?_
    refine bgr (by rw [lq15 hS]) (fun g3 => ?_)
    rfl
def gX6_firstWrong_b53 (q7 : (Nat → Nat → Int32) → (Int32) → (Int32) → (Int32) → (Int32) → (Option ((Nat → Nat → Int32) × (Int32)))) (σ : Shp) (R : Nat → Nat → Option Nat) (I : Nat → Nat → Int32) (x1 : Int32) (x2 : Int32) (x4 : Int32) (x5 : Int32) : Option ((Nat → Nat → Int32) × (Int32)) :=
  if x5 = 0 then
    if x2 = 0 then
      some (I, x4)
    else
      let v9 := x2 + (-1 : Int32)
      if ¬ (v9 < 0 ∨ 40 ≤ Int32.toNatClampNeg v9) then
      let v11 := ((x1 * (40 : Int32)) + (I 16 (Int32.toNatClampNeg v9)))
      if ¬ (v11 < 0 ∨ 160 ≤ Int32.toNatClampNeg v11) then
      let I13 := u2 I 15 (Int32.toNatClampNeg v11) x4
      if ¬ (v11 < 0 ∨ 160 ≤ Int32.toNatClampNeg v11) then
      if (I13 11 (Int32.toNatClampNeg v11)) = (16 : Int32) then
        let v15 := x4 + (1 : Int32)
        q7 I13 x1 v9 (1 : Int32) v15
      else
        if (I13 11 (Int32.toNatClampNeg v11)) = (17 : Int32) then
          let v17 := x4 + (1 : Int32)
          q7 I13 x1 v9 (1 : Int32) v17
        else
          let v16 := x4 + (1 : Int32)
          q7 I13 x1 v9 (0 : Int32) v16
      else none
      else none
      else none
  else
    if x5 < (11 : Int32) then
      let v4 := x4 + (1 : Int32)
      q7 I x1 x2 (0 : Int32) v4
    else
      if ¬ (x2 < 0 ∨ 40 ≤ Int32.toNatClampNeg x2) then
      let I6 := u2 I 16 (Int32.toNatClampNeg x2) x4
      let v7 := x2 + (1 : Int32)
      let v8 := x4 + (1 : Int32)
      q7 I6 x1 v7 (0 : Int32) v8
      else none
theorem eX6_firstWrong_b53 {σ : Shp} {I : Nat → Nat → Int32} {R : Nat → Nat → Option Nat} {x1 : Int32} {x2 : Int32} {x4 : Int32} {x5 : Int32} (hS : Skel σ R) {qf7 q7 : (Nat → Nat → Int32) → (Int32) → (Int32) → (Int32) → (Int32) → (Option ((Nat → Nat → Int32) × (Int32)))} (hq7 : ∀ (I : Nat → Nat → Int32) (x1 : Int32) (x2 : Int32) (x3 : Int32) (x4 : Int32), qf7 I x1 x2 x3 x4 = q7 I x1 x2 x3 x4) : fX6_firstWrong_b53 qf7 σ R 9 I x1 x2 x4 x5 = gX6_firstWrong_b53 q7 σ R I x1 x2 x4 x5 := by
  unfold fX6_firstWrong_b53 gX6_firstWrong_b53
  refine bi (fun c => ?_) (fun c => ?_)
  · refine bi (fun c => ?_) (fun c => ?_)
    · rfl
    · refine sg (kq9 hS) ?_
      refine sb (rq9_6 hS) ?_
      refine sg (kq16 hS) ?_
      refine bgr (by rw [lq16 hS]) (fun g10 => ?_)
      try with_reducible refine sg (kq9 hS) ?_
      refine sb (rq9_5 hS) ?_
      refine sg (kq15 hS) ?_
      refine bgr (by rw [lq15 hS]) (fun g12 => ?_)
      try with_reducible refine sg (kq9 hS) ?_
      refine sb (rq9_1 hS) ?_
      refine sg (kq11 hS) ?_
      refine bgr (by rw [lq11 hS]) (fun g14 => ?_)
      refine bi (fun c => ?_) (fun c => ?_)
      · exact hq7 _ _ _ _ _
      · try with_reducible refine sg (kq9 hS) ?_
        try with_reducible refine sg (kq11 hS) ?_
        try with_reducible refine sg (by rw [lq11 hS]; exact g14) ?_
        refine bi (fun c => ?_) (fun c => ?_)
        · exact hq7 _ _ _ _ _
        · exact hq7 _ _ _ _ _
  · refine bi (fun c => ?_) (fun c => ?_)
    · exact hq7 _ _ _ _ _
    · refine sg (kq9 hS) ?_
      refine sb (rq9_6 hS) ?_
      refine sg (kq16 hS) ?_
      refine bgr (by rw [lq16 hS]) (fun g5 => ?_)
      exact hq7 _ _ _ _ _
def gX6_firstWrong_l7  (σ : Shp) (R : Nat → Nat → Option Nat) : Nat → (Nat → Nat → Int32) → (Int32) → (Int32) → (Int32) → (Int32) → Option ((Nat → Nat → Int32) × (Int32))
  | 0, _, _, _, _, _ => none
  | n + 1, I, x1, x2, x3, x4 =>
    if ¬ (x1 < 0 ∨ 4 ≤ Int32.toNatClampNeg x1) then
    if (I 10 (Int32.toNatClampNeg x1)) ≤ x4 then
      if x2 = 0 then
        some (I, (-1 : Int32))
      else
        some (I, (I 10 (Int32.toNatClampNeg x1)))
    else
      if ¬ (((x1 * (40 : Int32)) + x4) < 0 ∨ 160 ≤ Int32.toNatClampNeg ((x1 * (40 : Int32)) + x4)) then
      let v3 := (I 11 (Int32.toNatClampNeg ((x1 * (40 : Int32)) + x4)))
      if v3 = (17 : Int32) then
        if x3 = 0 then
          some (I, x4)
        else
          gX6_firstWrong_b53 (gX6_firstWrong_l7 σ R n) σ R I x1 x2 x4 v3
      else
        if v3 = (18 : Int32) then
          if x3 = 0 then
            some (I, x4)
          else
            gX6_firstWrong_b53 (gX6_firstWrong_l7 σ R n) σ R I x1 x2 x4 v3
        else
          gX6_firstWrong_b53 (gX6_firstWrong_l7 σ R n) σ R I x1 x2 x4 v3
      else none
    else none
theorem eX6_firstWrong_l7 {σ : Shp} {R : Nat → Nat → Option Nat} (hS : Skel σ R) : ∀ (n : Nat) (I : Nat → Nat → Int32) (x1 : Int32) (x2 : Int32) (x3 : Int32) (x4 : Int32), fX6_firstWrong_l7 σ R 9 n I x1 x2 x3 x4 = gX6_firstWrong_l7 σ R n I x1 x2 x3 x4 := by
  intro n
  induction n with
  | zero => intro I x1 x2 x3 x4; rfl
  | succ n ih =>
    intro I x1 x2 x3 x4
    rw [fX6_firstWrong_l7, gX6_firstWrong_l7]
    refine sg (kq9 hS) ?_
    refine sb (rq9_0 hS) ?_
    refine sg (kq10 hS) ?_
    refine bgr (by rw [lq10 hS]) (fun g1 => ?_)
    refine bi (fun c => ?_) (fun c => ?_)
    · refine bi (fun c => ?_) (fun c => ?_)
      · rfl
      · try with_reducible refine sg (kq9 hS) ?_
        try with_reducible refine sg (kq10 hS) ?_
        try with_reducible refine sg (by rw [lq10 hS]; exact g1) ?_
        rfl
    · try with_reducible refine sg (kq9 hS) ?_
      refine sb (rq9_1 hS) ?_
      refine sg (kq11 hS) ?_
      refine bgr (by rw [lq11 hS]) (fun g2 => ?_)
      refine bi (fun c => ?_) (fun c => ?_)
      · refine bi (fun c => ?_) (fun c => ?_)
        · rfl
        · exact eX6_firstWrong_b53 hS ih
      · refine bi (fun c => ?_) (fun c => ?_)
        · refine bi (fun c => ?_) (fun c => ?_)
          · rfl
          · exact eX6_firstWrong_b53 hS ih
        · exact eX6_firstWrong_b53 hS ih
def gX6_firstWrong (σ : Shp) (I : Nat → Nat → Int32) (R : Nat → Nat → Option Nat) (x1 : Int32) : Option ((Nat → Nat → Int32) × (Int32)) :=
  gX6_firstWrong_l7 σ R FUx I x1 (0 : Int32) (0 : Int32) (0 : Int32)
theorem eX6_firstWrong {σ : Shp} {I : Nat → Nat → Int32} {R : Nat → Nat → Option Nat} {x1 : Int32} (hS : Skel σ R) : fX6_firstWrong σ I R 9 x1 = gX6_firstWrong σ I R x1 := by
  unfold fX6_firstWrong gX6_firstWrong
  exact eX6_firstWrong_l7 hS _ _ _ _ _ _
def gX8_changesSoFar (I : Nat → Nat → Int32) : Option ((Int32)) :=
  some (I 17 6)
theorem eX8_changesSoFar {σ : Shp} {I : Nat → Nat → Int32} {R : Nat → Nat → Option Nat}  (hS : Skel σ R) : fX8_changesSoFar σ I 17 = gX8_changesSoFar I := by
  unfold fX8_changesSoFar gX8_changesSoFar
  refine sg (kq17 hS) ?_
  rfl
def gX7_newTop_b51  (σ : Shp) (I : Nat → Nat → Int32) (R : Nat → Nat → Option Nat) (x1 : Option Nat) : Option ((Shp) × (Nat → Nat → Int32) × (Nat → Nat → Option Nat) × (Option Nat)) :=
  let I12 := u2 I 5 6 ((I 5 6) + (1 : Int32))
  (x1 : Option Nat).bind fun a13 =>
  if kdx σ a13 = 4 then
  let I15 := u2 I12 a13 8 (0 : Int32)
  let I16 := u2 I15 a13 9 (1 : Int32)
  let I17 := u2 I16 a13 11 (0 : Int32)
  (gX8_changesSoFar I17).bind fun r18 =>
  let I20 := u2 I17 a13 10 r18
  some (σ, I20, R, (some a13))
  else none
theorem eX7_newTop_b51 {σ : Shp} {I : Nat → Nat → Int32} {R : Nat → Nat → Option Nat} {x1 : Option Nat} (hS : Skel σ R) : fX7_newTop_b51 5 σ I R x1 = gX7_newTop_b51 σ I R x1 := by
  unfold fX7_newTop_b51 gX7_newTop_b51
  refine sg (kq5 hS) ?_
  try with_reducible refine sg (kq5 hS) ?_
  let I12 := u2 I 5 6 ((I 5 6) + (1 : Int32))
  refine bb (fun a13 ha13 => ?_)
  refine bg (fun g14 => ?_)
  let I15 := u2 I12 a13 8 (0 : Int32)
  let I16 := u2 I15 a13 9 (1 : Int32)
  let I17 := u2 I16 a13 11 (0 : Int32)
  try with_reducible refine sg (kq5 hS) ?_
  refine sb (rq5_3 hS) ?_
  refine sg (kq17 hS) ?_
  refine bc (eX8_changesSoFar hS) (fun r18 hc19 => ?_)
  let I20 := u2 I17 a13 10 r18
  rfl
theorem pX7_newTop_b51 {σ : Shp} {I : Nat → Nat → Int32} {R : Nat → Nat → Option Nat} {x1 : Option Nat} {σ9 : Shp} {I9 : Nat → Nat → Int32} {R9 : Nat → Nat → Option Nat} {r9 : Option Nat} (hS : Skel σ R) (h : gX7_newTop_b51 σ I R x1 = some (σ9, I9, R9, r9)) : Skel σ9 R9 := by
  unfold gX7_newTop_b51 at h
  let I12 := u2 I 5 6 ((I 5 6) + (1 : Int32))
  obtain ⟨a13, ha13, h⟩ := ob h
  obtain ⟨g14, h⟩ := gd h
  let I15 := u2 I12 a13 8 (0 : Int32)
  let I16 := u2 I15 a13 9 (1 : Int32)
  let I17 := u2 I16 a13 11 (0 : Int32)
  obtain ⟨r18, hc19, h⟩ := ob h
  let I20 := u2 I17 a13 10 r18
  cases h
  exact hS
def gX7_newTop_b40  (σ : Shp) (I : Nat → Nat → Int32) (R : Nat → Nat → Option Nat) (s0 : Nat) : Option ((Shp) × (Nat → Nat → Int32) × (Nat → Nat → Option Nat) × (Option Nat)) :=
  if ¬ ((I 5 6) < 0 ∨ 160 ≤ Int32.toNatClampNeg (I 5 6)) then
  if okR σ 4 (some s0) = true then
  let R11 := u2 R 24 (Int32.toNatClampNeg (I 5 6)) (some s0)
  gX7_newTop_b51 σ I R11 (some s0)
  else none
  else none
theorem eX7_newTop_b40 {σ : Shp} {I : Nat → Nat → Int32} {R : Nat → Nat → Option Nat} {s0 : Nat} (hS : Skel σ R) : fX7_newTop_b40 5 σ I R s0 = gX7_newTop_b40 σ I R s0 := by
  unfold fX7_newTop_b40 gX7_newTop_b40
  refine sg (kq5 hS) ?_
  refine sb (rq5_4 hS) ?_
  try with_reducible refine sg (kq5 hS) ?_
  refine sg (kq24 hS) ?_
  refine bgr (by rw [lq24 hS]) (fun g9 => ?_)
  refine bg (fun g10 => ?_)
  let R11 := u2 R 24 (Int32.toNatClampNeg (I 5 6)) (some s0)
  have hS := hS.setR (k := (Int32.toNatClampNeg (I 5 6))) (v := (some s0)) (Or.inr (Or.inl (kq24 hS)))
  exact eX7_newTop_b51 hS
theorem pX7_newTop_b40 {σ : Shp} {I : Nat → Nat → Int32} {R : Nat → Nat → Option Nat} {s0 : Nat} {σ9 : Shp} {I9 : Nat → Nat → Int32} {R9 : Nat → Nat → Option Nat} {r9 : Option Nat} (hS : Skel σ R) (h : gX7_newTop_b40 σ I R s0 = some (σ9, I9, R9, r9)) : Skel σ9 R9 := by
  unfold gX7_newTop_b40 at h
  obtain ⟨g9, h⟩ := gd h
  obtain ⟨g10, h⟩ := gd h
  let R11 := u2 R 24 (Int32.toNatClampNeg (I 5 6)) (some s0)
  have hS := hS.setR (k := (Int32.toNatClampNeg (I 5 6))) (v := (some s0)) (Or.inr (Or.inl (kq24 hS)))
  exact pX7_newTop_b51 hS h
def gX7_newTop_b36  (σ : Shp) (I : Nat → Nat → Int32) (R : Nat → Nat → Option Nat) (s0 : Nat) : Option ((Shp) × (Nat → Nat → Int32) × (Nat → Nat → Option Nat) × (Option Nat)) :=
  if kdx σ s0 = 4 then
  (gX3_init σ R s0).bind fun (σ6, R7) =>
  gX7_newTop_b40 σ6 I R7 s0
  else none
theorem eX7_newTop_b36 {σ : Shp} {I : Nat → Nat → Int32} {R : Nat → Nat → Option Nat} {s0 : Nat} (hS : Skel σ R) : fX7_newTop_b36 5 σ I R s0 = gX7_newTop_b36 σ I R s0 := by
  unfold fX7_newTop_b36 gX7_newTop_b36
  refine bg (fun g5 => ?_)
  refine bc (eX3_init hS) (fun pp hc8 => ?_)
  obtain ⟨σ6, R7⟩ := pp
  have hS := pX3_init hS hc8
  exact eX7_newTop_b40 hS
theorem pX7_newTop_b36 {σ : Shp} {I : Nat → Nat → Int32} {R : Nat → Nat → Option Nat} {s0 : Nat} {σ9 : Shp} {I9 : Nat → Nat → Int32} {R9 : Nat → Nat → Option Nat} {r9 : Option Nat} (hS : Skel σ R) (h : gX7_newTop_b36 σ I R s0 = some (σ9, I9, R9, r9)) : Skel σ9 R9 := by
  unfold gX7_newTop_b36 at h
  obtain ⟨g5, h⟩ := gd h
  obtain ⟨⟨σ6, R7⟩, hc8, h⟩ := ob h
  have hS := pX3_init hS hc8
  exact pX7_newTop_b40 hS h
def gX7_newTop (σ : Shp) (I : Nat → Nat → Int32) (R : Nat → Nat → Option Nat) : Option ((Shp) × (Nat → Nat → Int32) × (Nat → Nat → Option Nat) × (Option Nat)) :=
  if (I 5 6) < 0 then
    some (σ, I, R, none)
  else
    if (I 5 6) < (160 : Int32) then
      if ¬ ((I 5 6) < 0 ∨ 160 ≤ Int32.toNatClampNeg (I 5 6)) then
      let v2 := (R 24 (Int32.toNatClampNeg (I 5 6)))
      onl v2
        (
          let σ4 := mkO σ 4 13
          gX7_newTop_b36 σ4 I R (nxx σ + 4))
        (fun a3 =>
          gX7_newTop_b51 σ I R v2)
      else none
    else
      some (σ, I, R, none)
theorem pX7_newTop {σ : Shp} {I : Nat → Nat → Int32} {R : Nat → Nat → Option Nat}  {σ9 : Shp} {I9 : Nat → Nat → Int32} {R9 : Nat → Nat → Option Nat} {r9 : Option Nat} (hS : Skel σ R) (h : gX7_newTop σ I R = some (σ9, I9, R9, r9)) : Skel σ9 R9 := by
  unfold gX7_newTop at h
  rcases itc h with ⟨c, h⟩ | ⟨c, h⟩
  · cases h
    exact hS
  · rcases itc h with ⟨c, h⟩ | ⟨c, h⟩
    · obtain ⟨g1, h⟩ := gd h
      let v2 := (R 24 (Int32.toNatClampNeg (I 5 6)))
      rcases onl_c h with ⟨ea3, h⟩ | ⟨a3, ha3, h⟩
      · have hS := hS.mkO (t := 4) (n := 13)
        exact pX7_newTop_b36 hS h
      · exact pX7_newTop_b51 hS h
    · cases h
      exact hS
theorem eX7_newTop {σ : Shp} {I : Nat → Nat → Int32} {R : Nat → Nat → Option Nat}  (hS : Skel σ R) : fX7_newTop σ I R 5 = gX7_newTop σ I R := by
  unfold fX7_newTop gX7_newTop
  refine sg (kq5 hS) ?_
  refine bi (fun c => ?_) (fun c => ?_)
  · rfl
  · try with_reducible refine sg (kq5 hS) ?_
    refine bi (fun c => ?_) (fun c => ?_)
    · try with_reducible refine sg (kq5 hS) ?_
      refine sb (rq5_4 hS) ?_
      try with_reducible refine sg (kq5 hS) ?_
      refine sg (kq24 hS) ?_
      refine bgr (by rw [lq24 hS]) (fun g1 => ?_)
      let v2 := (R 24 (Int32.toNatClampNeg (I 5 6)))
      refine bo (fun ea3 => ?_) (fun a3 ha3 => ?_)
      · have hS := hS.mkO (t := 4) (n := 13)
        exact eX7_newTop_b36 hS
      · exact eX7_newTop_b51 hS
    · rfl
def gX7_enterPlan_b4  (σ : Shp) (I : Nat → Nat → Int32) (R : Nat → Nat → Option Nat) (x1 : Int32) (x2 : Int32) (s0 : Option Nat) : Option ((Shp) × (Nat → Nat → Int32) × (Nat → Nat → Option Nat)) :=
  onl s0
    (
      some (σ, I, R))
    (fun a6 =>
      if kdx σ a6 = 4 then
      let I8 := u2 I a6 0 x1
      let I9 := u2 I8 a6 1 x2
      let I10 := u2 I9 a6 2 (0 : Int32)
      let I11 := u2 I10 a6 3 (0 : Int32)
      (gX6_lengthOf I11 x2).bind fun r12 =>
      let I14 := u2 I11 a6 4 r12
      some (σ, I14, R)
      else none)
theorem eX7_enterPlan_b4 {σ : Shp} {I : Nat → Nat → Int32} {R : Nat → Nat → Option Nat} {x1 : Int32} {x2 : Int32} {s0 : Option Nat} (hS : Skel σ R) : fX7_enterPlan_b4 5 σ I R x1 x2 s0 = gX7_enterPlan_b4 σ I R x1 x2 s0 := by
  unfold fX7_enterPlan_b4 gX7_enterPlan_b4
  refine bo (fun ea6 => ?_) (fun a6 ha6 => ?_)
  · rfl
  · refine bg (fun g7 => ?_)
    let I8 := u2 I a6 0 x1
    let I9 := u2 I8 a6 1 x2
    let I10 := u2 I9 a6 2 (0 : Int32)
    let I11 := u2 I10 a6 3 (0 : Int32)
    refine sg (kq5 hS) ?_
    refine sb (rq5_2 hS) ?_
    refine sg (kq9 hS) ?_
    refine bc (eX6_lengthOf hS) (fun r12 hc13 => ?_)
    let I14 := u2 I11 a6 4 r12
    rfl
theorem pX7_enterPlan_b4 {σ : Shp} {I : Nat → Nat → Int32} {R : Nat → Nat → Option Nat} {x1 : Int32} {x2 : Int32} {s0 : Option Nat} {σ9 : Shp} {I9 : Nat → Nat → Int32} {R9 : Nat → Nat → Option Nat} (hS : Skel σ R) (h : gX7_enterPlan_b4 σ I R x1 x2 s0 = some (σ9, I9, R9)) : Skel σ9 R9 := by
  unfold gX7_enterPlan_b4 at h
  rcases onl_c h with ⟨ea6, h⟩ | ⟨a6, ha6, h⟩
  · cases h
    exact hS
  · obtain ⟨g7, h⟩ := gd h
    let I8 := u2 I a6 0 x1
    let I9 := u2 I8 a6 1 x2
    let I10 := u2 I9 a6 2 (0 : Int32)
    let I11 := u2 I10 a6 3 (0 : Int32)
    obtain ⟨r12, hc13, h⟩ := ob h
    let I14 := u2 I11 a6 4 r12
    cases h
    exact hS
def gX7_enterPlan (σ : Shp) (I : Nat → Nat → Int32) (R : Nat → Nat → Option Nat) (x1 : Int32) (x2 : Int32) : Option ((Shp) × (Nat → Nat → Int32) × (Nat → Nat → Option Nat)) :=
  (gX7_newTop σ I R).bind fun (σ1, I2, R3, r4) =>
  gX7_enterPlan_b4 σ1 I2 R3 x1 x2 r4
theorem pX7_enterPlan {σ : Shp} {I : Nat → Nat → Int32} {R : Nat → Nat → Option Nat} {x1 : Int32} {x2 : Int32} {σ9 : Shp} {I9 : Nat → Nat → Int32} {R9 : Nat → Nat → Option Nat} (hS : Skel σ R) (h : gX7_enterPlan σ I R x1 x2 = some (σ9, I9, R9)) : Skel σ9 R9 := by
  unfold gX7_enterPlan at h
  obtain ⟨⟨σ1, I2, R3, r4⟩, hc5, h⟩ := ob h
  have hS := pX7_newTop hS hc5
  exact pX7_enterPlan_b4 hS h
theorem eX7_enterPlan {σ : Shp} {I : Nat → Nat → Int32} {R : Nat → Nat → Option Nat} {x1 : Int32} {x2 : Int32} (hS : Skel σ R) : fX7_enterPlan σ I R 5 x1 x2 = gX7_enterPlan σ I R x1 x2 := by
  unfold fX7_enterPlan gX7_enterPlan
  refine sg (kq5 hS) ?_
  refine bc (eX7_newTop hS) (fun pp hc5 => ?_)
  obtain ⟨σ1, I2, R3, r4⟩ := pp
  have hS := pX7_newTop hS hc5
  exact eX7_enterPlan_b4 hS
def gX7_counted (I : Nat → Nat → Int32) : Option ((Nat → Nat → Int32) × (Int32)) :=
  if (I 5 9) < (300 : Int32) then
    let I1 := u2 I 5 9 ((I 5 9) + (1 : Int32))
    some (I1, (1 : Int32))
  else
    if ¬ ((0 : Int32) < 0 ∨ 6 ≤ Int32.toNatClampNeg (0 : Int32)) then
    let I3 := u2 I 25 (Int32.toNatClampNeg (0 : Int32)) (3 : Int32)
    some (I3, (0 : Int32))
    else none
theorem eX7_counted {σ : Shp} {I : Nat → Nat → Int32} {R : Nat → Nat → Option Nat}  (hS : Skel σ R) : fX7_counted σ I R 5 = gX7_counted I := by
  unfold fX7_counted gX7_counted
  refine sg (kq5 hS) ?_
  refine bi (fun c => ?_) (fun c => ?_)
  · try with_reducible refine sg (kq5 hS) ?_
    try with_reducible refine sg (kq5 hS) ?_
    rfl
  · try with_reducible refine sg (kq5 hS) ?_
    refine sb (rq5_5 hS) ?_
    refine sg (kq25 hS) ?_
    refine bgr (by rw [lq25 hS]) (fun g2 => ?_)
    rfl
def gX8_undoTo_l7  (σ : Shp) (R : Nat → Nat → Option Nat) : Nat → (Nat → Nat → Int32) → (Nat → Nat → Int64) → (Int32) → (Int32) → Option ((Nat → Nat → Int32) × (Nat → Nat → Int64))
  | 0, _, _, _, _ => none
  | n + 1, I, J, x1, x2 =>
    if x2 < x1 then
      let I2 := u2 I 17 6 (fXM_maxI (0 : Int32) (fXM_minI (I 17 6) x1))
      some (I2, J)
    else
      if x2 < 0 then
        let I3 := u2 I 17 6 (fXM_maxI (0 : Int32) (fXM_minI (I 17 6) x1))
        some (I3, J)
      else
        if ¬ (x2 < 0 ∨ 640 ≤ Int32.toNatClampNeg x2) then
        let v5 := (R 21 (Int32.toNatClampNeg x2))
        if ¬ (x2 < 0 ∨ 640 ≤ Int32.toNatClampNeg x2) then
        let v7 := (I 22 (Int32.toNatClampNeg x2))
        onl v5
          (
            if (6 : Int32) ≤ v7 then
              let v9 := x2 + (-1 : Int32)
              gX8_undoTo_l7 σ R n I J x1 v9
            else
              if ¬ (x2 < 0 ∨ 640 ≤ Int32.toNatClampNeg x2) then
              if ¬ (v7 < 0 ∨ 6 ≤ Int32.toNatClampNeg v7) then
              let J12 := u2 J 18 (Int32.toNatClampNeg v7) (J 23 (Int32.toNatClampNeg x2))
              let v13 := x2 + (-1 : Int32)
              gX8_undoTo_l7 σ R n I J12 x1 v13
              else none
              else none)
          (fun a8 =>
            if kdx σ a8 = 11 then
            ((R a8 1) : Option Nat).bind fun a15 =>
            if kdx σ a15 = 21 then
            if (Int32.ofNat (lnx σ a15)) ≤ v7 then
              let v17 := x2 + (-1 : Int32)
              gX8_undoTo_l7 σ R n I J x1 v17
            else
              if ¬ (x2 < 0 ∨ 640 ≤ Int32.toNatClampNeg x2) then
              if ¬ (v7 < 0 ∨ lnx σ a15 ≤ Int32.toNatClampNeg v7) then
              let J20 := u2 J a15 (Int32.toNatClampNeg v7) (J 23 (Int32.toNatClampNeg x2))
              let v21 := x2 + (-1 : Int32)
              gX8_undoTo_l7 σ R n I J20 x1 v21
              else none
              else none
            else none
            else none)
        else none
        else none
theorem eX8_undoTo_l7 {σ : Shp} {R : Nat → Nat → Option Nat} (hS : Skel σ R) : ∀ (n : Nat) (I : Nat → Nat → Int32) (J : Nat → Nat → Int64) (x1 : Int32) (x2 : Int32), fX8_undoTo_l7 σ R 17 n I J x1 x2 = gX8_undoTo_l7 σ R n I J x1 x2 := by
  intro n
  induction n with
  | zero => intro I J x1 x2; rfl
  | succ n ih =>
    intro I J x1 x2
    rw [fX8_undoTo_l7, gX8_undoTo_l7]
    refine bi (fun c => ?_) (fun c => ?_)
    · refine sg (kq17 hS) ?_
      try with_reducible refine sg (kq17 hS) ?_
      rfl
    · refine bi (fun c => ?_) (fun c => ?_)
      · refine sg (kq17 hS) ?_
        try with_reducible refine sg (kq17 hS) ?_
        rfl
      · refine sg (kq17 hS) ?_
        refine sb (rq17_3 hS) ?_
        refine sg (kq21 hS) ?_
        refine bgr (by rw [lq21 hS]) (fun g4 => ?_)
        try with_reducible refine sg (kq17 hS) ?_
        refine sb (rq17_4 hS) ?_
        refine sg (kq22 hS) ?_
        refine bgr (by rw [lq22 hS]) (fun g6 => ?_)
        refine bo (fun ea8 => ?_) (fun a8 ha8 => ?_)
        · refine bi (fun c => ?_) (fun c => ?_)
          · exact ih _ _ _ _
          · try with_reducible refine sg (kq17 hS) ?_
            refine sb (rq17_0 hS) ?_
            try with_reducible refine sg (kq17 hS) ?_
            refine sb (rq17_5 hS) ?_
            refine sg (kq23 hS) ?_
            refine bgr (by rw [lq23 hS]) (fun g10 => ?_)
            refine sg (kq18 hS) ?_
            refine bgr (by rw [lq18 hS]) (fun g11 => ?_)
            exact ih _ _ _ _
        · refine bg (fun g14 => ?_)
          refine bb (fun a15 ha15 => ?_)
          refine bg (fun g16 => ?_)
          refine bi (fun c => ?_) (fun c => ?_)
          · exact ih _ _ _ _
          · try with_reducible refine sg (kq17 hS) ?_
            refine sb (rq17_5 hS) ?_
            refine sg (kq23 hS) ?_
            refine bgr (by rw [lq23 hS]) (fun g18 => ?_)
            refine bg (fun g19 => ?_)
            exact ih _ _ _ _
def gX8_undoTo (σ : Shp) (I : Nat → Nat → Int32) (J : Nat → Nat → Int64) (R : Nat → Nat → Option Nat) (x1 : Int32) : Option ((Nat → Nat → Int32) × (Nat → Nat → Int64)) :=
  let v1 := ((I 17 6) - (1 : Int32))
  gX8_undoTo_l7 σ R FUx I J x1 v1
theorem eX8_undoTo {σ : Shp} {I : Nat → Nat → Int32} {J : Nat → Nat → Int64} {R : Nat → Nat → Option Nat} {x1 : Int32} (hS : Skel σ R) : fX8_undoTo σ I J R 17 x1 = gX8_undoTo σ I J R x1 := by
  unfold fX8_undoTo gX8_undoTo
  refine sg (kq17 hS) ?_
  exact eX8_undoTo_l7 hS _ _ _ _ _
def gX7_undoFaulted (σ : Shp) (I : Nat → Nat → Int32) (J : Nat → Nat → Int64) (R : Nat → Nat → Option Nat) (x1 : Option Nat) : Option ((Nat → Nat → Int32) × (Nat → Nat → Int64)) :=
  if ¬ ((0 : Int32) < 0 ∨ 6 ≤ Int32.toNatClampNeg (0 : Int32)) then
  if (I 25 (Int32.toNatClampNeg (0 : Int32))) = (1 : Int32) then
    (x1 : Option Nat).bind fun a2 =>
    if kdx σ a2 = 4 then
    (gX8_undoTo σ I J R (I a2 10)).bind fun (I4, J5) =>
    some (I4, J5)
    else none
  else
    some (I, J)
  else none
theorem eX7_undoFaulted {σ : Shp} {I : Nat → Nat → Int32} {J : Nat → Nat → Int64} {R : Nat → Nat → Option Nat} {x1 : Option Nat} (hS : Skel σ R) : fX7_undoFaulted σ I J R 5 x1 = gX7_undoFaulted σ I J R x1 := by
  unfold fX7_undoFaulted gX7_undoFaulted
  refine sg (kq5 hS) ?_
  refine sb (rq5_5 hS) ?_
  refine sg (kq25 hS) ?_
  refine bgr (by rw [lq25 hS]) (fun g1 => ?_)
  refine bi (fun c => ?_) (fun c => ?_)
  · try with_reducible refine sg (kq5 hS) ?_
    refine sb (rq5_3 hS) ?_
    refine bb (fun a2 ha2 => ?_)
    refine bg (fun g3 => ?_)
    refine sg (kq17 hS) ?_
    refine bc (eX8_undoTo hS) (fun pp hc6 => ?_)
    obtain ⟨I4, J5⟩ := pp
    rfl
  · rfl
def gX7_goesAgain (σ : Shp) (I : Nat → Nat → Int32) (J : Nat → Nat → Int64) (R : Nat → Nat → Option Nat) (x1 : Option Nat) : Option ((Nat → Nat → Int32) × (Nat → Nat → Int64) × (Int32)) :=
  (gX7_undoFaulted σ I J R x1).bind fun (I1, J2) =>
  if ¬ ((0 : Int32) < 0 ∨ 6 ≤ Int32.toNatClampNeg (0 : Int32)) then
  if (I1 25 (Int32.toNatClampNeg (0 : Int32))) = (1 : Int32) then
    (x1 : Option Nat).bind fun a5 =>
    if kdx σ a5 = 4 then
    if (I1 a5 5) ≤ (I1 a5 9) then
      some (I1, J2, (0 : Int32))
    else
      (gX7_counted I1).bind fun (I7, r8) =>
      if r8 = 0 then
        some (I7, J2, (0 : Int32))
      else
        let I10 := u2 I7 a5 9 ((I7 a5 9) + (1 : Int32))
        let I11 := u2 I10 a5 3 ((I10 a5 2) + (1 : Int32))
        let I12 := u2 I11 25 (Int32.toNatClampNeg (0 : Int32)) (0 : Int32)
        some (I12, J2, (1 : Int32))
    else none
  else
    some (I1, J2, (0 : Int32))
  else none
theorem eX7_goesAgain {σ : Shp} {I : Nat → Nat → Int32} {J : Nat → Nat → Int64} {R : Nat → Nat → Option Nat} {x1 : Option Nat} (hS : Skel σ R) : fX7_goesAgain σ I J R 5 x1 = gX7_goesAgain σ I J R x1 := by
  unfold fX7_goesAgain gX7_goesAgain
  refine sg (kq5 hS) ?_
  refine bc (eX7_undoFaulted hS) (fun pp hc3 => ?_)
  obtain ⟨I1, J2⟩ := pp
  try with_reducible refine sg (kq5 hS) ?_
  refine sb (rq5_5 hS) ?_
  refine sg (kq25 hS) ?_
  refine bgr (by rw [lq25 hS]) (fun g4 => ?_)
  refine bi (fun c => ?_) (fun c => ?_)
  · refine bb (fun a5 ha5 => ?_)
    refine bg (fun g6 => ?_)
    refine bi (fun c => ?_) (fun c => ?_)
    · rfl
    · try with_reducible refine sg (kq5 hS) ?_
      refine bc (eX7_counted hS) (fun pp hc9 => ?_)
      obtain ⟨I7, r8⟩ := pp
      refine bi (fun c => ?_) (fun c => ?_)
      · rfl
      · try with_reducible refine sg (kq5 hS) ?_
        try with_reducible refine sg (kq25 hS) ?_
        try with_reducible refine sg (by rw [lq25 hS]; exact g4) ?_
        rfl
  · rfl
def gX7_enterPart (σ : Shp) (I : Nat → Nat → Int32) (x1 : Option Nat) (x2 : Int32) (x3 : Int32) : Option ((Nat → Nat → Int32)) :=
  (x1 : Option Nat).bind fun a1 =>
  if kdx σ a1 = 4 then
  let I3 := u2 I a1 8 x3
  let I4 := u2 I3 a1 3 (x2 + (1 : Int32))
  (gX6_endAt I4 (I4 a1 1) x2).bind fun r5 =>
  let I7 := u2 I4 a1 4 r5
  if ¬ ((0 : Int32) < 0 ∨ 6 ≤ Int32.toNatClampNeg (0 : Int32)) then
  let I9 := u2 I7 25 (Int32.toNatClampNeg (0 : Int32)) (0 : Int32)
  some I9
  else none
  else none
theorem eX7_enterPart {σ : Shp} {I : Nat → Nat → Int32} {R : Nat → Nat → Option Nat} {x1 : Option Nat} {x2 : Int32} {x3 : Int32} (hS : Skel σ R) : fX7_enterPart σ I R 5 x1 x2 x3 = gX7_enterPart σ I x1 x2 x3 := by
  unfold fX7_enterPart gX7_enterPart
  refine bb (fun a1 ha1 => ?_)
  refine bg (fun g2 => ?_)
  refine sg (kq5 hS) ?_
  refine sb (rq5_2 hS) ?_
  refine sg (kq9 hS) ?_
  refine bc (eX6_endAt hS) (fun r5 hc6 => ?_)
  try with_reducible refine sg (kq5 hS) ?_
  refine sb (rq5_5 hS) ?_
  refine sg (kq25 hS) ?_
  refine bgr (by rw [lq25 hS]) (fun g8 => ?_)
  rfl
def gX7_entersLast_l95  (σ : Shp) (R : Nat → Nat → Option Nat) : Nat → (Nat → Nat → Int32) → (Option Nat) → (Int32) → (Int32) → Option ((Nat → Nat → Int32) × (Int32))
  | 0, _, _, _, _ => none
  | n + 1, I, x1, x2, x3 =>
    if (6 : Int32) ≤ x3 then
      (gX7_enterPart σ I x1 x2 (2 : Int32)).bind fun I11 =>
      some (I11, (1 : Int32))
    else
      (x1 : Option Nat).bind fun a13 =>
      if kdx σ a13 = 4 then
      ((R a13 12) : Option Nat).bind fun a15 =>
      if ¬ (x3 < 0 ∨ 6 ≤ Int32.toNatClampNeg x3) then
      if kdx σ a15 = 20 then
      if ¬ (x3 < 0 ∨ lnx σ a15 ≤ Int32.toNatClampNeg x3) then
      let I19 := u2 I a15 (Int32.toNatClampNeg x3) (I 25 (Int32.toNatClampNeg x3))
      let v20 := x3 + (1 : Int32)
      gX7_entersLast_l95 σ R n I19 x1 x2 v20
      else none
      else none
      else none
      else none
theorem eX7_entersLast_l95 {σ : Shp} {R : Nat → Nat → Option Nat} (hS : Skel σ R) : ∀ (n : Nat) (I : Nat → Nat → Int32) (x1 : Option Nat) (x2 : Int32) (x3 : Int32), fX7_entersLast_l95 σ R 5 n I x1 x2 x3 = gX7_entersLast_l95 σ R n I x1 x2 x3 := by
  intro n
  induction n with
  | zero => intro I x1 x2 x3; rfl
  | succ n ih =>
    intro I x1 x2 x3
    rw [fX7_entersLast_l95, gX7_entersLast_l95]
    refine bi (fun c => ?_) (fun c => ?_)
    · refine sg (kq5 hS) ?_
      refine bc (eX7_enterPart hS) (fun I11 hc12 => ?_)
      rfl
    · refine bb (fun a13 ha13 => ?_)
      refine bg (fun g14 => ?_)
      refine bb (fun a15 ha15 => ?_)
      refine sg (kq5 hS) ?_
      refine sb (rq5_5 hS) ?_
      refine sg (kq25 hS) ?_
      refine bgr (by rw [lq25 hS]) (fun g16 => ?_)
      refine bg (fun g17 => ?_)
      refine bg (fun g18 => ?_)
      exact ih _ _ _ _
def gX7_entersLast_b64  (σ : Shp) (R : Nat → Nat → Option Nat) (I : Nat → Nat → Int32) (x1 : Option Nat) (x2 : Int32) : Option ((Nat → Nat → Int32) × (Int32)) :=
  (x1 : Option Nat).bind fun a6 =>
  if kdx σ a6 = 4 then
  (gX6_opAt I (I a6 1) x2).bind fun r8 =>
  if r8 = (18 : Int32) then
    let I10 := u2 I 5 11 ((I 5 11) + (1 : Int32))
    gX7_entersLast_l95 σ R FUx I10 x1 x2 (0 : Int32)
  else
    some (I, (0 : Int32))
  else none
theorem eX7_entersLast_b64 {σ : Shp} {I : Nat → Nat → Int32} {R : Nat → Nat → Option Nat} {x1 : Option Nat} {x2 : Int32} (hS : Skel σ R) : fX7_entersLast_b64 σ R 5 I x1 x2 = gX7_entersLast_b64 σ R I x1 x2 := by
  unfold fX7_entersLast_b64 gX7_entersLast_b64
  refine sg (kq5 hS) ?_
  refine sb (rq5_2 hS) ?_
  refine bb (fun a6 ha6 => ?_)
  refine bg (fun g7 => ?_)
  refine sg (kq9 hS) ?_
  refine bc (eX6_opAt hS) (fun r8 hc9 => ?_)
  refine bi (fun c => ?_) (fun c => ?_)
  · try with_reducible refine sg (kq5 hS) ?_
    try with_reducible refine sg (kq5 hS) ?_
    exact eX7_entersLast_l95 hS _ _ _ _ _
  · rfl
def gX7_entersLast_l20  (σ : Shp) (R : Nat → Nat → Option Nat) : Nat → (Nat → Nat → Int32) → (Option Nat) → (Int32) → (Int32) → Option ((Nat → Nat → Int32) × (Int32))
  | 0, _, _, _, _ => none
  | n + 1, I, x1, x2, x3 =>
    if (40 : Int32) ≤ x3 then
      gX7_entersLast_b64 σ R I x1 x2
    else
      (x1 : Option Nat).bind fun a21 =>
      if kdx σ a21 = 4 then
      (gX6_opAt I (I a21 1) x2).bind fun r23 =>
      if r23 = (17 : Int32) then
        (gX6_endAt I (I a21 1) x2).bind fun r25 =>
        let v27 := (r25 + (1 : Int32))
        let v28 := x3 + (1 : Int32)
        gX7_entersLast_l20 σ R n I x1 v27 v28
      else
        gX7_entersLast_b64 σ R I x1 x2
      else none
theorem eX7_entersLast_l20 {σ : Shp} {R : Nat → Nat → Option Nat} (hS : Skel σ R) : ∀ (n : Nat) (I : Nat → Nat → Int32) (x1 : Option Nat) (x2 : Int32) (x3 : Int32), fX7_entersLast_l20 σ R 5 n I x1 x2 x3 = gX7_entersLast_l20 σ R n I x1 x2 x3 := by
  intro n
  induction n with
  | zero => intro I x1 x2 x3; rfl
  | succ n ih =>
    intro I x1 x2 x3
    rw [fX7_entersLast_l20, gX7_entersLast_l20]
    refine bi (fun c => ?_) (fun c => ?_)
    · exact eX7_entersLast_b64 hS
    · refine sg (kq5 hS) ?_
      refine sb (rq5_2 hS) ?_
      refine bb (fun a21 ha21 => ?_)
      refine bg (fun g22 => ?_)
      refine sg (kq9 hS) ?_
      refine bc (eX6_opAt hS) (fun r23 hc24 => ?_)
      refine bi (fun c => ?_) (fun c => ?_)
      · try with_reducible refine sg (kq5 hS) ?_
        try with_reducible refine sg (kq9 hS) ?_
        refine bc (eX6_endAt hS) (fun r25 hc26 => ?_)
        exact ih _ _ _ _
      · exact eX7_entersLast_b64 hS
def gX7_entersLast (σ : Shp) (I : Nat → Nat → Int32) (R : Nat → Nat → Option Nat) (x1 : Option Nat) : Option ((Nat → Nat → Int32) × (Int32)) :=
  (x1 : Option Nat).bind fun a1 =>
  if kdx σ a1 = 4 then
  (gX6_endAt I (I a1 1) (I a1 2)).bind fun r3 =>
  let v5 := (r3 + (1 : Int32))
  gX7_entersLast_l20 σ R FUx I x1 v5 (0 : Int32)
  else none
theorem eX7_entersLast {σ : Shp} {I : Nat → Nat → Int32} {R : Nat → Nat → Option Nat} {x1 : Option Nat} (hS : Skel σ R) : fX7_entersLast σ I R 5 x1 = gX7_entersLast σ I R x1 := by
  unfold fX7_entersLast gX7_entersLast
  refine sg (kq5 hS) ?_
  refine sb (rq5_2 hS) ?_
  refine bb (fun a1 ha1 => ?_)
  refine bg (fun g2 => ?_)
  refine sg (kq9 hS) ?_
  refine bc (eX6_endAt hS) (fun r3 hc4 => ?_)
  exact eX7_entersLast_l20 hS _ _ _ _ _
def gX7_meets_b73  (σ : Shp) (R : Nat → Nat → Option Nat) (I : Nat → Nat → Int32) (x1 : Option Nat) (x2 : Int32) : Option ((Nat → Nat → Int32) × (Int32)) :=
  let I12 := u2 I 5 10 ((I 5 10) + (1 : Int32))
  if ¬ ((1 : Int32) < 0 ∨ 6 ≤ Int32.toNatClampNeg (1 : Int32)) then
  (x1 : Option Nat).bind fun a14 =>
  if kdx σ a14 = 4 then
  let I16 := u2 I12 a14 11 (I12 25 (Int32.toNatClampNeg (1 : Int32)))
  (gX7_enterPart σ I16 (some a14) x2 (1 : Int32)).bind fun I17 =>
  some (I17, (1 : Int32))
  else none
  else none
theorem eX7_meets_b73 {σ : Shp} {I : Nat → Nat → Int32} {R : Nat → Nat → Option Nat} {x1 : Option Nat} {x2 : Int32} (hS : Skel σ R) : fX7_meets_b73 σ R 5 I x1 x2 = gX7_meets_b73 σ R I x1 x2 := by
  unfold fX7_meets_b73 gX7_meets_b73
  refine sg (kq5 hS) ?_
  try with_reducible refine sg (kq5 hS) ?_
  try with_reducible refine sg (kq5 hS) ?_
  refine sb (rq5_5 hS) ?_
  refine sg (kq25 hS) ?_
  refine bgr (by rw [lq25 hS]) (fun g13 => ?_)
  refine bb (fun a14 ha14 => ?_)
  refine bg (fun g15 => ?_)
  try with_reducible refine sg (kq5 hS) ?_
  refine bc (eX7_enterPart hS) (fun I17 hc18 => ?_)
  rfl
def gX7_meets_l20  (σ : Shp) (R : Nat → Nat → Option Nat) : Nat → (Nat → Nat → Int32) → (Option Nat) → (Int32) → (Int32) → Option ((Nat → Nat → Int32) × (Int32))
  | 0, _, _, _, _ => none
  | n + 1, I, x1, x2, x3 =>
    if (40 : Int32) ≤ x3 then
      some (I, (0 : Int32))
    else
      (x1 : Option Nat).bind fun a6 =>
      if kdx σ a6 = 4 then
      (gX6_opAt I (I a6 1) x2).bind fun r8 =>
      if r8 = (17 : Int32) then
        (gX6_aAt I (I a6 1) x2).bind fun r10 =>
        if r10 = 0 then
          gX7_meets_b73 σ R I x1 x2
        else
          if ¬ ((1 : Int32) < 0 ∨ 6 ≤ Int32.toNatClampNeg (1 : Int32)) then
          if r10 = (I 25 (Int32.toNatClampNeg (1 : Int32))) then
            gX7_meets_b73 σ R I x1 x2
          else
            (gX6_endAt I (I a6 1) x2).bind fun r20 =>
            let v22 := (r20 + (1 : Int32))
            let v23 := x3 + (1 : Int32)
            gX7_meets_l20 σ R n I x1 v22 v23
          else none
      else
        some (I, (0 : Int32))
      else none
theorem eX7_meets_l20 {σ : Shp} {R : Nat → Nat → Option Nat} (hS : Skel σ R) : ∀ (n : Nat) (I : Nat → Nat → Int32) (x1 : Option Nat) (x2 : Int32) (x3 : Int32), fX7_meets_l20 σ R 5 n I x1 x2 x3 = gX7_meets_l20 σ R n I x1 x2 x3 := by
  intro n
  induction n with
  | zero => intro I x1 x2 x3; rfl
  | succ n ih =>
    intro I x1 x2 x3
    rw [fX7_meets_l20, gX7_meets_l20]
    refine bi (fun c => ?_) (fun c => ?_)
    · rfl
    · refine sg (kq5 hS) ?_
      refine sb (rq5_2 hS) ?_
      refine bb (fun a6 ha6 => ?_)
      refine bg (fun g7 => ?_)
      refine sg (kq9 hS) ?_
      refine bc (eX6_opAt hS) (fun r8 hc9 => ?_)
      refine bi (fun c => ?_) (fun c => ?_)
      · try with_reducible refine sg (kq5 hS) ?_
        try with_reducible refine sg (kq9 hS) ?_
        refine bc (eX6_aAt hS) (fun r10 hc11 => ?_)
        refine bi (fun c => ?_) (fun c => ?_)
        · exact eX7_meets_b73 hS
        · try with_reducible refine sg (kq5 hS) ?_
          refine sb (rq5_5 hS) ?_
          refine sg (kq25 hS) ?_
          refine bgr (by rw [lq25 hS]) (fun g19 => ?_)
          refine bi (fun c => ?_) (fun c => ?_)
          · exact eX7_meets_b73 hS
          · try with_reducible refine sg (kq5 hS) ?_
            try with_reducible refine sg (kq9 hS) ?_
            refine bc (eX6_endAt hS) (fun r20 hc21 => ?_)
            exact ih _ _ _ _
      · rfl
def gX7_meets (σ : Shp) (I : Nat → Nat → Int32) (R : Nat → Nat → Option Nat) (x1 : Option Nat) : Option ((Nat → Nat → Int32) × (Int32)) :=
  (x1 : Option Nat).bind fun a1 =>
  if kdx σ a1 = 4 then
  (gX6_endAt I (I a1 1) (I a1 2)).bind fun r3 =>
  let v5 := (r3 + (1 : Int32))
  gX7_meets_l20 σ R FUx I x1 v5 (0 : Int32)
  else none
theorem eX7_meets {σ : Shp} {I : Nat → Nat → Int32} {R : Nat → Nat → Option Nat} {x1 : Option Nat} (hS : Skel σ R) : fX7_meets σ I R 5 x1 = gX7_meets σ I R x1 := by
  unfold fX7_meets gX7_meets
  refine sg (kq5 hS) ?_
  refine sb (rq5_2 hS) ?_
  refine bb (fun a1 ha1 => ?_)
  refine bg (fun g2 => ?_)
  refine sg (kq9 hS) ?_
  refine bc (eX6_endAt hS) (fun r3 hc4 => ?_)
  exact eX7_meets_l20 hS _ _ _ _ _
def gX7_settleLast_l11  (σ : Shp) (R : Nat → Nat → Option Nat) : Nat → (Nat → Nat → Int32) → (Option Nat) → (Int32) → Option ((Nat → Nat → Int32))
  | 0, _, _, _ => none
  | n + 1, I, x1, x2 =>
    if (6 : Int32) ≤ x2 then
      some I
    else
      (x1 : Option Nat).bind fun a10 =>
      if kdx σ a10 = 4 then
      ((R a10 12) : Option Nat).bind fun a12 =>
      if kdx σ a12 = 20 then
      if ¬ (x2 < 0 ∨ lnx σ a12 ≤ Int32.toNatClampNeg x2) then
      if ¬ (x2 < 0 ∨ 6 ≤ Int32.toNatClampNeg x2) then
      let I16 := u2 I 25 (Int32.toNatClampNeg x2) (I a12 (Int32.toNatClampNeg x2))
      let v17 := x2 + (1 : Int32)
      gX7_settleLast_l11 σ R n I16 x1 v17
      else none
      else none
      else none
      else none
theorem eX7_settleLast_l11 {σ : Shp} {R : Nat → Nat → Option Nat} (hS : Skel σ R) : ∀ (n : Nat) (I : Nat → Nat → Int32) (x1 : Option Nat) (x2 : Int32), fX7_settleLast_l11 σ R 5 n I x1 x2 = gX7_settleLast_l11 σ R n I x1 x2 := by
  intro n
  induction n with
  | zero => intro I x1 x2; rfl
  | succ n ih =>
    intro I x1 x2
    rw [fX7_settleLast_l11, gX7_settleLast_l11]
    refine bi (fun c => ?_) (fun c => ?_)
    · rfl
    · refine sg (kq5 hS) ?_
      refine sb (rq5_5 hS) ?_
      refine bb (fun a10 ha10 => ?_)
      refine bg (fun g11 => ?_)
      refine bb (fun a12 ha12 => ?_)
      refine bg (fun g13 => ?_)
      refine bg (fun g14 => ?_)
      refine sg (kq25 hS) ?_
      refine bgr (by rw [lq25 hS]) (fun g15 => ?_)
      exact ih _ _ _
def gX7_settleLast (σ : Shp) (I : Nat → Nat → Int32) (R : Nat → Nat → Option Nat) (x1 : Option Nat) : Option ((Nat → Nat → Int32)) :=
  if ¬ ((0 : Int32) < 0 ∨ 6 ≤ Int32.toNatClampNeg (0 : Int32)) then
  if (I 25 (Int32.toNatClampNeg (0 : Int32))) = 0 then
    gX7_settleLast_l11 σ R FUx I x1 (0 : Int32)
  else
    if (I 25 (Int32.toNatClampNeg (0 : Int32))) = (1 : Int32) then
      (x1 : Option Nat).bind fun a2 =>
      if kdx σ a2 = 4 then
      ((R a2 12) : Option Nat).bind fun a4 =>
      if kdx σ a4 = 20 then
      if ¬ ((0 : Int32) < 0 ∨ lnx σ a4 ≤ Int32.toNatClampNeg (0 : Int32)) then
      if (I a4 (Int32.toNatClampNeg (0 : Int32))) = (1 : Int32) then
        if ¬ ((1 : Int32) < 0 ∨ lnx σ a4 ≤ Int32.toNatClampNeg (1 : Int32)) then
        if ¬ ((4 : Int32) < 0 ∨ 6 ≤ Int32.toNatClampNeg (4 : Int32)) then
        let I9 := u2 I 25 (Int32.toNatClampNeg (4 : Int32)) (I a4 (Int32.toNatClampNeg (1 : Int32)))
        some I9
        else none
        else none
      else
        some I
      else none
      else none
      else none
    else
      some I
  else none
theorem eX7_settleLast {σ : Shp} {I : Nat → Nat → Int32} {R : Nat → Nat → Option Nat} {x1 : Option Nat} (hS : Skel σ R) : fX7_settleLast σ I R 5 x1 = gX7_settleLast σ I R x1 := by
  unfold fX7_settleLast gX7_settleLast
  refine sg (kq5 hS) ?_
  refine sb (rq5_5 hS) ?_
  refine sg (kq25 hS) ?_
  refine bgr (by rw [lq25 hS]) (fun g1 => ?_)
  refine bi (fun c => ?_) (fun c => ?_)
  · exact eX7_settleLast_l11 hS _ _ _ _
  · try with_reducible refine sg (kq5 hS) ?_
    try with_reducible refine sg (kq25 hS) ?_
    try with_reducible refine sg (by rw [lq25 hS]; exact g1) ?_
    refine bi (fun c => ?_) (fun c => ?_)
    · refine bb (fun a2 ha2 => ?_)
      refine bg (fun g3 => ?_)
      refine bb (fun a4 ha4 => ?_)
      refine bg (fun g5 => ?_)
      refine bg (fun g6 => ?_)
      refine bi (fun c => ?_) (fun c => ?_)
      · try with_reducible refine sg (kq5 hS) ?_
        refine bg (fun g7 => ?_)
        try with_reducible refine sg (kq25 hS) ?_
        refine bgr (by rw [lq25 hS]) (fun g8 => ?_)
        rfl
      · rfl
    · rfl
def gX7_goesOnTrying_b54  (σ : Shp) (R : Nat → Nat → Option Nat) (I : Nat → Nat → Int32) (x1 : Option Nat) : Option ((Nat → Nat → Int32) × (Int32)) :=
  (x1 : Option Nat).bind fun a4 =>
  if kdx σ a4 = 4 then
  if (I a4 8) = (1 : Int32) then
    if ¬ ((0 : Int32) < 0 ∨ 6 ≤ Int32.toNatClampNeg (0 : Int32)) then
    if (I 25 (Int32.toNatClampNeg (0 : Int32))) = (1 : Int32) then
      if ¬ ((4 : Int32) < 0 ∨ 6 ≤ Int32.toNatClampNeg (4 : Int32)) then
      let I16 := u2 I 25 (Int32.toNatClampNeg (4 : Int32)) (I a4 11)
      (gX7_entersLast σ I16 R (some a4)).bind fun (I17, r18) =>
      if r18 = 0 ∨ r18 = 1 then
      some (I17, r18)
      else none
      else none
    else
      (gX7_entersLast σ I R (some a4)).bind fun (I11, r12) =>
      if r12 = 0 ∨ r12 = 1 then
      some (I11, r12)
      else none
    else none
  else
    (gX7_entersLast σ I R (some a4)).bind fun (I6, r7) =>
    if r7 = 0 ∨ r7 = 1 then
    some (I6, r7)
    else none
  else none
theorem eX7_goesOnTrying_b54 {σ : Shp} {I : Nat → Nat → Int32} {R : Nat → Nat → Option Nat} {x1 : Option Nat} (hS : Skel σ R) : fX7_goesOnTrying_b54 σ R 5 I x1 = gX7_goesOnTrying_b54 σ R I x1 := by
  unfold fX7_goesOnTrying_b54 gX7_goesOnTrying_b54
  refine bb (fun a4 ha4 => ?_)
  refine bg (fun g5 => ?_)
  refine bi (fun c => ?_) (fun c => ?_)
  · refine sg (kq5 hS) ?_
    refine sb (rq5_5 hS) ?_
    refine sg (kq25 hS) ?_
    refine bgr (by rw [lq25 hS]) (fun g10 => ?_)
    refine bi (fun c => ?_) (fun c => ?_)
    · try with_reducible refine sg (kq5 hS) ?_
      try with_reducible refine sg (kq25 hS) ?_
      refine bgr (by rw [lq25 hS]) (fun g15 => ?_)
      try with_reducible refine sg (kq5 hS) ?_
      refine bc (eX7_entersLast hS) (fun pp hc19 => ?_)
      obtain ⟨I17, r18⟩ := pp
      refine bg (fun g20 => ?_)
      rfl
    · try with_reducible refine sg (kq5 hS) ?_
      refine bc (eX7_entersLast hS) (fun pp hc13 => ?_)
      obtain ⟨I11, r12⟩ := pp
      refine bg (fun g14 => ?_)
      rfl
  · refine sg (kq5 hS) ?_
    refine bc (eX7_entersLast hS) (fun pp hc8 => ?_)
    obtain ⟨I6, r7⟩ := pp
    refine bg (fun g9 => ?_)
    rfl
def gX7_goesOnTrying (σ : Shp) (I : Nat → Nat → Int32) (R : Nat → Nat → Option Nat) (x1 : Option Nat) : Option ((Nat → Nat → Int32) × (Int32)) :=
  if ¬ ((0 : Int32) < 0 ∨ 6 ≤ Int32.toNatClampNeg (0 : Int32)) then
  if (I 25 (Int32.toNatClampNeg (0 : Int32))) = (3 : Int32) then
    some (I, (0 : Int32))
  else
    (x1 : Option Nat).bind fun a2 =>
    if kdx σ a2 = 4 then
    if (I a2 8) = (2 : Int32) then
      (gX7_settleLast σ I R (some a2)).bind fun I24 =>
      some (I24, (0 : Int32))
    else
      if (I a2 8) = 0 then
        if (I 25 (Int32.toNatClampNeg (0 : Int32))) = (1 : Int32) then
          (gX7_meets σ I R (some a2)).bind fun (I21, r22) =>
          if r22 = 0 then
            gX7_goesOnTrying_b54 σ R I21 x1
          else
            some (I21, (1 : Int32))
        else
          gX7_goesOnTrying_b54 σ R I x1
      else
        gX7_goesOnTrying_b54 σ R I x1
    else none
  else none
theorem eX7_goesOnTrying {σ : Shp} {I : Nat → Nat → Int32} {R : Nat → Nat → Option Nat} {x1 : Option Nat} (hS : Skel σ R) : fX7_goesOnTrying σ I R 5 x1 = gX7_goesOnTrying σ I R x1 := by
  unfold fX7_goesOnTrying gX7_goesOnTrying
  refine sg (kq5 hS) ?_
  refine sb (rq5_5 hS) ?_
  refine sg (kq25 hS) ?_
  refine bgr (by rw [lq25 hS]) (fun g1 => ?_)
  refine bi (fun c => ?_) (fun c => ?_)
  · rfl
  · refine bb (fun a2 ha2 => ?_)
    refine bg (fun g3 => ?_)
    refine bi (fun c => ?_) (fun c => ?_)
    · try with_reducible refine sg (kq5 hS) ?_
      refine bc (eX7_settleLast hS) (fun I24 hc25 => ?_)
      rfl
    · refine bi (fun c => ?_) (fun c => ?_)
      · try with_reducible refine sg (kq5 hS) ?_
        try with_reducible refine sg (kq25 hS) ?_
        try with_reducible refine sg (by rw [lq25 hS]; exact g1) ?_
        refine bi (fun c => ?_) (fun c => ?_)
        · try with_reducible refine sg (kq5 hS) ?_
          refine bc (eX7_meets hS) (fun pp hc23 => ?_)
          obtain ⟨I21, r22⟩ := pp
          refine bi (fun c => ?_) (fun c => ?_)
          · exact eX7_goesOnTrying_b54 hS
          · rfl
        · exact eX7_goesOnTrying_b54 hS
      · exact eX7_goesOnTrying_b54 hS
def gX7_top (I : Nat → Nat → Int32) (R : Nat → Nat → Option Nat) : Option ((Option Nat)) :=
  if (I 5 6) ≤ 0 then
    some none
  else
    if (160 : Int32) < (I 5 6) then
      some none
    else
      if ¬ (((I 5 6) - (1 : Int32)) < 0 ∨ 160 ≤ Int32.toNatClampNeg ((I 5 6) - (1 : Int32))) then
      some (R 24 (Int32.toNatClampNeg ((I 5 6) - (1 : Int32))))
      else none
theorem eX7_top {σ : Shp} {I : Nat → Nat → Int32} {R : Nat → Nat → Option Nat}  (hS : Skel σ R) : fX7_top σ I R 5 = gX7_top I R := by
  unfold fX7_top gX7_top
  refine sg (kq5 hS) ?_
  refine bi (fun c => ?_) (fun c => ?_)
  · rfl
  · try with_reducible refine sg (kq5 hS) ?_
    refine bi (fun c => ?_) (fun c => ?_)
    · rfl
    · try with_reducible refine sg (kq5 hS) ?_
      refine sb (rq5_4 hS) ?_
      try with_reducible refine sg (kq5 hS) ?_
      refine sg (kq24 hS) ?_
      refine bgr (by rw [lq24 hS]) (fun g1 => ?_)
      rfl
def gX7_lookAgain (σ : Shp) (I : Nat → Nat → Int32) (R : Nat → Nat → Option Nat) (x1 : Int32) : Option ((Nat → Nat → Int32)) :=
  (gX7_top I R).bind fun r1 =>
  onl r1
    (
      some I)
    (fun a3 =>
      if kdx σ a3 = 4 then
      let I5 := u2 I a3 3 x1
      some I5
      else none)
theorem eX7_lookAgain {σ : Shp} {I : Nat → Nat → Int32} {R : Nat → Nat → Option Nat} {x1 : Int32} (hS : Skel σ R) : fX7_lookAgain σ I R 5 x1 = gX7_lookAgain σ I R x1 := by
  unfold fX7_lookAgain gX7_lookAgain
  refine sg (kq5 hS) ?_
  refine bc (eX7_top hS) (fun r1 hc2 => ?_)
  refine bo (fun ea3 => ?_) (fun a3 ha3 => ?_)
  · rfl
  · refine bg (fun g4 => ?_)
    rfl
def gX8_noteChange (σ : Shp) (I : Nat → Nat → Int32) (J : Nat → Nat → Int64) (R : Nat → Nat → Option Nat) (x1 : Option Nat) (x2 : Int32) (x3 : Int64) : Option ((Nat → Nat → Int32) × (Nat → Nat → Int64) × (Nat → Nat → Option Nat)) :=
  if (640 : Int32) ≤ (I 17 6) then
    some (I, J, R)
  else
    if ¬ ((I 17 6) < 0 ∨ 640 ≤ Int32.toNatClampNeg (I 17 6)) then
    if okR σ 11 x1 = true then
    let R3 := u2 R 21 (Int32.toNatClampNeg (I 17 6)) x1
    if ¬ ((I 17 6) < 0 ∨ 640 ≤ Int32.toNatClampNeg (I 17 6)) then
    let I5 := u2 I 22 (Int32.toNatClampNeg (I 17 6)) x2
    if ¬ ((I5 17 6) < 0 ∨ 640 ≤ Int32.toNatClampNeg (I5 17 6)) then
    let J7 := u2 J 23 (Int32.toNatClampNeg (I5 17 6)) x3
    let I8 := u2 I5 17 6 ((I5 17 6) + (1 : Int32))
    some (I8, J7, R3)
    else none
    else none
    else none
    else none
theorem pX8_noteChange {σ : Shp} {I : Nat → Nat → Int32} {J : Nat → Nat → Int64} {R : Nat → Nat → Option Nat} {x1 : Option Nat} {x2 : Int32} {x3 : Int64} {I9 : Nat → Nat → Int32} {J9 : Nat → Nat → Int64} {R9 : Nat → Nat → Option Nat} (hS : Skel σ R) (h : gX8_noteChange σ I J R x1 x2 x3 = some (I9, J9, R9)) : Skel σ R9 := by
  unfold gX8_noteChange at h
  rcases itc h with ⟨c, h⟩ | ⟨c, h⟩
  · cases h
    exact hS
  · obtain ⟨g1, h⟩ := gd h
    obtain ⟨g2, h⟩ := gd h
    let R3 := u2 R 21 (Int32.toNatClampNeg (I 17 6)) x1
    have hS := hS.setR (k := (Int32.toNatClampNeg (I 17 6))) (v := x1) (Or.inl (kq21 hS))
    obtain ⟨g4, h⟩ := gd h
    let I5 := u2 I 22 (Int32.toNatClampNeg (I 17 6)) x2
    obtain ⟨g6, h⟩ := gd h
    let J7 := u2 J 23 (Int32.toNatClampNeg (I5 17 6)) x3
    let I8 := u2 I5 17 6 ((I5 17 6) + (1 : Int32))
    cases h
    exact hS
theorem eX8_noteChange {σ : Shp} {I : Nat → Nat → Int32} {J : Nat → Nat → Int64} {R : Nat → Nat → Option Nat} {x1 : Option Nat} {x2 : Int32} {x3 : Int64} (hS : Skel σ R) : fX8_noteChange σ I J R 17 x1 x2 x3 = gX8_noteChange σ I J R x1 x2 x3 := by
  unfold fX8_noteChange gX8_noteChange
  refine sg (kq17 hS) ?_
  refine bi (fun c => ?_) (fun c => ?_)
  · rfl
  · try with_reducible refine sg (kq17 hS) ?_
    refine sb (rq17_3 hS) ?_
    try with_reducible refine sg (kq17 hS) ?_
    refine sg (kq21 hS) ?_
    refine bgr (by rw [lq21 hS]) (fun g1 => ?_)
    refine bg (fun g2 => ?_)
    let R3 := u2 R 21 (Int32.toNatClampNeg (I 17 6)) x1
    have hS := hS.setR (k := (Int32.toNatClampNeg (I 17 6))) (v := x1) (Or.inl (kq21 hS))
    try with_reducible refine sg (kq17 hS) ?_
    refine sb (rq17_4 hS) ?_
    try with_reducible refine sg (kq17 hS) ?_
    refine sg (kq22 hS) ?_
    refine bgr (by rw [lq22 hS]) (fun g4 => ?_)
    let I5 := u2 I 22 (Int32.toNatClampNeg (I 17 6)) x2
    try with_reducible refine sg (kq17 hS) ?_
    refine sb (rq17_5 hS) ?_
    try with_reducible refine sg (kq17 hS) ?_
    refine sg (kq23 hS) ?_
    refine bgr (by rw [lq23 hS]) (fun g6 => ?_)
    let J7 := u2 J 23 (Int32.toNatClampNeg (I5 17 6)) x3
    try with_reducible refine sg (kq17 hS) ?_
    try with_reducible refine sg (kq17 hS) ?_
    let I8 := u2 I5 17 6 ((I5 17 6) + (1 : Int32))
    rfl
def gX8_changeStock (σ : Shp) (I : Nat → Nat → Int32) (J : Nat → Nat → Int64) (R : Nat → Nat → Option Nat) (x1 : Int32) (x2 : Int64) : Option ((Nat → Nat → Int32) × (Nat → Nat → Int64) × (Nat → Nat → Option Nat)) :=
  if x1 < 0 then
    some (I, J, R)
  else
    if x1 < (6 : Int32) then
      if ¬ (x1 < 0 ∨ 6 ≤ Int32.toNatClampNeg x1) then
      (gX8_noteChange σ I J R none x1 (J 18 (Int32.toNatClampNeg x1))).bind fun (I2, J3, R4) =>
      let J6 := u2 J3 18 (Int32.toNatClampNeg x1) x2
      some (I2, J6, R4)
      else none
    else
      some (I, J, R)
theorem pX8_changeStock {σ : Shp} {I : Nat → Nat → Int32} {J : Nat → Nat → Int64} {R : Nat → Nat → Option Nat} {x1 : Int32} {x2 : Int64} {I9 : Nat → Nat → Int32} {J9 : Nat → Nat → Int64} {R9 : Nat → Nat → Option Nat} (hS : Skel σ R) (h : gX8_changeStock σ I J R x1 x2 = some (I9, J9, R9)) : Skel σ R9 := by
  unfold gX8_changeStock at h
  rcases itc h with ⟨c, h⟩ | ⟨c, h⟩
  · cases h
    exact hS
  · rcases itc h with ⟨c, h⟩ | ⟨c, h⟩
    · obtain ⟨g1, h⟩ := gd h
      obtain ⟨⟨I2, J3, R4⟩, hc5, h⟩ := ob h
      have hS := pX8_noteChange hS hc5
      let J6 := u2 J3 18 (Int32.toNatClampNeg x1) x2
      cases h
      exact hS
    · cases h
      exact hS
theorem eX8_changeStock {σ : Shp} {I : Nat → Nat → Int32} {J : Nat → Nat → Int64} {R : Nat → Nat → Option Nat} {x1 : Int32} {x2 : Int64} (hS : Skel σ R) : fX8_changeStock σ I J R 17 x1 x2 = gX8_changeStock σ I J R x1 x2 := by
  unfold fX8_changeStock gX8_changeStock
  refine bi (fun c => ?_) (fun c => ?_)
  · rfl
  · refine bi (fun c => ?_) (fun c => ?_)
    · refine sg (kq17 hS) ?_
      refine sb (rq17_0 hS) ?_
      refine sg (kq18 hS) ?_
      refine bgr (by rw [lq18 hS]) (fun g1 => ?_)
      try with_reducible refine sg (kq17 hS) ?_
      refine bc (eX8_noteChange hS) (fun pp hc5 => ?_)
      obtain ⟨I2, J3, R4⟩ := pp
      have hS := pX8_noteChange hS hc5
      try with_reducible refine sg (kq17 hS) ?_
      refine sb (rq17_0 hS) ?_
      try with_reducible refine sg (kq18 hS) ?_
      try with_reducible refine sg (by rw [lq18 hS]; exact g1) ?_
      let J6 := u2 J3 18 (Int32.toNatClampNeg x1) x2
      rfl
    · rfl
def gX7_leave_b169  (σ : Shp) (I : Nat → Nat → Int32) (J : Nat → Nat → Int64) (R : Nat → Nat → Option Nat) (x1 : Option Nat) : Option ((Nat → Nat → Int32) × (Nat → Nat → Int64) × (Nat → Nat → Option Nat)) :=
  let I16 := u2 I 5 6 ((I 5 6) - (1 : Int32))
  (x1 : Option Nat).bind fun a17 =>
  if kdx σ a17 = 4 then
  if (I16 a17 0) = (20 : Int32) then
    if ¬ ((0 : Int32) < 0 ∨ 6 ≤ Int32.toNatClampNeg (0 : Int32)) then
    if (I16 25 (Int32.toNatClampNeg (0 : Int32))) = 0 then
      (gX7_lookAgain σ I16 R (I16 a17 2)).bind fun I20 =>
      some (I20, J, R)
    else
      some (I16, J, R)
    else none
  else
    some (I16, J, R)
  else none
theorem eX7_leave_b169 {σ : Shp} {I : Nat → Nat → Int32} {J : Nat → Nat → Int64} {R : Nat → Nat → Option Nat} {x1 : Option Nat} (hS : Skel σ R) : fX7_leave_b169 σ 5 I J R x1 = gX7_leave_b169 σ I J R x1 := by
  unfold fX7_leave_b169 gX7_leave_b169
  refine sg (kq5 hS) ?_
  try with_reducible refine sg (kq5 hS) ?_
  let I16 := u2 I 5 6 ((I 5 6) - (1 : Int32))
  refine bb (fun a17 ha17 => ?_)
  refine bg (fun g18 => ?_)
  refine bi (fun c => ?_) (fun c => ?_)
  · try with_reducible refine sg (kq5 hS) ?_
    refine sb (rq5_5 hS) ?_
    refine sg (kq25 hS) ?_
    refine bgr (by rw [lq25 hS]) (fun g19 => ?_)
    refine bi (fun c => ?_) (fun c => ?_)
    · try with_reducible refine sg (kq5 hS) ?_
      refine bc (eX7_lookAgain hS) (fun I20 hc21 => ?_)
      rfl
    · rfl
  · rfl
theorem pX7_leave_b169 {σ : Shp} {I : Nat → Nat → Int32} {J : Nat → Nat → Int64} {R : Nat → Nat → Option Nat} {x1 : Option Nat} {I9 : Nat → Nat → Int32} {J9 : Nat → Nat → Int64} {R9 : Nat → Nat → Option Nat} (hS : Skel σ R) (h : gX7_leave_b169 σ I J R x1 = some (I9, J9, R9)) : Skel σ R9 := by
  unfold gX7_leave_b169 at h
  let I16 := u2 I 5 6 ((I 5 6) - (1 : Int32))
  obtain ⟨a17, ha17, h⟩ := ob h
  obtain ⟨g18, h⟩ := gd h
  rcases itc h with ⟨c, h⟩ | ⟨c, h⟩
  · obtain ⟨g19, h⟩ := gd h
    rcases itc h with ⟨c, h⟩ | ⟨c, h⟩
    · obtain ⟨I20, hc21, h⟩ := ob h
      cases h
      exact hS
    · cases h
      exact hS
  · cases h
    exact hS
def gX7_leave (σ : Shp) (I : Nat → Nat → Int32) (J : Nat → Nat → Int64) (R : Nat → Nat → Option Nat) (x1 : Option Nat) : Option ((Nat → Nat → Int32) × (Nat → Nat → Int64) × (Nat → Nat → Option Nat)) :=
  (x1 : Option Nat).bind fun a1 =>
  if kdx σ a1 = 4 then
  let v3 := (I a1 5)
  if (I a1 0) = (10 : Int32) then
    let I44 := u2 I 5 8 ((I 5 8) - (1 : Int32))
    gX7_leave_b169 σ I44 J R x1
  else
  if (I a1 0) = (11 : Int32) then
    if ¬ (v3 < 0 ∨ 3 ≤ Int32.toNatClampNeg v3) then
    let I43 := u2 I 20 (Int32.toNatClampNeg v3) ((I 20 (Int32.toNatClampNeg v3)) - (1 : Int32))
    gX7_leave_b169 σ I43 J R x1
    else none
  else
  if (I a1 0) = (12 : Int32) then
    if ¬ (v3 < 0 ∨ 6 ≤ Int32.toNatClampNeg v3) then
    (gX8_changeStock σ I J R v3 ((J 18 (Int32.toNatClampNeg v3)) + (Int32.toInt64 (I a1 6)))).bind fun (I38, J39, R40) =>
    gX7_leave_b169 σ I38 J39 R40 x1
    else none
  else
  if (I a1 0) = (13 : Int32) then
    if ¬ (v3 < 0 ∨ 3 ≤ Int32.toNatClampNeg v3) then
    let I36 := u2 I 19 (Int32.toNatClampNeg v3) (I a1 7)
    gX7_leave_b169 σ I36 J R x1
    else none
  else
  if (I a1 0) = (14 : Int32) then
    (gX7_undoFaulted σ I J R (some a1)).bind fun (I32, J33) =>
    gX7_leave_b169 σ I32 J33 R x1
  else
  if (I a1 0) = (15 : Int32) then
    (gX7_goesAgain σ I J R (some a1)).bind fun (I28, J29, r30) =>
    if r30 = 0 then
      gX7_leave_b169 σ I28 J29 R x1
    else
      some (I28, J29, R)
  else
  if (I a1 0) = (16 : Int32) then
    (gX7_goesOnTrying σ I R (some a1)).bind fun (I25, r26) =>
    if r26 = 0 then
      gX7_leave_b169 σ I25 J R x1
    else
      some (I25, J, R)
  else
  if (I a1 0) = (17 : Int32) then
    gX7_leave_b169 σ I J R x1
  else
  if (I a1 0) = (18 : Int32) then
    gX7_leave_b169 σ I J R x1
  else
  if (I a1 0) = (19 : Int32) then
    gX7_leave_b169 σ I J R x1
  else
  if (I a1 0) = (20 : Int32) then
    gX7_leave_b169 σ I J R x1
  else
  if (I a1 0) = (21 : Int32) then
    (gX7_undoFaulted σ I J R (some a1)).bind fun (I22, J23) =>
    gX7_leave_b169 σ I22 J23 R x1
  else
  gX7_leave_b169 σ I J R x1
  else none
theorem pX7_leave {σ : Shp} {I : Nat → Nat → Int32} {J : Nat → Nat → Int64} {R : Nat → Nat → Option Nat} {x1 : Option Nat} {I9 : Nat → Nat → Int32} {J9 : Nat → Nat → Int64} {R9 : Nat → Nat → Option Nat} (hS : Skel σ R) (h : gX7_leave σ I J R x1 = some (I9, J9, R9)) : Skel σ R9 := by
  unfold gX7_leave at h
  obtain ⟨a1, ha1, h⟩ := ob h
  obtain ⟨g2, h⟩ := gd h
  let v3 := (I a1 5)
  rcases itc h with ⟨c, h⟩ | ⟨c, h⟩
  · let I44 := u2 I 5 8 ((I 5 8) - (1 : Int32))
    exact pX7_leave_b169 hS h
  · rcases itc h with ⟨c, h⟩ | ⟨c, h⟩
    · obtain ⟨g42, h⟩ := gd h
      let I43 := u2 I 20 (Int32.toNatClampNeg v3) ((I 20 (Int32.toNatClampNeg v3)) - (1 : Int32))
      exact pX7_leave_b169 hS h
    · rcases itc h with ⟨c, h⟩ | ⟨c, h⟩
      · obtain ⟨g37, h⟩ := gd h
        obtain ⟨⟨I38, J39, R40⟩, hc41, h⟩ := ob h
        have hS := pX8_changeStock hS hc41
        exact pX7_leave_b169 hS h
      · rcases itc h with ⟨c, h⟩ | ⟨c, h⟩
        · obtain ⟨g35, h⟩ := gd h
          let I36 := u2 I 19 (Int32.toNatClampNeg v3) (I a1 7)
          exact pX7_leave_b169 hS h
        · rcases itc h with ⟨c, h⟩ | ⟨c, h⟩
          · obtain ⟨⟨I32, J33⟩, hc34, h⟩ := ob h
            exact pX7_leave_b169 hS h
          · rcases itc h with ⟨c, h⟩ | ⟨c, h⟩
            · obtain ⟨⟨I28, J29, r30⟩, hc31, h⟩ := ob h
              rcases itc h with ⟨c, h⟩ | ⟨c, h⟩
              · exact pX7_leave_b169 hS h
              · cases h
                exact hS
            · rcases itc h with ⟨c, h⟩ | ⟨c, h⟩
              · obtain ⟨⟨I25, r26⟩, hc27, h⟩ := ob h
                rcases itc h with ⟨c, h⟩ | ⟨c, h⟩
                · exact pX7_leave_b169 hS h
                · cases h
                  exact hS
              · rcases itc h with ⟨c, h⟩ | ⟨c, h⟩
                · exact pX7_leave_b169 hS h
                · rcases itc h with ⟨c, h⟩ | ⟨c, h⟩
                  · exact pX7_leave_b169 hS h
                  · rcases itc h with ⟨c, h⟩ | ⟨c, h⟩
                    · exact pX7_leave_b169 hS h
                    · rcases itc h with ⟨c, h⟩ | ⟨c, h⟩
                      · exact pX7_leave_b169 hS h
                      · rcases itc h with ⟨c, h⟩ | ⟨c, h⟩
                        · obtain ⟨⟨I22, J23⟩, hc24, h⟩ := ob h
                          exact pX7_leave_b169 hS h
                        · exact pX7_leave_b169 hS h
theorem eX7_leave {σ : Shp} {I : Nat → Nat → Int32} {J : Nat → Nat → Int64} {R : Nat → Nat → Option Nat} {x1 : Option Nat} (hS : Skel σ R) : fX7_leave σ I J R 5 x1 = gX7_leave σ I J R x1 := by
  unfold fX7_leave gX7_leave
  refine bb (fun a1 ha1 => ?_)
  refine bg (fun g2 => ?_)
  let v3 := (I a1 5)
  refine bi (fun c => ?_) (fun c => ?_)
  · refine sg (kq5 hS) ?_
    try with_reducible refine sg (kq5 hS) ?_
    let I44 := u2 I 5 8 ((I 5 8) - (1 : Int32))
    exact eX7_leave_b169 hS
  · refine bi (fun c => ?_) (fun c => ?_)
    · refine sg (kq5 hS) ?_
      refine sb (rq5_3 hS) ?_
      refine sg (kq17 hS) ?_
      refine sb (rq17_2 hS) ?_
      refine sg (kq20 hS) ?_
      refine bgr (by rw [lq20 hS]) (fun g42 => ?_)
      try with_reducible refine sg (kq20 hS) ?_
      try with_reducible refine sg (by rw [lq20 hS]; exact g42) ?_
      let I43 := u2 I 20 (Int32.toNatClampNeg v3) ((I 20 (Int32.toNatClampNeg v3)) - (1 : Int32))
      exact eX7_leave_b169 hS
    · refine bi (fun c => ?_) (fun c => ?_)
      · refine sg (kq5 hS) ?_
        refine sb (rq5_3 hS) ?_
        try with_reducible refine sg (kq5 hS) ?_
        refine sg (kq17 hS) ?_
        refine sb (rq17_0 hS) ?_
        refine sg (kq18 hS) ?_
        refine bgr (by rw [lq18 hS]) (fun g37 => ?_)
        try with_reducible refine sg (kq17 hS) ?_
        refine bc (eX8_changeStock hS) (fun pp hc41 => ?_)
        obtain ⟨I38, J39, R40⟩ := pp
        have hS := pX8_changeStock hS hc41
        exact eX7_leave_b169 hS
      · refine bi (fun c => ?_) (fun c => ?_)
        · refine sg (kq5 hS) ?_
          refine sb (rq5_3 hS) ?_
          refine sg (kq17 hS) ?_
          refine sb (rq17_1 hS) ?_
          refine sg (kq19 hS) ?_
          refine bgr (by rw [lq19 hS]) (fun g35 => ?_)
          let I36 := u2 I 19 (Int32.toNatClampNeg v3) (I a1 7)
          exact eX7_leave_b169 hS
        · refine bi (fun c => ?_) (fun c => ?_)
          · refine sg (kq5 hS) ?_
            refine bc (eX7_undoFaulted hS) (fun pp hc34 => ?_)
            obtain ⟨I32, J33⟩ := pp
            exact eX7_leave_b169 hS
          · refine bi (fun c => ?_) (fun c => ?_)
            · refine sg (kq5 hS) ?_
              refine bc (eX7_goesAgain hS) (fun pp hc31 => ?_)
              obtain ⟨I28, J29, r30⟩ := pp
              refine bi (fun c => ?_) (fun c => ?_)
              · exact eX7_leave_b169 hS
              · rfl
            · refine bi (fun c => ?_) (fun c => ?_)
              · refine sg (kq5 hS) ?_
                refine bc (eX7_goesOnTrying hS) (fun pp hc27 => ?_)
                obtain ⟨I25, r26⟩ := pp
                refine bi (fun c => ?_) (fun c => ?_)
                · exact eX7_leave_b169 hS
                · rfl
              · refine bi (fun c => ?_) (fun c => ?_)
                · exact eX7_leave_b169 hS
                · refine bi (fun c => ?_) (fun c => ?_)
                  · exact eX7_leave_b169 hS
                  · refine bi (fun c => ?_) (fun c => ?_)
                    · exact eX7_leave_b169 hS
                    · refine bi (fun c => ?_) (fun c => ?_)
                      · exact eX7_leave_b169 hS
                      · refine bi (fun c => ?_) (fun c => ?_)
                        · refine sg (kq5 hS) ?_
                          refine bc (eX7_undoFaulted hS) (fun pp hc24 => ?_)
                          obtain ⟨I22, J23⟩ := pp
                          exact eX7_leave_b169 hS
                        · exact eX7_leave_b169 hS
def gX7_arise (I : Nat → Nat → Int32) (x1 : Int32) (x2 : Int32) : Option ((Nat → Nat → Int32)) :=
  let I1 := u2 I 5 13 ((I 5 13) + (1 : Int32))
  if ¬ ((0 : Int32) < 0 ∨ 6 ≤ Int32.toNatClampNeg (0 : Int32)) then
  let I3 := u2 I1 25 (Int32.toNatClampNeg (0 : Int32)) (1 : Int32)
  if ¬ ((1 : Int32) < 0 ∨ 6 ≤ Int32.toNatClampNeg (1 : Int32)) then
  let I5 := u2 I3 25 (Int32.toNatClampNeg (1 : Int32)) x1
  if ¬ ((2 : Int32) < 0 ∨ 6 ≤ Int32.toNatClampNeg (2 : Int32)) then
  let I7 := u2 I5 25 (Int32.toNatClampNeg (2 : Int32)) x2
  if ¬ ((3 : Int32) < 0 ∨ 6 ≤ Int32.toNatClampNeg (3 : Int32)) then
  let I9 := u2 I7 25 (Int32.toNatClampNeg (3 : Int32)) (I7 5 7)
  if ¬ ((4 : Int32) < 0 ∨ 6 ≤ Int32.toNatClampNeg (4 : Int32)) then
  let I11 := u2 I9 25 (Int32.toNatClampNeg (4 : Int32)) (0 : Int32)
  some I11
  else none
  else none
  else none
  else none
  else none
theorem eX7_arise {σ : Shp} {I : Nat → Nat → Int32} {R : Nat → Nat → Option Nat} {x1 : Int32} {x2 : Int32} (hS : Skel σ R) : fX7_arise σ I R 5 x1 x2 = gX7_arise I x1 x2 := by
  unfold fX7_arise gX7_arise
  refine sg (kq5 hS) ?_
  try with_reducible refine sg (kq5 hS) ?_
  try with_reducible refine sg (kq5 hS) ?_
  refine sb (rq5_5 hS) ?_
  refine sg (kq25 hS) ?_
  refine bgr (by rw [lq25 hS]) (fun g2 => ?_)
  try with_reducible refine sg (kq5 hS) ?_
  try with_reducible refine sg (kq25 hS) ?_
  refine bgr (by rw [lq25 hS]) (fun g4 => ?_)
  try with_reducible refine sg (kq5 hS) ?_
  try with_reducible refine sg (kq25 hS) ?_
  refine bgr (by rw [lq25 hS]) (fun g6 => ?_)
  try with_reducible refine sg (kq5 hS) ?_
  try with_reducible refine sg (kq5 hS) ?_
  try with_reducible refine sg (kq25 hS) ?_
  refine bgr (by rw [lq25 hS]) (fun g8 => ?_)
  try with_reducible refine sg (kq5 hS) ?_
  try with_reducible refine sg (kq25 hS) ?_
  refine bgr (by rw [lq25 hS]) (fun g10 => ?_)
  rfl
def gX7_askPlant (σ : Shp) (I : Nat → Nat → Int32) (J : Nat → Nat → Int64) (R : Nat → Nat → Option Nat) (x1 : Int32) (x2 : Int32) (x3 : Int32) : Option ((Nat → Nat → Int32) × (Nat → Nat → Int64) × (Nat → Nat → Option Nat)) :=
  if x2 < 0 then
    (gX7_arise I (2 : Int32) (0 : Int32)).bind fun I1 =>
    some (I1, J, R)
  else
    if (3 : Int32) < x2 then
      (gX7_arise I (2 : Int32) (0 : Int32)).bind fun I3 =>
      some (I3, J, R)
    else
      if (fX11_isStock x3) = 0 then
        (gX7_arise I (2 : Int32) (0 : Int32)).bind fun I17 =>
        some (I17, J, R)
      else
        (gX0_beginAsk I).bind fun I5 =>
        if ¬ (x1 < 0 ∨ 16 ≤ Int32.toNatClampNeg x1) then
        (gX0_tell σ I5 R (R 6 (Int32.toNatClampNeg x1)) x2).bind fun (I8, r9) =>
        if (I8 7 2) = 0 then
          (gX8_changeStock σ I8 J R x3 (Int32.toInt64 r9)).bind fun (I11, J12, R13) =>
          some (I11, J12, R13)
        else
          (gX7_arise I8 (I8 7 2) (0 : Int32)).bind fun I15 =>
          some (I15, J, R)
        else none
theorem pX7_askPlant {σ : Shp} {I : Nat → Nat → Int32} {J : Nat → Nat → Int64} {R : Nat → Nat → Option Nat} {x1 : Int32} {x2 : Int32} {x3 : Int32} {I9 : Nat → Nat → Int32} {J9 : Nat → Nat → Int64} {R9 : Nat → Nat → Option Nat} (hS : Skel σ R) (h : gX7_askPlant σ I J R x1 x2 x3 = some (I9, J9, R9)) : Skel σ R9 := by
  unfold gX7_askPlant at h
  rcases itc h with ⟨c, h⟩ | ⟨c, h⟩
  · obtain ⟨I1, hc2, h⟩ := ob h
    cases h
    exact hS
  · rcases itc h with ⟨c, h⟩ | ⟨c, h⟩
    · obtain ⟨I3, hc4, h⟩ := ob h
      cases h
      exact hS
    · rcases itc h with ⟨c, h⟩ | ⟨c, h⟩
      · obtain ⟨I17, hc18, h⟩ := ob h
        cases h
        exact hS
      · obtain ⟨I5, hc6, h⟩ := ob h
        obtain ⟨g7, h⟩ := gd h
        obtain ⟨⟨I8, r9⟩, hc10, h⟩ := ob h
        rcases itc h with ⟨c, h⟩ | ⟨c, h⟩
        · obtain ⟨⟨I11, J12, R13⟩, hc14, h⟩ := ob h
          have hS := pX8_changeStock hS hc14
          cases h
          exact hS
        · obtain ⟨I15, hc16, h⟩ := ob h
          cases h
          exact hS
theorem eX7_askPlant {σ : Shp} {I : Nat → Nat → Int32} {J : Nat → Nat → Int64} {R : Nat → Nat → Option Nat} {x1 : Int32} {x2 : Int32} {x3 : Int32} (hS : Skel σ R) : fX7_askPlant σ I J R 5 x1 x2 x3 = gX7_askPlant σ I J R x1 x2 x3 := by
  unfold fX7_askPlant gX7_askPlant
  refine bi (fun c => ?_) (fun c => ?_)
  · refine sg (kq5 hS) ?_
    refine bc (eX7_arise hS) (fun I1 hc2 => ?_)
    rfl
  · refine bi (fun c => ?_) (fun c => ?_)
    · refine sg (kq5 hS) ?_
      refine bc (eX7_arise hS) (fun I3 hc4 => ?_)
      rfl
    · refine bi (fun c => ?_) (fun c => ?_)
      · refine sg (kq5 hS) ?_
        refine bc (eX7_arise hS) (fun I17 hc18 => ?_)
        rfl
      · refine sg (kq5 hS) ?_
        refine sb (rq5_1 hS) ?_
        refine sg (kq7 hS) ?_
        refine bc (eX0_beginAsk hS) (fun I5 hc6 => ?_)
        try with_reducible refine sg (kq5 hS) ?_
        try with_reducible refine sg (kq5 hS) ?_
        refine sb (rq5_0 hS) ?_
        refine sg (kq6 hS) ?_
        refine bgr (by rw [lq6 hS]) (fun g7 => ?_)
        try with_reducible refine sg (kq7 hS) ?_
        refine bc (eX0_tell hS) (fun pp hc10 => ?_)
        obtain ⟨I8, r9⟩ := pp
        try with_reducible refine sg (kq5 hS) ?_
        try with_reducible refine sg (kq7 hS) ?_
        refine bi (fun c => ?_) (fun c => ?_)
        · try with_reducible refine sg (kq5 hS) ?_
          refine sb (rq5_3 hS) ?_
          refine sg (kq17 hS) ?_
          refine bc (eX8_changeStock hS) (fun pp hc14 => ?_)
          obtain ⟨I11, J12, R13⟩ := pp
          have hS := pX8_changeStock hS hc14
          rfl
        · try with_reducible refine sg (kq5 hS) ?_
          try with_reducible refine sg (kq7 hS) ?_
          try with_reducible refine sg (kq5 hS) ?_
          refine bc (eX7_arise hS) (fun I15 hc16 => ?_)
          rfl
def gX7_enterBody_b4  (σ : Shp) (I : Nat → Nat → Int32) (R : Nat → Nat → Option Nat) (x1 : Int32) (x2 : Int32) (x3 : Int32) (s0 : Option Nat) : Option ((Shp) × (Nat → Nat → Int32) × (Nat → Nat → Option Nat)) :=
  onl s0
    (
      some (σ, I, R))
    (fun a6 =>
      if kdx σ a6 = 4 then
      let I8 := u2 I a6 0 x1
      let I9 := u2 I8 a6 1 x2
      let I10 := u2 I9 a6 2 x3
      let I11 := u2 I10 a6 3 (x3 + (1 : Int32))
      (gX6_endAt I11 x2 x3).bind fun r12 =>
      let I14 := u2 I11 a6 4 r12
      (gX6_aAt I14 x2 x3).bind fun r15 =>
      let I17 := u2 I14 a6 5 r15
      (gX6_bAt I17 x2 x3).bind fun r18 =>
      let I20 := u2 I17 a6 6 r18
      (gX6_cAt I20 x2 x3).bind fun r21 =>
      let I23 := u2 I20 a6 7 r21
      some (σ, I23, R)
      else none)
theorem eX7_enterBody_b4 {σ : Shp} {I : Nat → Nat → Int32} {R : Nat → Nat → Option Nat} {x1 : Int32} {x2 : Int32} {x3 : Int32} {s0 : Option Nat} (hS : Skel σ R) : fX7_enterBody_b4 5 σ I R x1 x2 x3 s0 = gX7_enterBody_b4 σ I R x1 x2 x3 s0 := by
  unfold fX7_enterBody_b4 gX7_enterBody_b4
  refine bo (fun ea6 => ?_) (fun a6 ha6 => ?_)
  · rfl
  · refine bg (fun g7 => ?_)
    let I8 := u2 I a6 0 x1
    let I9 := u2 I8 a6 1 x2
    let I10 := u2 I9 a6 2 x3
    let I11 := u2 I10 a6 3 (x3 + (1 : Int32))
    refine sg (kq5 hS) ?_
    refine sb (rq5_2 hS) ?_
    refine sg (kq9 hS) ?_
    refine bc (eX6_endAt hS) (fun r12 hc13 => ?_)
    let I14 := u2 I11 a6 4 r12
    try with_reducible refine sg (kq5 hS) ?_
    try with_reducible refine sg (kq9 hS) ?_
    refine bc (eX6_aAt hS) (fun r15 hc16 => ?_)
    let I17 := u2 I14 a6 5 r15
    try with_reducible refine sg (kq5 hS) ?_
    try with_reducible refine sg (kq9 hS) ?_
    refine bc (eX6_bAt hS) (fun r18 hc19 => ?_)
    let I20 := u2 I17 a6 6 r18
    try with_reducible refine sg (kq5 hS) ?_
    try with_reducible refine sg (kq9 hS) ?_
    refine bc (eX6_cAt hS) (fun r21 hc22 => ?_)
    let I23 := u2 I20 a6 7 r21
    rfl
theorem pX7_enterBody_b4 {σ : Shp} {I : Nat → Nat → Int32} {R : Nat → Nat → Option Nat} {x1 : Int32} {x2 : Int32} {x3 : Int32} {s0 : Option Nat} {σ9 : Shp} {I9 : Nat → Nat → Int32} {R9 : Nat → Nat → Option Nat} (hS : Skel σ R) (h : gX7_enterBody_b4 σ I R x1 x2 x3 s0 = some (σ9, I9, R9)) : Skel σ9 R9 := by
  unfold gX7_enterBody_b4 at h
  rcases onl_c h with ⟨ea6, h⟩ | ⟨a6, ha6, h⟩
  · cases h
    exact hS
  · obtain ⟨g7, h⟩ := gd h
    let I8 := u2 I a6 0 x1
    let I9 := u2 I8 a6 1 x2
    let I10 := u2 I9 a6 2 x3
    let I11 := u2 I10 a6 3 (x3 + (1 : Int32))
    obtain ⟨r12, hc13, h⟩ := ob h
    let I14 := u2 I11 a6 4 r12
    obtain ⟨r15, hc16, h⟩ := ob h
    let I17 := u2 I14 a6 5 r15
    obtain ⟨r18, hc19, h⟩ := ob h
    let I20 := u2 I17 a6 6 r18
    obtain ⟨r21, hc22, h⟩ := ob h
    let I23 := u2 I20 a6 7 r21
    cases h
    exact hS
def gX7_enterBody (σ : Shp) (I : Nat → Nat → Int32) (R : Nat → Nat → Option Nat) (x1 : Int32) (x2 : Int32) (x3 : Int32) : Option ((Shp) × (Nat → Nat → Int32) × (Nat → Nat → Option Nat)) :=
  (gX7_newTop σ I R).bind fun (σ1, I2, R3, r4) =>
  gX7_enterBody_b4 σ1 I2 R3 x1 x2 x3 r4
theorem pX7_enterBody {σ : Shp} {I : Nat → Nat → Int32} {R : Nat → Nat → Option Nat} {x1 : Int32} {x2 : Int32} {x3 : Int32} {σ9 : Shp} {I9 : Nat → Nat → Int32} {R9 : Nat → Nat → Option Nat} (hS : Skel σ R) (h : gX7_enterBody σ I R x1 x2 x3 = some (σ9, I9, R9)) : Skel σ9 R9 := by
  unfold gX7_enterBody at h
  obtain ⟨⟨σ1, I2, R3, r4⟩, hc5, h⟩ := ob h
  have hS := pX7_newTop hS hc5
  exact pX7_enterBody_b4 hS h
theorem eX7_enterBody {σ : Shp} {I : Nat → Nat → Int32} {R : Nat → Nat → Option Nat} {x1 : Int32} {x2 : Int32} {x3 : Int32} (hS : Skel σ R) : fX7_enterBody σ I R 5 x1 x2 x3 = gX7_enterBody σ I R x1 x2 x3 := by
  unfold fX7_enterBody gX7_enterBody
  refine sg (kq5 hS) ?_
  refine bc (eX7_newTop hS) (fun pp hc5 => ?_)
  obtain ⟨σ1, I2, R3, r4⟩ := pp
  have hS := pX7_newTop hS hc5
  exact eX7_enterBody_b4 hS
def gX8_heldInAll_l4  (σ : Shp) (I : Nat → Nat → Int32) (R : Nat → Nat → Option Nat) : Nat → (Int32) → (Int32) → Option ((Int32))
  | 0, _, _ => none
  | n + 1, x1, x2 =>
    if (3 : Int32) ≤ x2 then
      some x1
    else
      if ¬ (x2 < 0 ∨ 3 ≤ Int32.toNatClampNeg x2) then
      let v2 := (x1 + (I 20 (Int32.toNatClampNeg x2)))
      let v3 := x2 + (1 : Int32)
      gX8_heldInAll_l4 σ I R n v2 v3
      else none
theorem eX8_heldInAll_l4 {σ : Shp} {I : Nat → Nat → Int32} {R : Nat → Nat → Option Nat} (hS : Skel σ R) : ∀ (n : Nat) (x1 : Int32) (x2 : Int32), fX8_heldInAll_l4 σ I R 17 n x1 x2 = gX8_heldInAll_l4 σ I R n x1 x2 := by
  intro n
  induction n with
  | zero => intro x1 x2; rfl
  | succ n ih =>
    intro x1 x2
    rw [fX8_heldInAll_l4, gX8_heldInAll_l4]
    refine bi (fun c => ?_) (fun c => ?_)
    · rfl
    · refine sg (kq17 hS) ?_
      refine sb (rq17_2 hS) ?_
      refine sg (kq20 hS) ?_
      refine bgr (by rw [lq20 hS]) (fun g1 => ?_)
      exact ih _ _
def gX8_heldInAll (σ : Shp) (I : Nat → Nat → Int32) (R : Nat → Nat → Option Nat) : Option ((Int32)) :=
  gX8_heldInAll_l4 σ I R FUx (0 : Int32) (0 : Int32)
theorem eX8_heldInAll {σ : Shp} {I : Nat → Nat → Int32} {R : Nat → Nat → Option Nat}  (hS : Skel σ R) : fX8_heldInAll σ I R 17 = gX8_heldInAll σ I R := by
  unfold fX8_heldInAll gX8_heldInAll
  exact eX8_heldInAll_l4 hS _ _ _
def gX7_beginBody_b99  (σ : Shp) (I : Nat → Nat → Int32) (J : Nat → Nat → Int64) (R : Nat → Nat → Option Nat) (x2 : Int32) (x3 : Int32) (x4 : Int32) : Option ((Shp) × (Nat → Nat → Int32) × (Nat → Nat → Int64) × (Nat → Nat → Option Nat)) :=
  if x2 = (11 : Int32) then
    if ¬ (x3 < 0 ∨ 3 ≤ Int32.toNatClampNeg x3) then
    let I14 := u2 I 20 (Int32.toNatClampNeg x3) ((I 20 (Int32.toNatClampNeg x3)) + (1 : Int32))
    (gX8_heldInAll σ I14 R).bind fun r15 =>
    let I17 := u2 I14 5 12 (fXM_maxI (I14 5 12) r15)
    some (σ, I17, J, R)
    else none
  else
    if x2 = (12 : Int32) then
      if ¬ (x3 < 0 ∨ 6 ≤ Int32.toNatClampNeg x3) then
      (gX8_changeStock σ I J R x3 ((J 18 (Int32.toNatClampNeg x3)) - (Int32.toInt64 x4))).bind fun (I9, J10, R11) =>
      some (σ, I9, J10, R11)
      else none
    else
      if x2 = (13 : Int32) then
        if ¬ (x3 < 0 ∨ 3 ≤ Int32.toNatClampNeg x3) then
        let I7 := u2 I 19 (Int32.toNatClampNeg x3) x4
        some (σ, I7, J, R)
        else none
      else
        some (σ, I, J, R)
theorem eX7_beginBody_b99 {σ : Shp} {I : Nat → Nat → Int32} {J : Nat → Nat → Int64} {R : Nat → Nat → Option Nat} {x2 : Int32} {x3 : Int32} {x4 : Int32} (hS : Skel σ R) : fX7_beginBody_b99 5 σ I J R x2 x3 x4 = gX7_beginBody_b99 σ I J R x2 x3 x4 := by
  unfold fX7_beginBody_b99 gX7_beginBody_b99
  refine bi (fun c => ?_) (fun c => ?_)
  · refine sg (kq5 hS) ?_
    refine sb (rq5_3 hS) ?_
    refine sg (kq17 hS) ?_
    refine sb (rq17_2 hS) ?_
    refine sg (kq20 hS) ?_
    refine bgr (by rw [lq20 hS]) (fun g13 => ?_)
    try with_reducible refine sg (kq20 hS) ?_
    try with_reducible refine sg (by rw [lq20 hS]; exact g13) ?_
    let I14 := u2 I 20 (Int32.toNatClampNeg x3) ((I 20 (Int32.toNatClampNeg x3)) + (1 : Int32))
    try with_reducible refine sg (kq5 hS) ?_
    try with_reducible refine sg (kq5 hS) ?_
    try with_reducible refine sg (kq17 hS) ?_
    refine bc (eX8_heldInAll hS) (fun r15 hc16 => ?_)
    try with_reducible refine sg (kq5 hS) ?_
    let I17 := u2 I14 5 12 (fXM_maxI (I14 5 12) r15)
    rfl
  · refine bi (fun c => ?_) (fun c => ?_)
    · refine sg (kq5 hS) ?_
      refine sb (rq5_3 hS) ?_
      try with_reducible refine sg (kq5 hS) ?_
      refine sg (kq17 hS) ?_
      refine sb (rq17_0 hS) ?_
      refine sg (kq18 hS) ?_
      refine bgr (by rw [lq18 hS]) (fun g8 => ?_)
      try with_reducible refine sg (kq17 hS) ?_
      refine bc (eX8_changeStock hS) (fun pp hc12 => ?_)
      obtain ⟨I9, J10, R11⟩ := pp
      have hS := pX8_changeStock hS hc12
      rfl
    · refine bi (fun c => ?_) (fun c => ?_)
      · refine sg (kq5 hS) ?_
        refine sb (rq5_3 hS) ?_
        refine sg (kq17 hS) ?_
        refine sb (rq17_1 hS) ?_
        refine sg (kq19 hS) ?_
        refine bgr (by rw [lq19 hS]) (fun g6 => ?_)
        let I7 := u2 I 19 (Int32.toNatClampNeg x3) x4
        rfl
      · rfl
theorem pX7_beginBody_b99 {σ : Shp} {I : Nat → Nat → Int32} {J : Nat → Nat → Int64} {R : Nat → Nat → Option Nat} {x2 : Int32} {x3 : Int32} {x4 : Int32} {σ9 : Shp} {I9 : Nat → Nat → Int32} {J9 : Nat → Nat → Int64} {R9 : Nat → Nat → Option Nat} (hS : Skel σ R) (h : gX7_beginBody_b99 σ I J R x2 x3 x4 = some (σ9, I9, J9, R9)) : Skel σ9 R9 := by
  unfold gX7_beginBody_b99 at h
  rcases itc h with ⟨c, h⟩ | ⟨c, h⟩
  · obtain ⟨g13, h⟩ := gd h
    let I14 := u2 I 20 (Int32.toNatClampNeg x3) ((I 20 (Int32.toNatClampNeg x3)) + (1 : Int32))
    obtain ⟨r15, hc16, h⟩ := ob h
    let I17 := u2 I14 5 12 (fXM_maxI (I14 5 12) r15)
    cases h
    exact hS
  · rcases itc h with ⟨c, h⟩ | ⟨c, h⟩
    · obtain ⟨g8, h⟩ := gd h
      obtain ⟨⟨I9, J10, R11⟩, hc12, h⟩ := ob h
      have hS := pX8_changeStock hS hc12
      cases h
      exact hS
    · rcases itc h with ⟨c, h⟩ | ⟨c, h⟩
      · obtain ⟨g6, h⟩ := gd h
        let I7 := u2 I 19 (Int32.toNatClampNeg x3) x4
        cases h
        exact hS
      · cases h
        exact hS
def gX7_beginBody_b74  (σ : Shp) (I : Nat → Nat → Int32) (J : Nat → Nat → Int64) (R : Nat → Nat → Option Nat) (x1 : Int32) (x2 : Int32) (x3 : Int32) (x4 : Int32) : Option ((Shp) × (Nat → Nat → Int32) × (Nat → Nat → Int64) × (Nat → Nat → Option Nat)) :=
  if ¬ (x3 < 0 ∨ 6 ≤ Int32.toNatClampNeg x3) then
  if (0 : Int64) < (J 18 (Int32.toNatClampNeg x3)) then
    (gX7_enterBody σ I R x2 x1 (I 5 7)).bind fun (σ2, I3, R4) =>
    gX7_beginBody_b99 σ2 I3 J R4 x2 x3 x4
  else
    some (σ, I, J, R)
  else none
theorem eX7_beginBody_b74 {σ : Shp} {I : Nat → Nat → Int32} {J : Nat → Nat → Int64} {R : Nat → Nat → Option Nat} {x1 : Int32} {x2 : Int32} {x3 : Int32} {x4 : Int32} (hS : Skel σ R) : fX7_beginBody_b74 5 σ I J R x1 x2 x3 x4 = gX7_beginBody_b74 σ I J R x1 x2 x3 x4 := by
  unfold fX7_beginBody_b74 gX7_beginBody_b74
  refine sg (kq5 hS) ?_
  refine sb (rq5_3 hS) ?_
  refine sg (kq17 hS) ?_
  refine sb (rq17_0 hS) ?_
  refine sg (kq18 hS) ?_
  refine bgr (by rw [lq18 hS]) (fun g1 => ?_)
  refine bi (fun c => ?_) (fun c => ?_)
  · try with_reducible refine sg (kq5 hS) ?_
    try with_reducible refine sg (kq5 hS) ?_
    refine bc (eX7_enterBody hS) (fun pp hc5 => ?_)
    obtain ⟨σ2, I3, R4⟩ := pp
    have hS := pX7_enterBody hS hc5
    exact eX7_beginBody_b99 hS
  · rfl
theorem pX7_beginBody_b74 {σ : Shp} {I : Nat → Nat → Int32} {J : Nat → Nat → Int64} {R : Nat → Nat → Option Nat} {x1 : Int32} {x2 : Int32} {x3 : Int32} {x4 : Int32} {σ9 : Shp} {I9 : Nat → Nat → Int32} {J9 : Nat → Nat → Int64} {R9 : Nat → Nat → Option Nat} (hS : Skel σ R) (h : gX7_beginBody_b74 σ I J R x1 x2 x3 x4 = some (σ9, I9, J9, R9)) : Skel σ9 R9 := by
  unfold gX7_beginBody_b74 at h
  obtain ⟨g1, h⟩ := gd h
  rcases itc h with ⟨c, h⟩ | ⟨c, h⟩
  · obtain ⟨⟨σ2, I3, R4⟩, hc5, h⟩ := ob h
    have hS := pX7_enterBody hS hc5
    exact pX7_beginBody_b99 hS h
  · cases h
    exact hS
def gX7_beginBody_b62  (σ : Shp) (I : Nat → Nat → Int32) (J : Nat → Nat → Int64) (R : Nat → Nat → Option Nat) (x1 : Int32) (x2 : Int32) (x3 : Int32) (x4 : Int32) : Option ((Shp) × (Nat → Nat → Int32) × (Nat → Nat → Int64) × (Nat → Nat → Option Nat)) :=
  if x2 = (19 : Int32) then
    gX7_beginBody_b74 σ I J R x1 x2 x3 x4
  else
    if x2 = (20 : Int32) then
      gX7_beginBody_b74 σ I J R x1 x2 x3 x4
    else
      (gX7_enterBody σ I R x2 x1 (I 5 7)).bind fun (σ18, I19, R20) =>
      gX7_beginBody_b99 σ18 I19 J R20 x2 x3 x4
theorem eX7_beginBody_b62 {σ : Shp} {I : Nat → Nat → Int32} {J : Nat → Nat → Int64} {R : Nat → Nat → Option Nat} {x1 : Int32} {x2 : Int32} {x3 : Int32} {x4 : Int32} (hS : Skel σ R) : fX7_beginBody_b62 5 σ I J R x1 x2 x3 x4 = gX7_beginBody_b62 σ I J R x1 x2 x3 x4 := by
  unfold fX7_beginBody_b62 gX7_beginBody_b62
  refine bi (fun c => ?_) (fun c => ?_)
  · exact eX7_beginBody_b74 hS
  · refine bi (fun c => ?_) (fun c => ?_)
    · exact eX7_beginBody_b74 hS
    · refine sg (kq5 hS) ?_
      try with_reducible refine sg (kq5 hS) ?_
      refine bc (eX7_enterBody hS) (fun pp hc21 => ?_)
      obtain ⟨σ18, I19, R20⟩ := pp
      have hS := pX7_enterBody hS hc21
      exact eX7_beginBody_b99 hS
theorem pX7_beginBody_b62 {σ : Shp} {I : Nat → Nat → Int32} {J : Nat → Nat → Int64} {R : Nat → Nat → Option Nat} {x1 : Int32} {x2 : Int32} {x3 : Int32} {x4 : Int32} {σ9 : Shp} {I9 : Nat → Nat → Int32} {J9 : Nat → Nat → Int64} {R9 : Nat → Nat → Option Nat} (hS : Skel σ R) (h : gX7_beginBody_b62 σ I J R x1 x2 x3 x4 = some (σ9, I9, J9, R9)) : Skel σ9 R9 := by
  unfold gX7_beginBody_b62 at h
  rcases itc h with ⟨c, h⟩ | ⟨c, h⟩
  · exact pX7_beginBody_b74 hS h
  · rcases itc h with ⟨c, h⟩ | ⟨c, h⟩
    · exact pX7_beginBody_b74 hS h
    · obtain ⟨⟨σ18, I19, R20⟩, hc21, h⟩ := ob h
      have hS := pX7_enterBody hS hc21
      exact pX7_beginBody_b99 hS h
def gX7_beginBody_b36  (σ : Shp) (I : Nat → Nat → Int32) (J : Nat → Nat → Int64) (R : Nat → Nat → Option Nat) (x1 : Int32) (x2 : Int32) (x3 : Int32) (x4 : Int32) : Option ((Shp) × (Nat → Nat → Int32) × (Nat → Nat → Int64) × (Nat → Nat → Option Nat)) :=
  if x2 = (15 : Int32) then
    if x3 < (1 : Int32) then
      (gX7_arise I (8 : Int32) (96 : Int32)).bind fun I22 =>
      some (σ, I22, J, R)
    else
      if x3 ≤ (9 : Int32) then
        gX7_beginBody_b62 σ I J R x1 x2 x3 x4
      else
        (gX7_arise I (8 : Int32) (96 : Int32)).bind fun I24 =>
        some (σ, I24, J, R)
  else
    gX7_beginBody_b62 σ I J R x1 x2 x3 x4
theorem eX7_beginBody_b36 {σ : Shp} {I : Nat → Nat → Int32} {J : Nat → Nat → Int64} {R : Nat → Nat → Option Nat} {x1 : Int32} {x2 : Int32} {x3 : Int32} {x4 : Int32} (hS : Skel σ R) : fX7_beginBody_b36 5 σ I J R x1 x2 x3 x4 = gX7_beginBody_b36 σ I J R x1 x2 x3 x4 := by
  unfold fX7_beginBody_b36 gX7_beginBody_b36
  refine bi (fun c => ?_) (fun c => ?_)
  · refine bi (fun c => ?_) (fun c => ?_)
    · refine sg (kq5 hS) ?_
      refine bc (eX7_arise hS) (fun I22 hc23 => ?_)
      rfl
    · refine bi (fun c => ?_) (fun c => ?_)
      · exact eX7_beginBody_b62 hS
      · refine sg (kq5 hS) ?_
        refine bc (eX7_arise hS) (fun I24 hc25 => ?_)
        rfl
  · exact eX7_beginBody_b62 hS
theorem pX7_beginBody_b36 {σ : Shp} {I : Nat → Nat → Int32} {J : Nat → Nat → Int64} {R : Nat → Nat → Option Nat} {x1 : Int32} {x2 : Int32} {x3 : Int32} {x4 : Int32} {σ9 : Shp} {I9 : Nat → Nat → Int32} {J9 : Nat → Nat → Int64} {R9 : Nat → Nat → Option Nat} (hS : Skel σ R) (h : gX7_beginBody_b36 σ I J R x1 x2 x3 x4 = some (σ9, I9, J9, R9)) : Skel σ9 R9 := by
  unfold gX7_beginBody_b36 at h
  rcases itc h with ⟨c, h⟩ | ⟨c, h⟩
  · rcases itc h with ⟨c, h⟩ | ⟨c, h⟩
    · obtain ⟨I22, hc23, h⟩ := ob h
      cases h
      exact hS
    · rcases itc h with ⟨c, h⟩ | ⟨c, h⟩
      · exact pX7_beginBody_b62 hS h
      · obtain ⟨I24, hc25, h⟩ := ob h
        cases h
        exact hS
  · exact pX7_beginBody_b62 hS h
def gX7_beginBody (σ : Shp) (I : Nat → Nat → Int32) (J : Nat → Nat → Int64) (R : Nat → Nat → Option Nat) (x1 : Int32) (x2 : Int32) (x3 : Int32) (x4 : Int32) : Option ((Shp) × (Nat → Nat → Int32) × (Nat → Nat → Int64) × (Nat → Nat → Option Nat)) :=
  if x2 = (12 : Int32) then
    if x4 < 0 then
      (gX7_arise I (8 : Int32) (97 : Int32)).bind fun I26 =>
      some (σ, I26, J, R)
    else
      if ¬ (x3 < 0 ∨ 6 ≤ Int32.toNatClampNeg x3) then
      if (Int32.toInt64 x4) ≤ (J 18 (Int32.toNatClampNeg x3)) then
        gX7_beginBody_b36 σ I J R x1 x2 x3 x4
      else
        (gX7_arise I (8 : Int32) (97 : Int32)).bind fun I29 =>
        some (σ, I29, J, R)
      else none
  else
    gX7_beginBody_b36 σ I J R x1 x2 x3 x4
theorem pX7_beginBody {σ : Shp} {I : Nat → Nat → Int32} {J : Nat → Nat → Int64} {R : Nat → Nat → Option Nat} {x1 : Int32} {x2 : Int32} {x3 : Int32} {x4 : Int32} {σ9 : Shp} {I9 : Nat → Nat → Int32} {J9 : Nat → Nat → Int64} {R9 : Nat → Nat → Option Nat} (hS : Skel σ R) (h : gX7_beginBody σ I J R x1 x2 x3 x4 = some (σ9, I9, J9, R9)) : Skel σ9 R9 := by
  unfold gX7_beginBody at h
  rcases itc h with ⟨c, h⟩ | ⟨c, h⟩
  · rcases itc h with ⟨c, h⟩ | ⟨c, h⟩
    · obtain ⟨I26, hc27, h⟩ := ob h
      cases h
      exact hS
    · obtain ⟨g28, h⟩ := gd h
      rcases itc h with ⟨c, h⟩ | ⟨c, h⟩
      · exact pX7_beginBody_b36 hS h
      · obtain ⟨I29, hc30, h⟩ := ob h
        cases h
        exact hS
  · exact pX7_beginBody_b36 hS h
theorem eX7_beginBody {σ : Shp} {I : Nat → Nat → Int32} {J : Nat → Nat → Int64} {R : Nat → Nat → Option Nat} {x1 : Int32} {x2 : Int32} {x3 : Int32} {x4 : Int32} (hS : Skel σ R) : fX7_beginBody σ I J R 5 x1 x2 x3 x4 = gX7_beginBody σ I J R x1 x2 x3 x4 := by
  unfold fX7_beginBody gX7_beginBody
  refine bi (fun c => ?_) (fun c => ?_)
  · refine bi (fun c => ?_) (fun c => ?_)
    · refine sg (kq5 hS) ?_
      refine bc (eX7_arise hS) (fun I26 hc27 => ?_)
      rfl
    · refine sg (kq5 hS) ?_
      refine sb (rq5_3 hS) ?_
      refine sg (kq17 hS) ?_
      refine sb (rq17_0 hS) ?_
      refine sg (kq18 hS) ?_
      refine bgr (by rw [lq18 hS]) (fun g28 => ?_)
      refine bi (fun c => ?_) (fun c => ?_)
      · exact eX7_beginBody_b36 hS
      · try with_reducible refine sg (kq5 hS) ?_
        refine bc (eX7_arise hS) (fun I29 hc30 => ?_)
        rfl
  · exact eX7_beginBody_b36 hS
