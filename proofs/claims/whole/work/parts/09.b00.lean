def gX0_traceAt (σ : Shp) (I : Nat → Nat → Int32) (x1 : Int32) : Option ((Int32)) :=
  if x1 < 0 then
    some (-1 : Int32)
  else
    if (I 7 1) ≤ x1 then
      some (-1 : Int32)
    else
      if (Int32.ofNat (lnx σ 8)) ≤ x1 then
        some (-1 : Int32)
      else
        if ¬ (x1 < 0 ∨ 128 ≤ Int32.toNatClampNeg x1) then
        some (I 8 (Int32.toNatClampNeg x1))
        else none
theorem eX0_traceAt {σ : Shp} {I : Nat → Nat → Int32} {R : Nat → Nat → Option Nat} {x1 : Int32} (hS : Skel σ R) : fX0_traceAt σ I R 7 x1 = gX0_traceAt σ I x1 := by
  unfold fX0_traceAt gX0_traceAt
  refine bi (fun c => ?_) (fun c => ?_)
  · rfl
  · refine sg (kq7 hS) ?_
    refine bi (fun c => ?_) (fun c => ?_)
    · rfl
    · try with_reducible refine sg (kq7 hS) ?_
      refine sb (rq7_0 hS) ?_
      refine sg (kq8 hS) ?_
      refine bi (fun c => ?_) (fun c => ?_)
      · rfl
      · try with_reducible refine sg (kq7 hS) ?_
        try with_reducible refine sg (kq8 hS) ?_
        refine bgr (by rw [lq8 hS]) (fun g1 => ?_)
        rfl
def gX0_beginAsk (I : Nat → Nat → Int32) : Option ((Nat → Nat → Int32)) :=
  let I1 := u2 I 7 1 (0 : Int32)
  let I2 := u2 I1 7 2 (0 : Int32)
  some I2
theorem eX0_beginAsk {σ : Shp} {I : Nat → Nat → Int32} {R : Nat → Nat → Option Nat}  (hS : Skel σ R) : fX0_beginAsk σ I 7 = gX0_beginAsk I := by
  unfold fX0_beginAsk gX0_beginAsk
  refine sg (kq7 hS) ?_
  try with_reducible refine sg (kq7 hS) ?_
  rfl
def gX0_begin (σ : Shp) (I : Nat → Nat → Int32) (x1 : Int32) : Option ((Nat → Nat → Int32)) :=
  if (Int32.ofNat (lnx σ 8)) ≤ (I 7 1) then
    some I
  else
    if ¬ ((I 7 1) < 0 ∨ 128 ≤ Int32.toNatClampNeg (I 7 1)) then
    let I2 := u2 I 8 (Int32.toNatClampNeg (I 7 1)) x1
    let I3 := u2 I2 7 1 ((I2 7 1) + (1 : Int32))
    some I3
    else none
theorem eX0_begin {σ : Shp} {I : Nat → Nat → Int32} {R : Nat → Nat → Option Nat} {x1 : Int32} (hS : Skel σ R) : fX0_begin σ I R 7 x1 = gX0_begin σ I x1 := by
  unfold fX0_begin gX0_begin
  refine sg (kq7 hS) ?_
  try with_reducible refine sg (kq7 hS) ?_
  refine sb (rq7_0 hS) ?_
  refine sg (kq8 hS) ?_
  refine bi (fun c => ?_) (fun c => ?_)
  · rfl
  · try with_reducible refine sg (kq7 hS) ?_
    try with_reducible refine sg (kq7 hS) ?_
    try with_reducible refine sg (kq8 hS) ?_
    refine bgr (by rw [lq8 hS]) (fun g1 => ?_)
    try with_reducible refine sg (kq7 hS) ?_
    try with_reducible refine sg (kq7 hS) ?_
    rfl
def gX0_faulted (I : Nat → Nat → Int32) (x1 : Int32) : Option ((Nat → Nat → Int32) × (Int32)) :=
  let I1 := u2 I 7 2 x1
  some (I1, (0 : Int32))
theorem eX0_faulted {σ : Shp} {I : Nat → Nat → Int32} {R : Nat → Nat → Option Nat} {x1 : Int32} (hS : Skel σ R) : fX0_faulted σ I 7 x1 = gX0_faulted I x1 := by
  unfold fX0_faulted gX0_faulted
  refine sg (kq7 hS) ?_
  rfl
def gX0_costAlone_b14  (σ : Shp) (R : Nat → Nat → Option Nat) (I : Nat → Nat → Int32) (x1 : Option Nat) : Option ((Nat → Nat → Int32) × (Int32)) :=
  (gX0_begin σ I (20 : Int32)).bind fun I3 =>
  (x1 : Option Nat).bind fun a5 =>
  if kdx σ a5 = 11 then
  if (I3 a5 5) = 0 then
    (gX0_faulted I3 (6 : Int32)).bind fun (I8, r9) =>
    some (I8, r9)
  else
    if ¬ (I3 a5 5) = 0 then
    some (I3, ((5000 : Int32) / (I3 a5 5)))
    else none
  else none
theorem eX0_costAlone_b14 {σ : Shp} {I : Nat → Nat → Int32} {R : Nat → Nat → Option Nat} {x1 : Option Nat} (hS : Skel σ R) : fX0_costAlone_b14 σ R 7 I x1 = gX0_costAlone_b14 σ R I x1 := by
  unfold fX0_costAlone_b14 gX0_costAlone_b14
  refine sg (kq7 hS) ?_
  refine bc (eX0_begin hS) (fun I3 hc4 => ?_)
  refine bb (fun a5 ha5 => ?_)
  refine bg (fun g6 => ?_)
  refine bi (fun c => ?_) (fun c => ?_)
  · try with_reducible refine sg (kq7 hS) ?_
    refine bc (eX0_faulted hS) (fun pp hc10 => ?_)
    obtain ⟨I8, r9⟩ := pp
    rfl
  · refine bg (fun g7 => ?_)
    rfl
def gX0_costAlone (σ : Shp) (I : Nat → Nat → Int32) (R : Nat → Nat → Option Nat) (x1 : Option Nat) : Option ((Nat → Nat → Int32) × (Int32)) :=
  (x1 : Option Nat).bind fun a1 =>
  if kdx σ a1 = 11 then
  if (I a1 3) = (3 : Int32) then
    (gX0_begin σ I (21 : Int32)).bind fun I11 =>
    gX0_costAlone_b14 σ R I11 x1
  else
    gX0_costAlone_b14 σ R I x1
  else none
theorem eX0_costAlone {σ : Shp} {I : Nat → Nat → Int32} {R : Nat → Nat → Option Nat} {x1 : Option Nat} (hS : Skel σ R) : fX0_costAlone σ I R 7 x1 = gX0_costAlone σ I R x1 := by
  unfold fX0_costAlone gX0_costAlone
  refine bb (fun a1 ha1 => ?_)
  refine bg (fun g2 => ?_)
  refine bi (fun c => ?_) (fun c => ?_)
  · refine sg (kq7 hS) ?_
    refine bc (eX0_begin hS) (fun I11 hc12 => ?_)
    exact eX0_costAlone_b14 hS
  · exact eX0_costAlone_b14 hS
def gX0_markOf (σ : Shp) (I : Nat → Nat → Int32) (x1 : Option Nat) : Option ((Nat → Nat → Int32) × (Int32)) :=
  (x1 : Option Nat).bind fun a1 =>
  if kdx σ a1 = 11 then
  if (I a1 3) = (2 : Int32) then
    (gX0_begin σ I (31 : Int32)).bind fun I3 =>
    some (I3, ((9 : Int32) + (I3 a1 6)))
  else
    (gX0_begin σ I (30 : Int32)).bind fun I5 =>
    some (I5, (7 : Int32))
  else none
theorem eX0_markOf {σ : Shp} {I : Nat → Nat → Int32} {R : Nat → Nat → Option Nat} {x1 : Option Nat} (hS : Skel σ R) : fX0_markOf σ I R 7 x1 = gX0_markOf σ I x1 := by
  unfold fX0_markOf gX0_markOf
  refine bb (fun a1 ha1 => ?_)
  refine bg (fun g2 => ?_)
  refine bi (fun c => ?_) (fun c => ?_)
  · refine sg (kq7 hS) ?_
    refine bc (eX0_begin hS) (fun I3 hc4 => ?_)
    rfl
  · refine sg (kq7 hS) ?_
    refine bc (eX0_begin hS) (fun I5 hc6 => ?_)
    rfl
def gX0_sizeOf_b98 (fr : (Shp) → (Nat → Nat → Int32) → (Nat → Nat → Option Nat) → (Option Nat) → (Int32) → Option ((Nat → Nat → Int32) × (Int32)))  (σ : Shp) (R : Nat → Nat → Option Nat) (I : Nat → Nat → Int32) (x1 : Option Nat) (x3 : Int32) : Option ((Nat → Nat → Int32) × (Int32)) :=
  (gX0_begin σ I (2 : Int32)).bind fun I8 =>
  (gX0_begin σ I8 (1 : Int32)).bind fun I10 =>
  (x1 : Option Nat).bind fun a12 =>
  if kdx σ a12 = 11 then
  some (I10, ((x3 + ((2 : Int32) * (I10 a12 5))) + (I10 a12 6)))
  else none
theorem eX0_sizeOf_b98 {σ : Shp} {I : Nat → Nat → Int32} {R : Nat → Nat → Option Nat} {x1 : Option Nat} {x3 : Int32} (hS : Skel σ R) {ff : (Shp) → (Nat → Nat → Int32) → (Nat → Nat → Option Nat) → (Nat) → (Option Nat) → (Int32) → Option ((Nat → Nat → Int32) × (Int32))} {fr : (Shp) → (Nat → Nat → Int32) → (Nat → Nat → Option Nat) → (Option Nat) → (Int32) → Option ((Nat → Nat → Int32) × (Int32))} (ihn : ∀ {σ : Shp} {I : Nat → Nat → Int32} {R : Nat → Nat → Option Nat} {x1 : Option Nat} {x2 : Int32}, Skel σ R → ff σ I R 7 x1 x2 = fr σ I R x1 x2) : fX0_sizeOf_b98 ff σ R 7 I x1 x3 = gX0_sizeOf_b98 fr σ R I x1 x3 := by
  unfold fX0_sizeOf_b98 gX0_sizeOf_b98
  refine sg (kq7 hS) ?_
  refine bc (eX0_begin hS) (fun I8 hc9 => ?_)
  try with_reducible refine sg (kq7 hS) ?_
  refine bc (eX0_begin hS) (fun I10 hc11 => ?_)
  refine bb (fun a12 ha12 => ?_)
  refine bg (fun g13 => ?_)
  rfl
def gX0_sizeOf_b82 (fr : (Shp) → (Nat → Nat → Int32) → (Nat → Nat → Option Nat) → (Option Nat) → (Int32) → Option ((Nat → Nat → Int32) × (Int32)))  (σ : Shp) (R : Nat → Nat → Option Nat) (I : Nat → Nat → Int32) (x1 : Option Nat) (x3 : Int32) : Option ((Nat → Nat → Int32) × (Int32)) :=
  (x1 : Option Nat).bind fun a6 =>
  if kdx σ a6 = 11 then
  if (I a6 3) = (1 : Int32) then
    gX0_sizeOf_b98 fr σ R I x1 x3
  else
    if (I a6 3) = (2 : Int32) then
      gX0_sizeOf_b98 fr σ R I x1 x3
    else
      if (I a6 3) = (3 : Int32) then
        (gX0_begin σ I (4 : Int32)).bind fun I16 =>
        (gX0_begin σ I16 (1 : Int32)).bind fun I18 =>
        if (I18 a6 6) = 0 then
          (gX0_faulted I18 (6 : Int32)).bind fun (I21, r22) =>
          some (I21, r22)
        else
          if ¬ (I18 a6 6) = 0 then
          some (I18, ((I18 a6 5) / (I18 a6 6)))
          else none
      else
        (gX0_begin σ I (1 : Int32)).bind fun I14 =>
        some (I14, (I14 a6 5))
  else none
theorem eX0_sizeOf_b82 {σ : Shp} {I : Nat → Nat → Int32} {R : Nat → Nat → Option Nat} {x1 : Option Nat} {x3 : Int32} (hS : Skel σ R) {ff : (Shp) → (Nat → Nat → Int32) → (Nat → Nat → Option Nat) → (Nat) → (Option Nat) → (Int32) → Option ((Nat → Nat → Int32) × (Int32))} {fr : (Shp) → (Nat → Nat → Int32) → (Nat → Nat → Option Nat) → (Option Nat) → (Int32) → Option ((Nat → Nat → Int32) × (Int32))} (ihn : ∀ {σ : Shp} {I : Nat → Nat → Int32} {R : Nat → Nat → Option Nat} {x1 : Option Nat} {x2 : Int32}, Skel σ R → ff σ I R 7 x1 x2 = fr σ I R x1 x2) : fX0_sizeOf_b82 ff σ R 7 I x1 x3 = gX0_sizeOf_b82 fr σ R I x1 x3 := by
  unfold fX0_sizeOf_b82 gX0_sizeOf_b82
  refine bb (fun a6 ha6 => ?_)
  refine bg (fun g7 => ?_)
  refine bi (fun c => ?_) (fun c => ?_)
  · exact eX0_sizeOf_b98 hS ihn
  · refine bi (fun c => ?_) (fun c => ?_)
    · exact eX0_sizeOf_b98 hS ihn
    · refine bi (fun c => ?_) (fun c => ?_)
      · refine sg (kq7 hS) ?_
        refine bc (eX0_begin hS) (fun I16 hc17 => ?_)
        try with_reducible refine sg (kq7 hS) ?_
        refine bc (eX0_begin hS) (fun I18 hc19 => ?_)
        refine bi (fun c => ?_) (fun c => ?_)
        · try with_reducible refine sg (kq7 hS) ?_
          refine bc (eX0_faulted hS) (fun pp hc23 => ?_)
          obtain ⟨I21, r22⟩ := pp
          rfl
        · refine bg (fun g20 => ?_)
          rfl
      · refine sg (kq7 hS) ?_
        refine bc (eX0_begin hS) (fun I14 hc15 => ?_)
        rfl
def gX0_sizeOf_l33 (fr : (Shp) → (Nat → Nat → Int32) → (Nat → Nat → Option Nat) → (Option Nat) → (Int32) → Option ((Nat → Nat → Int32) × (Int32)))  (σ : Shp) (R : Nat → Nat → Option Nat) : Nat → (Nat → Nat → Int32) → (Option Nat) → (Int32) → (Int32) → (Int32) → Option ((Nat → Nat → Int32) × (Int32))
  | 0, _, _, _, _, _ => none
  | n + 1, I, x1, x2, x3, x4 =>
    (x1 : Option Nat).bind fun a26 =>
    if kdx σ a26 = 11 then
    ((R a26 2) : Option Nat).bind fun a28 =>
    if kdx σ a28 = 26 then
    if (Int32.ofNat (lnx σ a28)) ≤ x4 then
      if (I 7 2) = 0 then
        gX0_sizeOf_b82 fr σ R I x1 x3
      else
        some (I, (0 : Int32))
    else
      if (I 7 2) = 0 then
        if ¬ (x4 < 0 ∨ lnx σ a28 ≤ Int32.toNatClampNeg x4) then
        (fr σ I R (R a28 (Int32.toNatClampNeg x4)) (x2 + (1 : Int32))).bind fun (I31, r32) =>
        let v34 := (x3 + r32)
        let v35 := x4 + (1 : Int32)
        gX0_sizeOf_l33 fr σ R n I31 x1 x2 v34 v35
        else none
      else
        if (I 7 2) = 0 then
          gX0_sizeOf_b82 fr σ R I x1 x3
        else
          some (I, (0 : Int32))
    else none
    else none
theorem eX0_sizeOf_l33 {σ : Shp} {R : Nat → Nat → Option Nat} (hS : Skel σ R) {ff : (Shp) → (Nat → Nat → Int32) → (Nat → Nat → Option Nat) → (Nat) → (Option Nat) → (Int32) → Option ((Nat → Nat → Int32) × (Int32))} {fr : (Shp) → (Nat → Nat → Int32) → (Nat → Nat → Option Nat) → (Option Nat) → (Int32) → Option ((Nat → Nat → Int32) × (Int32))} (ihn : ∀ {σ : Shp} {I : Nat → Nat → Int32} {R : Nat → Nat → Option Nat} {x1 : Option Nat} {x2 : Int32}, Skel σ R → ff σ I R 7 x1 x2 = fr σ I R x1 x2) : ∀ (n : Nat) (I : Nat → Nat → Int32) (x1 : Option Nat) (x2 : Int32) (x3 : Int32) (x4 : Int32), fX0_sizeOf_l33 ff σ R 7 n I x1 x2 x3 x4 = gX0_sizeOf_l33 fr σ R n I x1 x2 x3 x4 := by
  intro n
  induction n with
  | zero => intro I x1 x2 x3 x4; rfl
  | succ n ih =>
    intro I x1 x2 x3 x4
    rw [fX0_sizeOf_l33, gX0_sizeOf_l33]
    refine bb (fun a26 ha26 => ?_)
    refine bg (fun g27 => ?_)
    refine bb (fun a28 ha28 => ?_)
    refine bg (fun g29 => ?_)
    refine bi (fun c => ?_) (fun c => ?_)
    · refine sg (kq7 hS) ?_
      refine bi (fun c => ?_) (fun c => ?_)
      · exact eX0_sizeOf_b82 hS ihn
      · rfl
    · refine sg (kq7 hS) ?_
      refine bi (fun c => ?_) (fun c => ?_)
      · refine bg (fun g30 => ?_)
        try with_reducible refine sg (kq7 hS) ?_
        refine bc (ihn hS) (fun pp hc33 => ?_)
        obtain ⟨I31, r32⟩ := pp
        exact ih _ _ _ _ _
      · try with_reducible refine sg (kq7 hS) ?_
        refine bi (fun c => ?_) (fun c => ?_)
        · exact eX0_sizeOf_b82 hS ihn
        · rfl
def gX0_sizeOf : Nat → (Shp) → (Nat → Nat → Int32) → (Nat → Nat → Option Nat) → (Option Nat) → (Int32) → Option ((Nat → Nat → Int32) × (Int32))
  | 0, _, _, _, _, _ => none
  | n + 1, σ, I, R, x1, x2 =>
    onl x1
      (
        (gX0_faulted I (1 : Int32)).bind fun (I2, r3) =>
        some (I2, r3))
      (fun a1 =>
        if x2 ≤ (4 : Int32) then
          if kdx σ a1 = 11 then
          if (I a1 3) = (2 : Int32) then
            (gX0_begin σ I (3 : Int32)).bind fun I24 =>
            gX0_sizeOf_l33 (gX0_sizeOf n) σ R FUx I24 x1 x2 (0 : Int32) (0 : Int32)
          else
            gX0_sizeOf_b82 (gX0_sizeOf n) σ R I x1 (0 : Int32)
          else none
        else
          (gX0_faulted I (1 : Int32)).bind fun (I36, r37) =>
          some (I36, r37))
theorem eX0_sizeOf : ∀ (n : Nat) {σ : Shp} {I : Nat → Nat → Int32} {R : Nat → Nat → Option Nat} {x1 : Option Nat} {x2 : Int32}, Skel σ R → fX0_sizeOf n σ I R 7 x1 x2 = gX0_sizeOf n σ I R x1 x2 := by
  intro n
  induction n with
  | zero => intro σ I R x1 x2 hS; rfl
  | succ n ihn =>
    intro σ I R x1 x2 hS
    rw [fX0_sizeOf, gX0_sizeOf]
    refine bo (fun ea1 => ?_) (fun a1 ha1 => ?_)
    · refine sg (kq7 hS) ?_
      refine bc (eX0_faulted hS) (fun pp hc4 => ?_)
      obtain ⟨I2, r3⟩ := pp
      rfl
    · refine bi (fun c => ?_) (fun c => ?_)
      · refine bg (fun g5 => ?_)
        refine bi (fun c => ?_) (fun c => ?_)
        · refine sg (kq7 hS) ?_
          refine bc (eX0_begin hS) (fun I24 hc25 => ?_)
          exact eX0_sizeOf_l33 hS ihn _ _ _ _ _ _
        · exact eX0_sizeOf_b82 hS ihn
      · refine sg (kq7 hS) ?_
        refine bc (eX0_faulted hS) (fun pp hc38 => ?_)
        obtain ⟨I36, r37⟩ := pp
        rfl
def gX0_thirstOf_b43  (σ : Shp) (R : Nat → Nat → Option Nat) (I : Nat → Nat → Int32) (x1 : Option Nat) (x2 : Int32) : Option ((Nat → Nat → Int32) × (Int32)) :=
  (gX0_begin σ I (10 : Int32)).bind fun I3 =>
  (gX0_sizeOf 8 σ I3 R x1 (0 : Int32)).bind fun (I5, r6) =>
  let v8 := ((3 : Int32) + r6)
  if x2 = 0 then
    some (I5, v8)
  else
    some (I5, ((2 : Int32) * v8))
theorem eX0_thirstOf_b43 {σ : Shp} {I : Nat → Nat → Int32} {R : Nat → Nat → Option Nat} {x1 : Option Nat} {x2 : Int32} (hS : Skel σ R) : fX0_thirstOf_b43 σ R 7 I x1 x2 = gX0_thirstOf_b43 σ R I x1 x2 := by
  unfold fX0_thirstOf_b43 gX0_thirstOf_b43
  refine sg (kq7 hS) ?_
  refine bc (eX0_begin hS) (fun I3 hc4 => ?_)
  try with_reducible refine sg (kq7 hS) ?_
  refine bc (eX0_sizeOf _ hS) (fun pp hc7 => ?_)
  obtain ⟨I5, r6⟩ := pp
  refine bi (fun c => ?_) (fun c => ?_)
  · rfl
  · rfl
def gX0_thirstOf (σ : Shp) (I : Nat → Nat → Int32) (R : Nat → Nat → Option Nat) (x1 : Option Nat) : Option ((Nat → Nat → Int32) × (Int32)) :=
  (x1 : Option Nat).bind fun a1 =>
  if kdx σ a1 = 11 then
  if (I a1 3) = (5 : Int32) then
    (gX0_begin σ I (12 : Int32)).bind fun I13 =>
    some (I13, (I13 a1 6))
  else
    if (I a1 3) = (3 : Int32) then
      if (0 : Int32) = 0 then
        gX0_thirstOf_b43 σ R I x1 (0 : Int32)
      else
        (gX0_begin σ I (11 : Int32)).bind fun I9 =>
        gX0_thirstOf_b43 σ R I9 x1 (0 : Int32)
    else
      if (1 : Int32) = 0 then
        gX0_thirstOf_b43 σ R I x1 (1 : Int32)
      else
        (gX0_begin σ I (11 : Int32)).bind fun I11 =>
        gX0_thirstOf_b43 σ R I11 x1 (1 : Int32)
  else none
theorem eX0_thirstOf {σ : Shp} {I : Nat → Nat → Int32} {R : Nat → Nat → Option Nat} {x1 : Option Nat} (hS : Skel σ R) : fX0_thirstOf σ I R 7 x1 = gX0_thirstOf σ I R x1 := by
  unfold fX0_thirstOf gX0_thirstOf
  refine bb (fun a1 ha1 => ?_)
  refine bg (fun g2 => ?_)
  refine bi (fun c => ?_) (fun c => ?_)
  · refine sg (kq7 hS) ?_
    refine bc (eX0_begin hS) (fun I13 hc14 => ?_)
    rfl
  · refine bi (fun c => ?_) (fun c => ?_)
    · refine bi (fun c => ?_) (fun c => ?_)
      · exact eX0_thirstOf_b43 hS
      · refine sg (kq7 hS) ?_
        refine bc (eX0_begin hS) (fun I9 hc10 => ?_)
        exact eX0_thirstOf_b43 hS
    · refine bi (fun c => ?_) (fun c => ?_)
      · exact eX0_thirstOf_b43 hS
      · refine sg (kq7 hS) ?_
        refine bc (eX0_begin hS) (fun I11 hc12 => ?_)
        exact eX0_thirstOf_b43 hS
def gX0_tell (σ : Shp) (I : Nat → Nat → Int32) (R : Nat → Nat → Option Nat) (x1 : Option Nat) (x2 : Int32) : Option ((Nat → Nat → Int32) × (Int32)) :=
  onl x1
    (
      (gX0_faulted I (1 : Int32)).bind fun (I2, r3) =>
      some (I2, r3))
    (fun a1 =>
      if kdx σ a1 = 11 then
      if (I a1 0) = (16 : Int32) then
        if (fX0_answers (I a1 3) x2) = 0 then
          (gX0_faulted I (4 : Int32)).bind fun (I31, r32) =>
          some (I31, r32)
        else
          if x2 = (2 : Int32) then
            (gX0_costAlone σ I R (some a1)).bind fun (I25, r26) =>
            if (I25 a1 3) = (3 : Int32) then
              if (I25 7 2) = 0 then
                (gX0_thirstOf σ I25 R (some a1)).bind fun (I28, r29) =>
                some (I28, (r26 + r29))
              else
                some (I25, r26)
            else
              some (I25, r26)
          else
            if x2 = (0 : Int32) then
              (gX0_sizeOf 8 σ I R (some a1) (0 : Int32)).bind fun (I22, r23) =>
              some (I22, r23)
            else
            if x2 = (1 : Int32) then
              (gX0_thirstOf σ I R (some a1)).bind fun (I19, r20) =>
              some (I19, r20)
            else
            if x2 = (2 : Int32) then
              some (I, (I a1 7))
            else
            if x2 = (3 : Int32) then
              (gX0_markOf σ I (some a1)).bind fun (I16, r17) =>
              some (I16, r17)
            else
            if x2 = (4 : Int32) then
              if (I a1 3) = (2 : Int32) then
                some (I, (9 : Int32))
              else
                some (I, (7 : Int32))
            else
            if x2 = (5 : Int32) then
              some (I, (I a1 4))
            else
            if x2 = (6 : Int32) then
              some (I, (I a1 3))
            else
            some (I, (I a1 7))
      else
        (gX0_faulted I (4 : Int32)).bind fun (I6, r7) =>
        some (I6, r7)
      else none)
theorem eX0_tell {σ : Shp} {I : Nat → Nat → Int32} {R : Nat → Nat → Option Nat} {x1 : Option Nat} {x2 : Int32} (hS : Skel σ R) : fX0_tell σ I R 7 x1 x2 = gX0_tell σ I R x1 x2 := by
  unfold fX0_tell gX0_tell
  refine bo (fun ea1 => ?_) (fun a1 ha1 => ?_)
  · refine sg (kq7 hS) ?_
    refine bc (eX0_faulted hS) (fun pp hc4 => ?_)
    obtain ⟨I2, r3⟩ := pp
    rfl
  · refine bg (fun g5 => ?_)
    refine bi (fun c => ?_) (fun c => ?_)
    · refine bi (fun c => ?_) (fun c => ?_)
      · refine sg (kq7 hS) ?_
        refine bc (eX0_faulted hS) (fun pp hc33 => ?_)
        obtain ⟨I31, r32⟩ := pp
        rfl
      · refine bi (fun c => ?_) (fun c => ?_)
        · refine sg (kq7 hS) ?_
          refine bc (eX0_costAlone hS) (fun pp hc27 => ?_)
          obtain ⟨I25, r26⟩ := pp
          refine bi (fun c => ?_) (fun c => ?_)
          · try with_reducible refine sg (kq7 hS) ?_
            refine bi (fun c => ?_) (fun c => ?_)
            · try with_reducible refine sg (kq7 hS) ?_
              refine bc (eX0_thirstOf hS) (fun pp hc30 => ?_)
              obtain ⟨I28, r29⟩ := pp
              rfl
            · rfl
          · rfl
        · refine bi (fun c => ?_) (fun c => ?_)
          · refine sg (kq7 hS) ?_
            refine bc (eX0_sizeOf _ hS) (fun pp hc24 => ?_)
            obtain ⟨I22, r23⟩ := pp
            rfl
          · refine bi (fun c => ?_) (fun c => ?_)
            · refine sg (kq7 hS) ?_
              refine bc (eX0_thirstOf hS) (fun pp hc21 => ?_)
              obtain ⟨I19, r20⟩ := pp
              rfl
            · refine bi (fun c => ?_) (fun c => ?_)
              · rfl
              · refine bi (fun c => ?_) (fun c => ?_)
                · refine sg (kq7 hS) ?_
                  refine bc (eX0_markOf hS) (fun pp hc18 => ?_)
                  obtain ⟨I16, r17⟩ := pp
                  rfl
                · refine bi (fun c => ?_) (fun c => ?_)
                  · refine bi (fun c => ?_) (fun c => ?_)
                    · rfl
                    · rfl
                  · refine bi (fun c => ?_) (fun c => ?_)
                    · rfl
                    · refine bi (fun c => ?_) (fun c => ?_)
                      · rfl
                      · rfl
    · refine sg (kq7 hS) ?_
      refine bc (eX0_faulted hS) (fun pp hc8 => ?_)
      obtain ⟨I6, r7⟩ := pp
      rfl
def gX1_powerSet (I : Nat → Nat → Int32) (x1 : Int32) : Option ((Nat → Nat → Int32) × (Int32)) :=
  if (I 108 5) = 0 then
    let I1 := u2 I 108 6 x1
    some (I1, (1 : Int32))
  else
    some (I, (-3 : Int32))
theorem eX1_powerSet {σ : Shp} {I : Nat → Nat → Int32} {R : Nat → Nat → Option Nat} {x1 : Int32} (hS : Skel σ R) : fX1_powerSet σ I 108 x1 = gX1_powerSet I x1 := by
  unfold fX1_powerSet gX1_powerSet
  refine sg (kq108 hS) ?_
  refine bi (fun c => ?_) (fun c => ?_)
  · try with_reducible refine sg (kq108 hS) ?_
    rfl
  · rfl
def gX1_putNumber_l3  (σ : Shp) (R : Nat → Nat → Option Nat) : Nat → (Nat → Nat → Int32) → (Int32) → (Int32) → (Int64) → (Int32) → Option ((Nat → Nat → Int32))
  | 0, _, _, _, _, _ => none
  | n + 1, I, x1, x2, x3, x5 =>
    if x2 ≤ x5 then
      some I
    else
      if (64 : Int32) ≤ (x1 + x5) then
        some I
      else
        if ¬ ((x1 + x5) < 0 ∨ 64 ≤ Int32.toNatClampNeg (x1 + x5)) then
        let I2 := u2 I 110 (Int32.toNatClampNeg (x1 + x5)) ((Int64.toInt32 (x3 >>> (Int32.toInt64 ((8 : Int32) * ((x2 - (1 : Int32)) - x5)) &&& 63))) &&& (255 : Int32))
        let v3 := x5 + (1 : Int32)
        gX1_putNumber_l3 σ R n I2 x1 x2 x3 v3
        else none
theorem eX1_putNumber_l3 {σ : Shp} {R : Nat → Nat → Option Nat} (hS : Skel σ R) : ∀ (n : Nat) (I : Nat → Nat → Int32) (x1 : Int32) (x2 : Int32) (x3 : Int64) (x5 : Int32), fX1_putNumber_l3 σ R 108 n I x1 x2 x3 x5 = gX1_putNumber_l3 σ R n I x1 x2 x3 x5 := by
  intro n
  induction n with
  | zero => intro I x1 x2 x3 x5; rfl
  | succ n ih =>
    intro I x1 x2 x3 x5
    rw [fX1_putNumber_l3, gX1_putNumber_l3]
    refine bi (fun c => ?_) (fun c => ?_)
    · rfl
    · refine bi (fun c => ?_) (fun c => ?_)
      · rfl
      · refine sg (kq108 hS) ?_
        refine sb (rq108_1 hS) ?_
        refine sg (kq110 hS) ?_
        refine bgr (by rw [lq110 hS]) (fun g1 => ?_)
        exact ih _ _ _ _ _
def gX1_putNumber (σ : Shp) (I : Nat → Nat → Int32) (R : Nat → Nat → Option Nat) (x1 : Int32) (x2 : Int32) (x3 : Int64) : Option ((Nat → Nat → Int32)) :=
  gX1_putNumber_l3 σ R FUx I x1 x2 x3 (0 : Int32)
theorem eX1_putNumber {σ : Shp} {I : Nat → Nat → Int32} {R : Nat → Nat → Option Nat} {x1 : Int32} {x2 : Int32} {x3 : Int64} (hS : Skel σ R) : fX1_putNumber σ I R 108 x1 x2 x3 = gX1_putNumber σ I R x1 x2 x3 := by
  unfold fX1_putNumber gX1_putNumber
  exact eX1_putNumber_l3 hS _ _ _ _ _ _
def gX1_sumOf_l4  (σ : Shp) (I : Nat → Nat → Int32) : Nat → (Option Nat) → (Int32) → (Int32) → (Int32) → Option ((Int32))
  | 0, _, _, _, _ => none
  | n + 1, x0, x1, x2, x3 =>
    if (60 : Int32) ≤ x3 then
      some x2
    else
      (x0 : Option Nat).bind fun a1 =>
      if kdx σ a1 = 20 then
      if (Int32.ofNat (lnx σ a1)) ≤ (x1 + x3) then
        some x2
      else
        if ¬ ((x1 + x3) < 0 ∨ lnx σ a1 ≤ Int32.toNatClampNeg (x1 + x3)) then
        let v4 := ((fXN_rotL (x2 ^^^ (I a1 (Int32.toNatClampNeg (x1 + x3)))) (11 : Int32)) * (-1028477387 : Int32))
        let v5 := x3 + (1 : Int32)
        gX1_sumOf_l4 σ I n x0 x1 v4 v5
        else none
      else none
theorem eX1_sumOf_l4 {σ : Shp} {I : Nat → Nat → Int32} {R : Nat → Nat → Option Nat} (hS : Skel σ R) : ∀ (n : Nat) (x0 : Option Nat) (x1 : Int32) (x2 : Int32) (x3 : Int32), fX1_sumOf_l4 σ I n x0 x1 x2 x3 = gX1_sumOf_l4 σ I n x0 x1 x2 x3 := by
  intro n
  induction n with
  | zero => intro x0 x1 x2 x3; rfl
  | succ n ih =>
    intro x0 x1 x2 x3
    rw [fX1_sumOf_l4, gX1_sumOf_l4]
    refine bi (fun c => ?_) (fun c => ?_)
    · rfl
    · refine bb (fun a1 ha1 => ?_)
      refine bg (fun g2 => ?_)
      refine bi (fun c => ?_) (fun c => ?_)
      · rfl
      · refine bg (fun g3 => ?_)
        exact ih _ _ _ _
def gX1_sumOf (σ : Shp) (I : Nat → Nat → Int32) (x0 : Option Nat) (x1 : Int32) : Option ((Int32)) :=
  gX1_sumOf_l4 σ I FUx x0 x1 (0 : Int32) (0 : Int32)
theorem eX1_sumOf {σ : Shp} {I : Nat → Nat → Int32} {R : Nat → Nat → Option Nat} {x0 : Option Nat} {x1 : Int32} (hS : Skel σ R) : fX1_sumOf σ I x0 x1 = gX1_sumOf σ I x0 x1 := by
  unfold fX1_sumOf gX1_sumOf
  exact eX1_sumOf_l4 hS _ _ _ _ _
def gX1_fillDraft_l50  (σ : Shp) (J : Nat → Nat → Int64) (R : Nat → Nat → Option Nat) : Nat → (Nat → Nat → Int32) → (Option Nat) → (Int32) → Option ((Nat → Nat → Int32))
  | 0, _, _, _ => none
  | n + 1, I, x3, x4 =>
    (x3 : Option Nat).bind fun a9 =>
    if kdx σ a9 = 21 then
    if (Int32.ofNat (lnx σ a9)) ≤ x4 then
      (gX1_sumOf σ I (some 110) (0 : Int32)).bind fun r11 =>
      (gX1_putNumber σ I R (60 : Int32) (4 : Int32) (Int32.toInt64 r11)).bind fun I13 =>
      some I13
    else
      if (6 : Int32) ≤ x4 then
        (gX1_sumOf σ I (some 110) (0 : Int32)).bind fun r15 =>
        (gX1_putNumber σ I R (60 : Int32) (4 : Int32) (Int32.toInt64 r15)).bind fun I17 =>
        some I17
      else
        if ¬ (x4 < 0 ∨ lnx σ a9 ≤ Int32.toNatClampNeg x4) then
        (gX1_putNumber σ I R ((12 : Int32) + ((8 : Int32) * x4)) (8 : Int32) (J a9 (Int32.toNatClampNeg x4))).bind fun I20 =>
        let v22 := x4 + (1 : Int32)
        gX1_fillDraft_l50 σ J R n I20 x3 v22
        else none
    else none
theorem eX1_fillDraft_l50 {σ : Shp} {J : Nat → Nat → Int64} {R : Nat → Nat → Option Nat} (hS : Skel σ R) : ∀ (n : Nat) (I : Nat → Nat → Int32) (x3 : Option Nat) (x4 : Int32), fX1_fillDraft_l50 σ J R 108 n I x3 x4 = gX1_fillDraft_l50 σ J R n I x3 x4 := by
  intro n
  induction n with
  | zero => intro I x3 x4; rfl
  | succ n ih =>
    intro I x3 x4
    rw [fX1_fillDraft_l50, gX1_fillDraft_l50]
    refine bb (fun a9 ha9 => ?_)
    refine bg (fun g10 => ?_)
    refine bi (fun c => ?_) (fun c => ?_)
    · refine sg (kq108 hS) ?_
      refine sb (rq108_1 hS) ?_
      refine bc (eX1_sumOf hS) (fun r11 hc12 => ?_)
      try with_reducible refine sg (kq108 hS) ?_
      refine bc (eX1_putNumber hS) (fun I13 hc14 => ?_)
      rfl
    · refine bi (fun c => ?_) (fun c => ?_)
      · refine sg (kq108 hS) ?_
        refine sb (rq108_1 hS) ?_
        refine bc (eX1_sumOf hS) (fun r15 hc16 => ?_)
        try with_reducible refine sg (kq108 hS) ?_
        refine bc (eX1_putNumber hS) (fun I17 hc18 => ?_)
        rfl
      · refine bg (fun g19 => ?_)
        refine sg (kq108 hS) ?_
        refine bc (eX1_putNumber hS) (fun I20 hc21 => ?_)
        exact ih _ _ _
def gX1_fillDraft_l3  (σ : Shp) (J : Nat → Nat → Int64) (R : Nat → Nat → Option Nat) : Nat → (Nat → Nat → Int32) → (Int32) → (Int32) → (Option Nat) → (Int32) → Option ((Nat → Nat → Int32))
  | 0, _, _, _, _, _ => none
  | n + 1, I, x1, x2, x3, x4 =>
    if (64 : Int32) ≤ x4 then
      (gX1_putNumber σ I R (0 : Int32) (4 : Int32) (Int32.toInt64 x1)).bind fun I1 =>
      if ¬ ((4 : Int32) < 0 ∨ 64 ≤ Int32.toNatClampNeg (4 : Int32)) then
      let I4 := u2 I1 110 (Int32.toNatClampNeg (4 : Int32)) x2
      (x3 : Option Nat).bind fun a5 =>
      if kdx σ a5 = 21 then
      if ¬ ((5 : Int32) < 0 ∨ 64 ≤ Int32.toNatClampNeg (5 : Int32)) then
      let I8 := u2 I4 110 (Int32.toNatClampNeg (5 : Int32)) (Int32.ofNat (lnx σ a5))
      gX1_fillDraft_l50 σ J R FUx I8 x3 (0 : Int32)
      else none
      else none
      else none
    else
      if ¬ (x4 < 0 ∨ 64 ≤ Int32.toNatClampNeg x4) then
      let I24 := u2 I 110 (Int32.toNatClampNeg x4) (0 : Int32)
      let v25 := x4 + (1 : Int32)
      gX1_fillDraft_l3 σ J R n I24 x1 x2 x3 v25
      else none
theorem eX1_fillDraft_l3 {σ : Shp} {J : Nat → Nat → Int64} {R : Nat → Nat → Option Nat} (hS : Skel σ R) : ∀ (n : Nat) (I : Nat → Nat → Int32) (x1 : Int32) (x2 : Int32) (x3 : Option Nat) (x4 : Int32), fX1_fillDraft_l3 σ J R 108 n I x1 x2 x3 x4 = gX1_fillDraft_l3 σ J R n I x1 x2 x3 x4 := by
  intro n
  induction n with
  | zero => intro I x1 x2 x3 x4; rfl
  | succ n ih =>
    intro I x1 x2 x3 x4
    rw [fX1_fillDraft_l3, gX1_fillDraft_l3]
    refine bi (fun c => ?_) (fun c => ?_)
    · refine sg (kq108 hS) ?_
      refine bc (eX1_putNumber hS) (fun I1 hc2 => ?_)
      try with_reducible refine sg (kq108 hS) ?_
      refine sb (rq108_1 hS) ?_
      refine sg (kq110 hS) ?_
      refine bgr (by rw [lq110 hS]) (fun g3 => ?_)
      try with_reducible refine sg (kq108 hS) ?_
      refine bb (fun a5 ha5 => ?_)
      refine bg (fun g6 => ?_)
      try with_reducible refine sg (kq110 hS) ?_
      refine bgr (by rw [lq110 hS]) (fun g7 => ?_)
      exact eX1_fillDraft_l50 hS _ _ _ _
    · refine sg (kq108 hS) ?_
      refine sb (rq108_1 hS) ?_
      refine sg (kq110 hS) ?_
      refine bgr (by rw [lq110 hS]) (fun g23 => ?_)
      exact ih _ _ _ _ _
def gX1_fillDraft (σ : Shp) (I : Nat → Nat → Int32) (J : Nat → Nat → Int64) (R : Nat → Nat → Option Nat) (x1 : Int32) (x2 : Int32) (x3 : Option Nat) : Option ((Nat → Nat → Int32)) :=
  gX1_fillDraft_l3 σ J R FUx I x1 x2 x3 (0 : Int32)
theorem eX1_fillDraft {σ : Shp} {I : Nat → Nat → Int32} {J : Nat → Nat → Int64} {R : Nat → Nat → Option Nat} {x1 : Int32} {x2 : Int32} {x3 : Option Nat} (hS : Skel σ R) : fX1_fillDraft σ I J R 108 x1 x2 x3 = gX1_fillDraft σ I J R x1 x2 x3 := by
  unfold fX1_fillDraft gX1_fillDraft
  exact eX1_fillDraft_l3 hS _ _ _ _ _ _
def gX1_written_b124  (σ : Shp) (J : Nat → Nat → Int64) (R : Nat → Nat → Option Nat) (I : Nat → Nat → Int32) (x3 : Int32) : Option ((Nat → Nat → Int32) × (Int32)) :=
  if (64 : Int32) ≤ x3 then
    if (I 108 6) = (-1 : Int32) then
      let I6 := u2 I 108 3 ((I 108 3) + (1 : Int32))
      some (I6, (I6 108 3))
    else
      let I7 := u2 I 108 6 ((I 108 6) - (64 : Int32))
      let I8 := u2 I7 108 3 ((I7 108 3) + (1 : Int32))
      some (I8, (I8 108 3))
  else
    let I9 := u2 I 108 5 (1 : Int32)
    some (I9, (-3 : Int32))
theorem eX1_written_b124 {σ : Shp} {I : Nat → Nat → Int32} {J : Nat → Nat → Int64} {R : Nat → Nat → Option Nat} {x3 : Int32} (hS : Skel σ R) : fX1_written_b124 σ J R 108 I x3 = gX1_written_b124 σ J R I x3 := by
  unfold fX1_written_b124 gX1_written_b124
  refine bi (fun c => ?_) (fun c => ?_)
  · refine sg (kq108 hS) ?_
    refine bi (fun c => ?_) (fun c => ?_)
    · try with_reducible refine sg (kq108 hS) ?_
      try with_reducible refine sg (kq108 hS) ?_
      try with_reducible refine sg (kq108 hS) ?_
      rfl
    · try with_reducible refine sg (kq108 hS) ?_
      try with_reducible refine sg (kq108 hS) ?_
      try with_reducible refine sg (kq108 hS) ?_
      try with_reducible refine sg (kq108 hS) ?_
      try with_reducible refine sg (kq108 hS) ?_
      rfl
  · refine sg (kq108 hS) ?_
    rfl
def gX1_written_l76  (σ : Shp) (J : Nat → Nat → Int64) (R : Nat → Nat → Option Nat) : Nat → (Nat → Nat → Int32) → (Int32) → (Int32) → Option ((Nat → Nat → Int32) × (Int32))
  | 0, _, _, _ => none
  | n + 1, I, x3, x4 =>
    if x3 ≤ x4 then
      if x3 ≤ 0 then
        gX1_written_b124 σ J R I x3
      else
        let I10 := u2 I 108 4 ((I 108 4) + (1 : Int32))
        gX1_written_b124 σ J R I10 x3
    else
      if ¬ (x4 < 0 ∨ 64 ≤ Int32.toNatClampNeg x4) then
      if ¬ ((((I 108 4) * (64 : Int32)) + x4) < 0 ∨ 1280 ≤ Int32.toNatClampNeg (((I 108 4) * (64 : Int32)) + x4)) then
      let I13 := u2 I 109 (Int32.toNatClampNeg (((I 108 4) * (64 : Int32)) + x4)) (I 110 (Int32.toNatClampNeg x4))
      let v14 := x4 + (1 : Int32)
      gX1_written_l76 σ J R n I13 x3 v14
      else none
      else none
theorem eX1_written_l76 {σ : Shp} {J : Nat → Nat → Int64} {R : Nat → Nat → Option Nat} (hS : Skel σ R) : ∀ (n : Nat) (I : Nat → Nat → Int32) (x3 : Int32) (x4 : Int32), fX1_written_l76 σ J R 108 n I x3 x4 = gX1_written_l76 σ J R n I x3 x4 := by
  intro n
  induction n with
  | zero => intro I x3 x4; rfl
  | succ n ih =>
    intro I x3 x4
    rw [fX1_written_l76, gX1_written_l76]
    refine bi (fun c => ?_) (fun c => ?_)
    · refine bi (fun c => ?_) (fun c => ?_)
      · exact eX1_written_b124 hS
      · refine sg (kq108 hS) ?_
        try with_reducible refine sg (kq108 hS) ?_
        exact eX1_written_b124 hS
    · refine sg (kq108 hS) ?_
      refine sb (rq108_0 hS) ?_
      try with_reducible refine sg (kq108 hS) ?_
      try with_reducible refine sg (kq108 hS) ?_
      refine sb (rq108_1 hS) ?_
      refine sg (kq110 hS) ?_
      refine bgr (by rw [lq110 hS]) (fun g11 => ?_)
      refine sg (kq109 hS) ?_
      refine bgr (by rw [lq109 hS]) (fun g12 => ?_)
      exact ih _ _ _
def gX1_written (σ : Shp) (I : Nat → Nat → Int32) (J : Nat → Nat → Int64) (R : Nat → Nat → Option Nat) (x1 : Int32) (x2 : Option Nat) : Option ((Nat → Nat → Int32) × (Int32)) :=
  if (I 108 5) = 0 then
    (x2 : Option Nat).bind fun a1 =>
    if kdx σ a1 = 21 then
    if (6 : Int32) < (Int32.ofNat (lnx σ a1)) then
      some (I, (-4 : Int32))
    else
      if (20 : Int32) ≤ (I 108 4) then
        some (I, (-4 : Int32))
      else
        if (I 108 3) = (2147483647 : Int32) then
          some (I, (-4 : Int32))
        else
          (gX1_fillDraft σ I J R ((I 108 3) + (1 : Int32)) x1 (some a1)).bind fun I3 =>
          if (I3 108 6) = (-1 : Int32) then
            gX1_written_l76 σ J R FUx I3 (64 : Int32) (0 : Int32)
          else
            let v5 := (fXM_minI (I3 108 6) (64 : Int32))
            gX1_written_l76 σ J R FUx I3 v5 (0 : Int32)
    else none
  else
    some (I, (-3 : Int32))
theorem eX1_written {σ : Shp} {I : Nat → Nat → Int32} {J : Nat → Nat → Int64} {R : Nat → Nat → Option Nat} {x1 : Int32} {x2 : Option Nat} (hS : Skel σ R) : fX1_written σ I J R 108 x1 x2 = gX1_written σ I J R x1 x2 := by
  unfold fX1_written gX1_written
  refine sg (kq108 hS) ?_
  refine bi (fun c => ?_) (fun c => ?_)
  · refine bb (fun a1 ha1 => ?_)
    refine bg (fun g2 => ?_)
    refine bi (fun c => ?_) (fun c => ?_)
    · rfl
    · try with_reducible refine sg (kq108 hS) ?_
      refine bi (fun c => ?_) (fun c => ?_)
      · rfl
      · try with_reducible refine sg (kq108 hS) ?_
        refine bi (fun c => ?_) (fun c => ?_)
        · rfl
        · try with_reducible refine sg (kq108 hS) ?_
          try with_reducible refine sg (kq108 hS) ?_
          refine bc (eX1_fillDraft hS) (fun I3 hc4 => ?_)
          try with_reducible refine sg (kq108 hS) ?_
          refine bi (fun c => ?_) (fun c => ?_)
          · exact eX1_written_l76 hS _ _ _ _
          · try with_reducible refine sg (kq108 hS) ?_
            exact eX1_written_l76 hS _ _ _ _
  · rfl
def gX1_numberAt_l6  (σ : Shp) (I : Nat → Nat → Int32) (R : Nat → Nat → Option Nat) : Nat → (Int32) → (Int32) → (Int32) → (Int64) → (Int32) → Option ((Int64))
  | 0, _, _, _, _, _ => none
  | n + 1, x1, x2, x3, x4, x6 =>
    if x3 ≤ x6 then
      some x4
    else
      if (fX1_isByte x1 (x2 + x6)) = 0 then
        some x4
      else
        if ¬ ((((x1 * (64 : Int32)) + x2) + x6) < 0 ∨ 1280 ≤ Int32.toNatClampNeg (((x1 * (64 : Int32)) + x2) + x6)) then
        let v2 := ((x4 <<< (Int32.toInt64 (8 : Int32) &&& 63)) ||| (Int32.toInt64 (I 109 (Int32.toNatClampNeg (((x1 * (64 : Int32)) + x2) + x6)))))
        let v3 := x6 + (1 : Int32)
        gX1_numberAt_l6 σ I R n x1 x2 x3 v2 v3
        else none
theorem eX1_numberAt_l6 {σ : Shp} {I : Nat → Nat → Int32} {R : Nat → Nat → Option Nat} (hS : Skel σ R) : ∀ (n : Nat) (x1 : Int32) (x2 : Int32) (x3 : Int32) (x4 : Int64) (x6 : Int32), fX1_numberAt_l6 σ I R 108 n x1 x2 x3 x4 x6 = gX1_numberAt_l6 σ I R n x1 x2 x3 x4 x6 := by
  intro n
  induction n with
  | zero => intro x1 x2 x3 x4 x6; rfl
  | succ n ih =>
    intro x1 x2 x3 x4 x6
    rw [fX1_numberAt_l6, gX1_numberAt_l6]
    refine bi (fun c => ?_) (fun c => ?_)
    · rfl
    · refine bi (fun c => ?_) (fun c => ?_)
      · rfl
      · refine sg (kq108 hS) ?_
        refine sb (rq108_0 hS) ?_
        refine sg (kq109 hS) ?_
        refine bgr (by rw [lq109 hS]) (fun g1 => ?_)
        exact ih _ _ _ _ _
def gX1_numberAt (σ : Shp) (I : Nat → Nat → Int32) (R : Nat → Nat → Option Nat) (x1 : Int32) (x2 : Int32) (x3 : Int32) : Option ((Int64)) :=
  gX1_numberAt_l6 σ I R FUx x1 x2 x3 (0 : Int64) (0 : Int32)
theorem eX1_numberAt {σ : Shp} {I : Nat → Nat → Int32} {R : Nat → Nat → Option Nat} {x1 : Int32} {x2 : Int32} {x3 : Int32} (hS : Skel σ R) : fX1_numberAt σ I R 108 x1 x2 x3 = gX1_numberAt σ I R x1 x2 x3 := by
  unfold fX1_numberAt gX1_numberAt
  exact eX1_numberAt_l6 hS _ _ _ _ _ _
def gX1_numberOf (σ : Shp) (I : Nat → Nat → Int32) (R : Nat → Nat → Option Nat) (x1 : Int32) : Option ((Int32)) :=
  (gX1_numberAt σ I R x1 (0 : Int32) (4 : Int32)).bind fun r1 =>
  some (Int64.toInt32 r1)
theorem eX1_numberOf {σ : Shp} {I : Nat → Nat → Int32} {R : Nat → Nat → Option Nat} {x1 : Int32} (hS : Skel σ R) : fX1_numberOf σ I R 108 x1 = gX1_numberOf σ I R x1 := by
  unfold fX1_numberOf gX1_numberOf
  refine sg (kq108 hS) ?_
  refine bc (eX1_numberAt hS) (fun r1 hc2 => ?_)
  rfl
def gX1_allZero_l3  (σ : Shp) (I : Nat → Nat → Int32) (R : Nat → Nat → Option Nat) : Nat → (Int32) → (Int32) → (Int32) → Option ((Int32))
  | 0, _, _, _ => none
  | n + 1, x1, x3, x4 =>
    if x3 ≤ x4 then
      some (1 : Int32)
    else
      (gX1_numberAt σ I R x1 x4 (1 : Int32)).bind fun r1 =>
      if r1 = (0 : Int64) then
        let v3 := x4 + (1 : Int32)
        gX1_allZero_l3 σ I R n x1 x3 v3
      else
        some (0 : Int32)
theorem eX1_allZero_l3 {σ : Shp} {I : Nat → Nat → Int32} {R : Nat → Nat → Option Nat} (hS : Skel σ R) : ∀ (n : Nat) (x1 : Int32) (x3 : Int32) (x4 : Int32), fX1_allZero_l3 σ I R 108 n x1 x3 x4 = gX1_allZero_l3 σ I R n x1 x3 x4 := by
  intro n
  induction n with
  | zero => intro x1 x3 x4; rfl
  | succ n ih =>
    intro x1 x3 x4
    rw [fX1_allZero_l3, gX1_allZero_l3]
    refine bi (fun c => ?_) (fun c => ?_)
    · rfl
    · refine sg (kq108 hS) ?_
      refine bc (eX1_numberAt hS) (fun r1 hc2 => ?_)
      refine bi (fun c => ?_) (fun c => ?_)
      · exact ih _ _ _
      · rfl
def gX1_allZero (σ : Shp) (I : Nat → Nat → Int32) (R : Nat → Nat → Option Nat) (x1 : Int32) (x2 : Int32) (x3 : Int32) : Option ((Int32)) :=
  gX1_allZero_l3 σ I R FUx x1 x3 x2
theorem eX1_allZero {σ : Shp} {I : Nat → Nat → Int32} {R : Nat → Nat → Option Nat} {x1 : Int32} {x2 : Int32} {x3 : Int32} (hS : Skel σ R) : fX1_allZero σ I R 108 x1 x2 x3 = gX1_allZero σ I R x1 x2 x3 := by
  unfold fX1_allZero gX1_allZero
  exact eX1_allZero_l3 hS _ _ _ _
def gX1_isWhole_l76  (σ : Shp) (I : Nat → Nat → Int32) (R : Nat → Nat → Option Nat) : Nat → (Int32) → (Int32) → (Int32) → (Int32) → Option ((Int32))
  | 0, _, _, _, _ => none
  | n + 1, x1, x2, x3, x4 =>
    if x3 ≤ x4 then
      (gX1_numberAt σ I R x1 (60 : Int32) (4 : Int32)).bind fun r13 =>
      (gX1_sumOf σ I (some 109) (x1 * (64 : Int32))).bind fun r15 =>
      if (Int64.toInt32 r13) = r15 then
        some (1 : Int32)
      else
        some (0 : Int32)
    else
      (gX1_numberAt σ I R x1 ((12 : Int32) + ((8 : Int32) * x4)) (8 : Int32)).bind fun r17 =>
      if r17 = (fX11_cellOf x2 r17) then
        let v19 := x4 + (1 : Int32)
        gX1_isWhole_l76 σ I R n x1 x2 x3 v19
      else
        some (0 : Int32)
theorem eX1_isWhole_l76 {σ : Shp} {I : Nat → Nat → Int32} {R : Nat → Nat → Option Nat} (hS : Skel σ R) : ∀ (n : Nat) (x1 : Int32) (x2 : Int32) (x3 : Int32) (x4 : Int32), fX1_isWhole_l76 σ I R 108 n x1 x2 x3 x4 = gX1_isWhole_l76 σ I R n x1 x2 x3 x4 := by
  intro n
  induction n with
  | zero => intro x1 x2 x3 x4; rfl
  | succ n ih =>
    intro x1 x2 x3 x4
    rw [fX1_isWhole_l76, gX1_isWhole_l76]
    refine bi (fun c => ?_) (fun c => ?_)
    · refine sg (kq108 hS) ?_
      refine bc (eX1_numberAt hS) (fun r13 hc14 => ?_)
      try with_reducible refine sg (kq108 hS) ?_
      refine sb (rq108_0 hS) ?_
      refine bc (eX1_sumOf hS) (fun r15 hc16 => ?_)
      refine bi (fun c => ?_) (fun c => ?_)
      · rfl
      · rfl
    · refine sg (kq108 hS) ?_
      refine bc (eX1_numberAt hS) (fun r17 hc18 => ?_)
      refine bi (fun c => ?_) (fun c => ?_)
      · exact ih _ _ _ _
      · rfl
def gX1_isWhole (σ : Shp) (I : Nat → Nat → Int32) (R : Nat → Nat → Option Nat) (x1 : Int32) : Option ((Int32)) :=
  (gX1_numberAt σ I R x1 (4 : Int32) (1 : Int32)).bind fun r1 =>
  let v3 := (Int64.toInt32 r1)
  (gX1_numberAt σ I R x1 (5 : Int32) (1 : Int32)).bind fun r4 =>
  let v6 := (Int64.toInt32 r4)
  (gX1_numberOf σ I R x1).bind fun r7 =>
  if r7 < (1 : Int32) then
    some (0 : Int32)
  else
    if (fX1_writes v3) = 0 then
      some (0 : Int32)
    else
      if v6 ≤ (6 : Int32) then
        (gX1_allZero σ I R x1 (6 : Int32) (12 : Int32)).bind fun r9 =>
        if r9 = 0 then
          some (0 : Int32)
        else
          (gX1_allZero σ I R x1 ((12 : Int32) + ((8 : Int32) * v6)) (60 : Int32)).bind fun r11 =>
          if r11 = 0 then
            some (0 : Int32)
          else
            gX1_isWhole_l76 σ I R FUx x1 v3 v6 (0 : Int32)
      else
        some (0 : Int32)
theorem eX1_isWhole {σ : Shp} {I : Nat → Nat → Int32} {R : Nat → Nat → Option Nat} {x1 : Int32} (hS : Skel σ R) : fX1_isWhole σ I R 108 x1 = gX1_isWhole σ I R x1 := by
  unfold fX1_isWhole gX1_isWhole
  refine sg (kq108 hS) ?_
  refine bc (eX1_numberAt hS) (fun r1 hc2 => ?_)
  try with_reducible refine sg (kq108 hS) ?_
  refine bc (eX1_numberAt hS) (fun r4 hc5 => ?_)
  try with_reducible refine sg (kq108 hS) ?_
  refine bc (eX1_numberOf hS) (fun r7 hc8 => ?_)
  refine bi (fun c => ?_) (fun c => ?_)
  · rfl
  · refine bi (fun c => ?_) (fun c => ?_)
    · rfl
    · refine bi (fun c => ?_) (fun c => ?_)
      · try with_reducible refine sg (kq108 hS) ?_
        refine bc (eX1_allZero hS) (fun r9 hc10 => ?_)
        refine bi (fun c => ?_) (fun c => ?_)
        · rfl
        · try with_reducible refine sg (kq108 hS) ?_
          refine bc (eX1_allZero hS) (fun r11 hc12 => ?_)
          refine bi (fun c => ?_) (fun c => ?_)
          · rfl
          · exact eX1_isWhole_l76 hS _ _ _ _ _
      · rfl
def gX1_leastWith_l2  (σ : Shp) (I : Nat → Nat → Int32) (R : Nat → Nat → Option Nat) : Nat → (Int32) → (Int32) → Option ((Int32))
  | 0, _, _ => none
  | n + 1, x1, x2 =>
    if x1 ≤ x2 then
      some x1
    else
      (gX1_numberOf σ I R x2).bind fun r1 =>
      (gX1_numberOf σ I R x1).bind fun r3 =>
      if r1 = r3 then
        (gX1_isWhole σ I R x2).bind fun r6 =>
        if r6 = 0 then
          let v8 := x2 + (1 : Int32)
          gX1_leastWith_l2 σ I R n x1 v8
        else
          some x2
      else
        let v5 := x2 + (1 : Int32)
        gX1_leastWith_l2 σ I R n x1 v5
theorem eX1_leastWith_l2 {σ : Shp} {I : Nat → Nat → Int32} {R : Nat → Nat → Option Nat} (hS : Skel σ R) : ∀ (n : Nat) (x1 : Int32) (x2 : Int32), fX1_leastWith_l2 σ I R 108 n x1 x2 = gX1_leastWith_l2 σ I R n x1 x2 := by
  intro n
  induction n with
  | zero => intro x1 x2; rfl
  | succ n ih =>
    intro x1 x2
    rw [fX1_leastWith_l2, gX1_leastWith_l2]
    refine bi (fun c => ?_) (fun c => ?_)
    · rfl
    · refine sg (kq108 hS) ?_
      refine bc (eX1_numberOf hS) (fun r1 hc2 => ?_)
      try with_reducible refine sg (kq108 hS) ?_
      refine bc (eX1_numberOf hS) (fun r3 hc4 => ?_)
      refine bi (fun c => ?_) (fun c => ?_)
      · try with_reducible refine sg (kq108 hS) ?_
        refine bc (eX1_isWhole hS) (fun r6 hc7 => ?_)
        refine bi (fun c => ?_) (fun c => ?_)
        · exact ih _ _
        · rfl
      · exact ih _ _
def gX1_leastWith (σ : Shp) (I : Nat → Nat → Int32) (R : Nat → Nat → Option Nat) (x1 : Int32) : Option ((Int32)) :=
  gX1_leastWith_l2 σ I R FUx x1 (0 : Int32)
theorem eX1_leastWith {σ : Shp} {I : Nat → Nat → Int32} {R : Nat → Nat → Option Nat} {x1 : Int32} (hS : Skel σ R) : fX1_leastWith σ I R 108 x1 = gX1_leastWith σ I R x1 := by
  unfold fX1_leastWith gX1_leastWith
  exact eX1_leastWith_l2 hS _ _ _
def gX1_gatherRead_l29 (q4 : (Nat → Nat → Int32) → (Int32) → (Int32) → (Option ((Nat → Nat → Int32) × (Int32)))) (σ : Shp) (R : Nat → Nat → Option Nat) : Nat → (Nat → Nat → Int32) → (Int32) → (Int32) → (Int32) → Option ((Nat → Nat → Int32) × (Int32))
  | 0, _, _, _, _ => none
  | n + 1, I, x1, x2, x3 =>
    if x3 ≤ 0 then
      if ¬ (x3 < 0 ∨ 20 ≤ Int32.toNatClampNeg x3) then
      let I8 := u2 I 111 (Int32.toNatClampNeg x3) x2
      let v9 := x1 + (1 : Int32)
      let v10 := x2 + (1 : Int32)
      q4 I8 v9 v10
      else none
    else
      if ¬ ((x3 - (1 : Int32)) < 0 ∨ 20 ≤ Int32.toNatClampNeg (x3 - (1 : Int32))) then
      (gX1_numberOf σ I R (I 111 (Int32.toNatClampNeg (x3 - (1 : Int32))))).bind fun r12 =>
      (gX1_numberOf σ I R x2).bind fun r14 =>
      if r12 ≤ r14 then
        if ¬ (x3 < 0 ∨ 20 ≤ Int32.toNatClampNeg x3) then
        let I17 := u2 I 111 (Int32.toNatClampNeg x3) x2
        let v18 := x1 + (1 : Int32)
        let v19 := x2 + (1 : Int32)
        q4 I17 v18 v19
        else none
      else
        if ¬ (x3 < 0 ∨ 20 ≤ Int32.toNatClampNeg x3) then
        let I21 := u2 I 111 (Int32.toNatClampNeg x3) (I 111 (Int32.toNatClampNeg (x3 - (1 : Int32))))
        let v22 := x3 + (-1 : Int32)
        gX1_gatherRead_l29 q4 σ R n I21 x1 x2 v22
        else none
      else none
theorem eX1_gatherRead_l29 {σ : Shp} {R : Nat → Nat → Option Nat} (hS : Skel σ R) {qf4 q4 : (Nat → Nat → Int32) → (Int32) → (Int32) → (Option ((Nat → Nat → Int32) × (Int32)))} (hq4 : ∀ (I : Nat → Nat → Int32) (x1 : Int32) (x2 : Int32), qf4 I x1 x2 = q4 I x1 x2) : ∀ (n : Nat) (I : Nat → Nat → Int32) (x1 : Int32) (x2 : Int32) (x3 : Int32), fX1_gatherRead_l29 qf4 σ R 108 n I x1 x2 x3 = gX1_gatherRead_l29 q4 σ R n I x1 x2 x3 := by
  intro n
  induction n with
  | zero => intro I x1 x2 x3; rfl
  | succ n ih =>
    intro I x1 x2 x3
    rw [fX1_gatherRead_l29, gX1_gatherRead_l29]
    refine bi (fun c => ?_) (fun c => ?_)
    · refine sg (kq108 hS) ?_
      refine sb (rq108_2 hS) ?_
      refine sg (kq111 hS) ?_
      refine bgr (by rw [lq111 hS]) (fun g7 => ?_)
      exact hq4 _ _ _
    · refine sg (kq108 hS) ?_
      refine sb (rq108_2 hS) ?_
      refine sg (kq111 hS) ?_
      refine bgr (by rw [lq111 hS]) (fun g11 => ?_)
      try with_reducible refine sg (kq108 hS) ?_
      refine bc (eX1_numberOf hS) (fun r12 hc13 => ?_)
      try with_reducible refine sg (kq108 hS) ?_
      refine bc (eX1_numberOf hS) (fun r14 hc15 => ?_)
      refine bi (fun c => ?_) (fun c => ?_)
      · try with_reducible refine sg (kq108 hS) ?_
        try with_reducible refine sg (kq111 hS) ?_
        refine bgr (by rw [lq111 hS]) (fun g16 => ?_)
        exact hq4 _ _ _
      · try with_reducible refine sg (kq108 hS) ?_
        try with_reducible refine sg (kq108 hS) ?_
        try with_reducible refine sg (kq111 hS) ?_
        try with_reducible refine sg (by rw [lq111 hS]; exact g11) ?_
        try with_reducible refine sg (kq111 hS) ?_
        refine bgr (by rw [lq111 hS]) (fun g20 => ?_)
        exact ih _ _ _ _
def gX1_gatherRead_l4  (σ : Shp) (R : Nat → Nat → Option Nat) : Nat → (Nat → Nat → Int32) → (Int32) → (Int32) → Option ((Nat → Nat → Int32) × (Int32))
  | 0, _, _, _ => none
  | n + 1, I, x1, x2 =>
    if (20 : Int32) ≤ x2 then
      some (I, x1)
    else
      (gX1_isWhole σ I R x2).bind fun r1 =>
      if r1 = 0 then
        let v3 := x2 + (1 : Int32)
        gX1_gatherRead_l4 σ R n I x1 v3
      else
        (gX1_leastWith σ I R x2).bind fun r4 =>
        if r4 = x2 then
          gX1_gatherRead_l29 (gX1_gatherRead_l4 σ R n) σ R FUx I x1 x2 x1
        else
          let v6 := x2 + (1 : Int32)
          gX1_gatherRead_l4 σ R n I x1 v6
theorem eX1_gatherRead_l4 {σ : Shp} {R : Nat → Nat → Option Nat} (hS : Skel σ R) : ∀ (n : Nat) (I : Nat → Nat → Int32) (x1 : Int32) (x2 : Int32), fX1_gatherRead_l4 σ R 108 n I x1 x2 = gX1_gatherRead_l4 σ R n I x1 x2 := by
  intro n
  induction n with
  | zero => intro I x1 x2; rfl
  | succ n ih =>
    intro I x1 x2
    rw [fX1_gatherRead_l4, gX1_gatherRead_l4]
    refine bi (fun c => ?_) (fun c => ?_)
    · rfl
    · refine sg (kq108 hS) ?_
      refine bc (eX1_isWhole hS) (fun r1 hc2 => ?_)
      refine bi (fun c => ?_) (fun c => ?_)
      · exact ih _ _ _
      · try with_reducible refine sg (kq108 hS) ?_
        refine bc (eX1_leastWith hS) (fun r4 hc5 => ?_)
        refine bi (fun c => ?_) (fun c => ?_)
        · exact eX1_gatherRead_l29 hS ih _ _ _ _ _
        · exact ih _ _ _
def gX1_gatherRead (σ : Shp) (I : Nat → Nat → Int32) (R : Nat → Nat → Option Nat) : Option ((Nat → Nat → Int32) × (Int32)) :=
  gX1_gatherRead_l4 σ R FUx I (0 : Int32) (0 : Int32)
theorem eX1_gatherRead {σ : Shp} {I : Nat → Nat → Int32} {R : Nat → Nat → Option Nat}  (hS : Skel σ R) : fX1_gatherRead σ I R 108 = gX1_gatherRead σ I R := by
  unfold fX1_gatherRead gX1_gatherRead
  exact eX1_gatherRead_l4 hS _ _ _ _
def gX1_opened_l46  (σ : Shp) (R : Nat → Nat → Option Nat) : Nat → (Nat → Nat → Int32) → (Int32) → (Int32) → Option ((Nat → Nat → Int32) × (Int32))
  | 0, _, _, _ => none
  | n + 1, I, x1, x2 =>
    if (20 : Int32) ≤ x2 then
      some (I, x1)
    else
      (gX1_allZero σ I R x2 (0 : Int32) (64 : Int32)).bind fun r11 =>
      if r11 = 0 then
        let I14 := u2 I 108 4 (x2 + (1 : Int32))
        let v15 := x2 + (1 : Int32)
        gX1_opened_l46 σ R n I14 x1 v15
      else
        let v13 := x2 + (1 : Int32)
        gX1_opened_l46 σ R n I x1 v13
theorem eX1_opened_l46 {σ : Shp} {R : Nat → Nat → Option Nat} (hS : Skel σ R) : ∀ (n : Nat) (I : Nat → Nat → Int32) (x1 : Int32) (x2 : Int32), fX1_opened_l46 σ R 108 n I x1 x2 = gX1_opened_l46 σ R n I x1 x2 := by
  intro n
  induction n with
  | zero => intro I x1 x2; rfl
  | succ n ih =>
    intro I x1 x2
    rw [fX1_opened_l46, gX1_opened_l46]
    refine bi (fun c => ?_) (fun c => ?_)
    · rfl
    · refine sg (kq108 hS) ?_
      refine bc (eX1_allZero hS) (fun r11 hc12 => ?_)
      refine bi (fun c => ?_) (fun c => ?_)
      · try with_reducible refine sg (kq108 hS) ?_
        exact ih _ _ _
      · exact ih _ _ _
def gX1_opened (σ : Shp) (I : Nat → Nat → Int32) (R : Nat → Nat → Option Nat) : Option ((Nat → Nat → Int32) × (Int32)) :=
  let I1 := u2 I 108 6 (-1 : Int32)
  let I2 := u2 I1 108 5 (0 : Int32)
  (gX1_gatherRead σ I2 R).bind fun (I3, r4) =>
  if r4 = 0 then
    let I16 := u2 I3 108 3 (0 : Int32)
    let I17 := u2 I16 108 4 (0 : Int32)
    gX1_opened_l46 σ R FUx I17 r4 (0 : Int32)
  else
    if ¬ ((r4 - (1 : Int32)) < 0 ∨ 20 ≤ Int32.toNatClampNeg (r4 - (1 : Int32))) then
    (gX1_numberOf σ I3 R (I3 111 (Int32.toNatClampNeg (r4 - (1 : Int32))))).bind fun r7 =>
    let I9 := u2 I3 108 3 r7
    let I10 := u2 I9 108 4 (0 : Int32)
    gX1_opened_l46 σ R FUx I10 r4 (0 : Int32)
    else none
theorem eX1_opened {σ : Shp} {I : Nat → Nat → Int32} {R : Nat → Nat → Option Nat}  (hS : Skel σ R) : fX1_opened σ I R 108 = gX1_opened σ I R := by
  unfold fX1_opened gX1_opened
  refine sg (kq108 hS) ?_
  try with_reducible refine sg (kq108 hS) ?_
  try with_reducible refine sg (kq108 hS) ?_
  refine bc (eX1_gatherRead hS) (fun pp hc5 => ?_)
  obtain ⟨I3, r4⟩ := pp
  refine bi (fun c => ?_) (fun c => ?_)
  · try with_reducible refine sg (kq108 hS) ?_
    try with_reducible refine sg (kq108 hS) ?_
    exact eX1_opened_l46 hS _ _ _ _
  · try with_reducible refine sg (kq108 hS) ?_
    refine sb (rq108_2 hS) ?_
    refine sg (kq111 hS) ?_
    refine bgr (by rw [lq111 hS]) (fun g6 => ?_)
    try with_reducible refine sg (kq108 hS) ?_
    refine bc (eX1_numberOf hS) (fun r7 hc8 => ?_)
    try with_reducible refine sg (kq108 hS) ?_
    try with_reducible refine sg (kq108 hS) ?_
    exact eX1_opened_l46 hS _ _ _ _
def gX1_readOf (σ : Shp) (I : Nat → Nat → Int32) (R : Nat → Nat → Option Nat) (x1 : Int32) (x2 : Int32) : Option ((Nat → Nat → Int32) × (Int64)) :=
  if x1 < 0 then
    some (I, (-1 : Int64))
  else
    (gX1_gatherRead σ I R).bind fun (I1, r2) =>
    if r2 ≤ x1 then
      some (I1, (-1 : Int64))
    else
      if x1 < (20 : Int32) then
        if ¬ (x1 < 0 ∨ 20 ≤ Int32.toNatClampNeg x1) then
        let v5 := (I1 111 (Int32.toNatClampNeg x1))
        (gX1_numberAt σ I1 R v5 (5 : Int32) (1 : Int32)).bind fun r6 =>
        let v8 := (Int64.toInt32 r6)
        if x2 = (0 : Int32) then
          some (I1, (Int32.toInt64 v5))
        else
        if x2 = (1 : Int32) then
          (gX1_numberOf σ I1 R v5).bind fun r17 =>
          some (I1, (Int32.toInt64 r17))
        else
        if x2 = (2 : Int32) then
          (gX1_numberAt σ I1 R v5 (4 : Int32) (1 : Int32)).bind fun r15 =>
          some (I1, r15)
        else
        if x2 = (3 : Int32) then
          some (I1, (Int32.toInt64 v8))
        else
        if x2 < (10 : Int32) then
          some (I1, (-1 : Int64))
        else
          if ((10 : Int32) + v8) ≤ x2 then
            some (I1, (-1 : Int64))
          else
            (gX1_numberAt σ I1 R v5 ((12 : Int32) + ((8 : Int32) * (x2 - (10 : Int32)))) (8 : Int32)).bind fun r13 =>
            some (I1, r13)
        else none
      else
        some (I1, (-1 : Int64))
theorem eX1_readOf {σ : Shp} {I : Nat → Nat → Int32} {R : Nat → Nat → Option Nat} {x1 : Int32} {x2 : Int32} (hS : Skel σ R) : fX1_readOf σ I R 108 x1 x2 = gX1_readOf σ I R x1 x2 := by
  unfold fX1_readOf gX1_readOf
  refine bi (fun c => ?_) (fun c => ?_)
  · rfl
  · refine sg (kq108 hS) ?_
    refine bc (eX1_gatherRead hS) (fun pp hc3 => ?_)
    obtain ⟨I1, r2⟩ := pp
    refine bi (fun c => ?_) (fun c => ?_)
    · rfl
    · refine bi (fun c => ?_) (fun c => ?_)
      · try with_reducible refine sg (kq108 hS) ?_
        refine sb (rq108_2 hS) ?_
        refine sg (kq111 hS) ?_
        refine bgr (by rw [lq111 hS]) (fun g4 => ?_)
        try with_reducible refine sg (kq108 hS) ?_
        refine bc (eX1_numberAt hS) (fun r6 hc7 => ?_)
        refine bi (fun c => ?_) (fun c => ?_)
        · rfl
        · refine bi (fun c => ?_) (fun c => ?_)
          · try with_reducible refine sg (kq108 hS) ?_
            refine bc (eX1_numberOf hS) (fun r17 hc18 => ?_)
            rfl
          · refine bi (fun c => ?_) (fun c => ?_)
            · try with_reducible refine sg (kq108 hS) ?_
              refine bc (eX1_numberAt hS) (fun r15 hc16 => ?_)
              rfl
            · refine bi (fun c => ?_) (fun c => ?_)
              · rfl
              · refine bi (fun c => ?_) (fun c => ?_)
                · rfl
                · refine bi (fun c => ?_) (fun c => ?_)
                  · rfl
                  · try with_reducible refine sg (kq108 hS) ?_
                    refine bc (eX1_numberAt hS) (fun r13 hc14 => ?_)
                    rfl
      · rfl
def gX1_samePages_l2  (σ : Shp) (I : Nat → Nat → Int32) (R : Nat → Nat → Option Nat) : Nat → (Int32) → (Int32) → (Int32) → Option ((Int32))
  | 0, _, _, _ => none
  | n + 1, x1, x2, x3 =>
    if (64 : Int32) ≤ x3 then
      some (1 : Int32)
    else
      (gX1_numberAt σ I R x1 x3 (1 : Int32)).bind fun r1 =>
      (gX1_numberAt σ I R x2 x3 (1 : Int32)).bind fun r3 =>
      if r1 = r3 then
        let v5 := x3 + (1 : Int32)
        gX1_samePages_l2 σ I R n x1 x2 v5
      else
        some (0 : Int32)
theorem eX1_samePages_l2 {σ : Shp} {I : Nat → Nat → Int32} {R : Nat → Nat → Option Nat} (hS : Skel σ R) : ∀ (n : Nat) (x1 : Int32) (x2 : Int32) (x3 : Int32), fX1_samePages_l2 σ I R 108 n x1 x2 x3 = gX1_samePages_l2 σ I R n x1 x2 x3 := by
  intro n
  induction n with
  | zero => intro x1 x2 x3; rfl
  | succ n ih =>
    intro x1 x2 x3
    rw [fX1_samePages_l2, gX1_samePages_l2]
    refine bi (fun c => ?_) (fun c => ?_)
    · rfl
    · refine sg (kq108 hS) ?_
      refine bc (eX1_numberAt hS) (fun r1 hc2 => ?_)
      try with_reducible refine sg (kq108 hS) ?_
      refine bc (eX1_numberAt hS) (fun r3 hc4 => ?_)
      refine bi (fun c => ?_) (fun c => ?_)
      · exact ih _ _ _
      · rfl
def gX1_samePages (σ : Shp) (I : Nat → Nat → Int32) (R : Nat → Nat → Option Nat) (x1 : Int32) (x2 : Int32) : Option ((Int32)) :=
  gX1_samePages_l2 σ I R FUx x1 x2 (0 : Int32)
theorem eX1_samePages {σ : Shp} {I : Nat → Nat → Int32} {R : Nat → Nat → Option Nat} {x1 : Int32} {x2 : Int32} (hS : Skel σ R) : fX1_samePages σ I R 108 x1 x2 = gX1_samePages σ I R x1 x2 := by
  unfold fX1_samePages gX1_samePages
  exact eX1_samePages_l2 hS _ _ _ _
def gX1_clashes_l4  (σ : Shp) (I : Nat → Nat → Int32) (R : Nat → Nat → Option Nat) : Nat → (Int32) → (Int32) → Option ((Int32))
  | 0, _, _ => none
  | n + 1, x1, x2 =>
    if (20 : Int32) ≤ x2 then
      some x1
    else
      (gX1_isWhole σ I R x2).bind fun r1 =>
      if r1 = 0 then
        let v3 := x2 + (1 : Int32)
        gX1_clashes_l4 σ I R n x1 v3
      else
        (gX1_leastWith σ I R x2).bind fun r4 =>
        (gX1_samePages σ I R x2 r4).bind fun r6 =>
        if r6 = 0 then
          let v9 := x1 + (1 : Int32)
          let v10 := x2 + (1 : Int32)
          gX1_clashes_l4 σ I R n v9 v10
        else
          let v8 := x2 + (1 : Int32)
          gX1_clashes_l4 σ I R n x1 v8
theorem eX1_clashes_l4 {σ : Shp} {I : Nat → Nat → Int32} {R : Nat → Nat → Option Nat} (hS : Skel σ R) : ∀ (n : Nat) (x1 : Int32) (x2 : Int32), fX1_clashes_l4 σ I R 108 n x1 x2 = gX1_clashes_l4 σ I R n x1 x2 := by
  intro n
  induction n with
  | zero => intro x1 x2; rfl
  | succ n ih =>
    intro x1 x2
    rw [fX1_clashes_l4, gX1_clashes_l4]
    refine bi (fun c => ?_) (fun c => ?_)
    · rfl
    · refine sg (kq108 hS) ?_
      refine bc (eX1_isWhole hS) (fun r1 hc2 => ?_)
      refine bi (fun c => ?_) (fun c => ?_)
      · exact ih _ _
      · try with_reducible refine sg (kq108 hS) ?_
        refine bc (eX1_leastWith hS) (fun r4 hc5 => ?_)
        try with_reducible refine sg (kq108 hS) ?_
        refine bc (eX1_samePages hS) (fun r6 hc7 => ?_)
        refine bi (fun c => ?_) (fun c => ?_)
        · exact ih _ _
        · exact ih _ _
def gX1_clashes (σ : Shp) (I : Nat → Nat → Int32) (R : Nat → Nat → Option Nat) : Option ((Int32)) :=
  gX1_clashes_l4 σ I R FUx (0 : Int32) (0 : Int32)
theorem eX1_clashes {σ : Shp} {I : Nat → Nat → Int32} {R : Nat → Nat → Option Nat}  (hS : Skel σ R) : fX1_clashes σ I R 108 = gX1_clashes σ I R := by
  unfold fX1_clashes gX1_clashes
  exact eX1_clashes_l4 hS _ _ _
def gX2_becomes (I : Nat → Nat → Int32) (x1 : Int32) (x2 : Int32) (x3 : Int32) : Option ((Nat → Nat → Int32) × (Int32)) :=
  if ¬ (x1 < 0 ∨ 6 ≤ Int32.toNatClampNeg x1) then
  if ¬ (x2 < 0 ∨ 3 ≤ Int32.toNatClampNeg x2) then
  let v3 := (I (73 + Int32.toNatClampNeg x1) (Int32.toNatClampNeg x2))
  let I4 := u2 I (73 + Int32.toNatClampNeg x1) (Int32.toNatClampNeg x2) x3
  some (I4, v3)
  else none
  else none
theorem eX2_becomes {σ : Shp} {I : Nat → Nat → Int32} {R : Nat → Nat → Option Nat} {x1 : Int32} {x2 : Int32} {x3 : Int32} (hS : Skel σ R) : fX2_becomes σ I R 71 x1 x2 x3 = gX2_becomes I x1 x2 x3 := by
  unfold fX2_becomes gX2_becomes
  refine sg (kq71 hS) ?_
  refine sb (rq71_0 hS) ?_
  refine sg (kq72 hS) ?_
  refine bgr (by rw [lq72 hS]) (fun g1 => ?_)
  refine sb (rr72 hS g1) ?_
  refine sg (kr72 hS g1) ?_
  refine bgr (by rw [lr72 hS g1]) (fun g2 => ?_)
  try with_reducible refine sg (kq71 hS) ?_
  try with_reducible refine sg (kq72 hS) ?_
  try with_reducible refine sg (by rw [lq72 hS]; exact g1) ?_
  try with_reducible refine sg (kr72 hS g1) ?_
  try with_reducible refine sg (by rw [lr72 hS g1]; exact g2) ?_
  rfl
def gX2_outcome (I : Nat → Nat → Int32) (J : Nat → Nat → Int64) (x1 : Int32) (x2 : Int32) : Option ((Int64)) :=
  if x1 = (0 : Int32) then
    if x2 < 0 then
      some (0 : Int64)
    else
      if (4 : Int32) ≤ x2 then
        some (0 : Int64)
      else
        if ¬ (x2 < 0 ∨ 4 ≤ Int32.toNatClampNeg x2) then
        some (J 88 (Int32.toNatClampNeg x2))
        else none
  else
  if x1 = (1 : Int32) then
    if x2 < 0 then
      some (0 : Int64)
    else
      if (4 : Int32) ≤ x2 then
        some (0 : Int64)
      else
        if ¬ (x2 < 0 ∨ 4 ≤ Int32.toNatClampNeg x2) then
        some (J 89 (Int32.toNatClampNeg x2))
        else none
  else
  if x1 = (2 : Int32) then
    if x2 < 0 then
      some (0 : Int64)
    else
      if (3 : Int32) ≤ x2 then
        some (0 : Int64)
      else
        if ¬ (x2 < 0 ∨ 3 ≤ Int32.toNatClampNeg x2) then
        some (J 90 (Int32.toNatClampNeg x2))
        else none
  else
  if x1 = (3 : Int32) then
    some (Int32.toInt64 (I 71 7))
  else
  some (0 : Int64)
theorem eX2_outcome {σ : Shp} {I : Nat → Nat → Int32} {J : Nat → Nat → Int64} {R : Nat → Nat → Option Nat} {x1 : Int32} {x2 : Int32} (hS : Skel σ R) : fX2_outcome σ I J R 71 x1 x2 = gX2_outcome I J x1 x2 := by
  unfold fX2_outcome gX2_outcome
  refine bi (fun c => ?_) (fun c => ?_)
  · refine bi (fun c => ?_) (fun c => ?_)
    · rfl
    · refine bi (fun c => ?_) (fun c => ?_)
      · rfl
      · refine sg (kq71 hS) ?_
        refine sb (rq71_4 hS) ?_
        refine sg (kq88 hS) ?_
        refine bgr (by rw [lq88 hS]) (fun g7 => ?_)
        rfl
  · refine bi (fun c => ?_) (fun c => ?_)
    · refine bi (fun c => ?_) (fun c => ?_)
      · rfl
      · refine bi (fun c => ?_) (fun c => ?_)
        · rfl
        · refine sg (kq71 hS) ?_
          refine sb (rq71_5 hS) ?_
          refine sg (kq89 hS) ?_
          refine bgr (by rw [lq89 hS]) (fun g6 => ?_)
          rfl
    · refine bi (fun c => ?_) (fun c => ?_)
      · refine bi (fun c => ?_) (fun c => ?_)
        · rfl
        · refine bi (fun c => ?_) (fun c => ?_)
          · rfl
          · refine sg (kq71 hS) ?_
            refine sb (rq71_6 hS) ?_
            refine sg (kq90 hS) ?_
            refine bgr (by rw [lq90 hS]) (fun g5 => ?_)
            rfl
      · refine bi (fun c => ?_) (fun c => ?_)
        · refine sg (kq71 hS) ?_
          rfl
        · rfl
def gX2_clearOutcome_l34  (σ : Shp) (R : Nat → Nat → Option Nat) : Nat → (Nat → Nat → Int32) → (Nat → Nat → Int64) → (Int32) → Option ((Nat → Nat → Int32) × (Nat → Nat → Int64))
  | 0, _, _, _ => none
  | n + 1, I, J, x1 =>
    if (3 : Int32) ≤ x1 then
      some (I, J)
    else
      if ¬ (x1 < 0 ∨ 3 ≤ Int32.toNatClampNeg x1) then
      let J3 := u2 J 90 (Int32.toNatClampNeg x1) (0 : Int64)
      let v4 := x1 + (1 : Int32)
      gX2_clearOutcome_l34 σ R n I J3 v4
      else none
theorem eX2_clearOutcome_l34 {σ : Shp} {R : Nat → Nat → Option Nat} (hS : Skel σ R) : ∀ (n : Nat) (I : Nat → Nat → Int32) (J : Nat → Nat → Int64) (x1 : Int32), fX2_clearOutcome_l34 σ R 71 n I J x1 = gX2_clearOutcome_l34 σ R n I J x1 := by
  intro n
  induction n with
  | zero => intro I J x1; rfl
  | succ n ih =>
    intro I J x1
    rw [fX2_clearOutcome_l34, gX2_clearOutcome_l34]
    refine bi (fun c => ?_) (fun c => ?_)
    · rfl
    · refine sg (kq71 hS) ?_
      refine sb (rq71_6 hS) ?_
      refine sg (kq90 hS) ?_
      refine bgr (by rw [lq90 hS]) (fun g2 => ?_)
      exact ih _ _ _
def gX2_clearOutcome_l7  (σ : Shp) (R : Nat → Nat → Option Nat) : Nat → (Nat → Nat → Int32) → (Nat → Nat → Int64) → (Int32) → Option ((Nat → Nat → Int32) × (Nat → Nat → Int64))
  | 0, _, _, _ => none
  | n + 1, I, J, x1 =>
    if (4 : Int32) ≤ x1 then
      gX2_clearOutcome_l34 σ R FUx I J (0 : Int32)
    else
      if ¬ (x1 < 0 ∨ 4 ≤ Int32.toNatClampNeg x1) then
      let J6 := u2 J 88 (Int32.toNatClampNeg x1) (0 : Int64)
      if ¬ (x1 < 0 ∨ 4 ≤ Int32.toNatClampNeg x1) then
      let J8 := u2 J6 89 (Int32.toNatClampNeg x1) (0 : Int64)
      let v9 := x1 + (1 : Int32)
      gX2_clearOutcome_l7 σ R n I J8 v9
      else none
      else none
theorem eX2_clearOutcome_l7 {σ : Shp} {R : Nat → Nat → Option Nat} (hS : Skel σ R) : ∀ (n : Nat) (I : Nat → Nat → Int32) (J : Nat → Nat → Int64) (x1 : Int32), fX2_clearOutcome_l7 σ R 71 n I J x1 = gX2_clearOutcome_l7 σ R n I J x1 := by
  intro n
  induction n with
  | zero => intro I J x1; rfl
  | succ n ih =>
    intro I J x1
    rw [fX2_clearOutcome_l7, gX2_clearOutcome_l7]
    refine bi (fun c => ?_) (fun c => ?_)
    · exact eX2_clearOutcome_l34 hS _ _ _ _
    · refine sg (kq71 hS) ?_
      refine sb (rq71_4 hS) ?_
      refine sg (kq88 hS) ?_
      refine bgr (by rw [lq88 hS]) (fun g5 => ?_)
      try with_reducible refine sg (kq71 hS) ?_
      refine sb (rq71_5 hS) ?_
      refine sg (kq89 hS) ?_
      refine bgr (by rw [lq89 hS]) (fun g7 => ?_)
      exact ih _ _ _
def gX2_clearOutcome (σ : Shp) (I : Nat → Nat → Int32) (J : Nat → Nat → Int64) (R : Nat → Nat → Option Nat) : Option ((Nat → Nat → Int32) × (Nat → Nat → Int64)) :=
  let I1 := u2 I 71 7 (0 : Int32)
  gX2_clearOutcome_l7 σ R FUx I1 J (0 : Int32)
theorem eX2_clearOutcome {σ : Shp} {I : Nat → Nat → Int32} {J : Nat → Nat → Int64} {R : Nat → Nat → Option Nat}  (hS : Skel σ R) : fX2_clearOutcome σ I J R 71 = gX2_clearOutcome σ I J R := by
  unfold fX2_clearOutcome gX2_clearOutcome
  refine sg (kq71 hS) ?_
  exact eX2_clearOutcome_l7 hS _ _ _ _
def gX2_fillRows_l9 (q2 : (Nat → Nat → Int64) → (Int32) → (Option ((Nat → Nat → Int64)))) (σ : Shp) (I : Nat → Nat → Int32) (R : Nat → Nat → Option Nat) : Nat → (Nat → Nat → Int64) → (Int32) → (Int32) → Option ((Nat → Nat → Int64))
  | 0, _, _, _ => none
  | n + 1, J, x1, x2 =>
    if (8 : Int32) ≤ x2 then
      if ¬ (x1 < 0 ∨ 3 ≤ Int32.toNatClampNeg x1) then
      if ¬ ((4 : Int32) < 0 ∨ 6 ≤ Int32.toNatClampNeg (4 : Int32)) then
      if ¬ (x1 < 0 ∨ 3 ≤ Int32.toNatClampNeg x1) then
      if ¬ ((5 : Int32) < 0 ∨ 6 ≤ Int32.toNatClampNeg (5 : Int32)) then
      if ¬ (x1 < 0 ∨ 3 ≤ Int32.toNatClampNeg x1) then
      if ¬ ((4 : Int32) < 0 ∨ 8 ≤ Int32.toNatClampNeg (4 : Int32)) then
      let J7 := u2 J (80 + Int32.toNatClampNeg x1) (Int32.toNatClampNeg (4 : Int32)) (Int32.toInt64 ((I (73 + Int32.toNatClampNeg (4 : Int32)) (Int32.toNatClampNeg x1)) - (I (73 + Int32.toNatClampNeg (5 : Int32)) (Int32.toNatClampNeg x1))))
      let v8 := x1 + (1 : Int32)
      q2 J7 v8
      else none
      else none
      else none
      else none
      else none
      else none
    else
      if ¬ (x1 < 0 ∨ 3 ≤ Int32.toNatClampNeg x1) then
      if (4 : Int32) ≤ x2 then
        if x2 = ((5 : Int32) + x1) then
          if ¬ (x2 < 0 ∨ 8 ≤ Int32.toNatClampNeg x2) then
          let J17 := u2 J (80 + Int32.toNatClampNeg x1) (Int32.toNatClampNeg x2) (1 : Int64)
          if ¬ (x1 < 0 ∨ 3 ≤ Int32.toNatClampNeg x1) then
          if ¬ (x2 < 0 ∨ 8 ≤ Int32.toNatClampNeg x2) then
          let J20 := u2 J17 (84 + Int32.toNatClampNeg x1) (Int32.toNatClampNeg x2) (1 : Int64)
          let v21 := x2 + (1 : Int32)
          gX2_fillRows_l9 q2 σ I R n J20 x1 v21
          else none
          else none
          else none
        else
          if ¬ (x2 < 0 ∨ 8 ≤ Int32.toNatClampNeg x2) then
          let J11 := u2 J (80 + Int32.toNatClampNeg x1) (Int32.toNatClampNeg x2) (0 : Int64)
          if ¬ (x1 < 0 ∨ 3 ≤ Int32.toNatClampNeg x1) then
          if ¬ (x2 < 0 ∨ 8 ≤ Int32.toNatClampNeg x2) then
          let J14 := u2 J11 (84 + Int32.toNatClampNeg x1) (Int32.toNatClampNeg x2) (1 : Int64)
          let v15 := x2 + (1 : Int32)
          gX2_fillRows_l9 q2 σ I R n J14 x1 v15
          else none
          else none
          else none
      else
        if ¬ (x2 < 0 ∨ 6 ≤ Int32.toNatClampNeg x2) then
        if ¬ (x1 < 0 ∨ 3 ≤ Int32.toNatClampNeg x1) then
        if ¬ (x2 < 0 ∨ 8 ≤ Int32.toNatClampNeg x2) then
        let J25 := u2 J (80 + Int32.toNatClampNeg x1) (Int32.toNatClampNeg x2) (Int32.toInt64 (I (73 + Int32.toNatClampNeg x2) (Int32.toNatClampNeg x1)))
        if ¬ (x1 < 0 ∨ 3 ≤ Int32.toNatClampNeg x1) then
        if ¬ (x2 < 0 ∨ 8 ≤ Int32.toNatClampNeg x2) then
        let J28 := u2 J25 (84 + Int32.toNatClampNeg x1) (Int32.toNatClampNeg x2) (1 : Int64)
        let v29 := x2 + (1 : Int32)
        gX2_fillRows_l9 q2 σ I R n J28 x1 v29
        else none
        else none
        else none
        else none
        else none
      else none
theorem eX2_fillRows_l9 {σ : Shp} {I : Nat → Nat → Int32} {R : Nat → Nat → Option Nat} (hS : Skel σ R) {qf2 q2 : (Nat → Nat → Int64) → (Int32) → (Option ((Nat → Nat → Int64)))} (hq2 : ∀ (J : Nat → Nat → Int64) (x1 : Int32), qf2 J x1 = q2 J x1) : ∀ (n : Nat) (J : Nat → Nat → Int64) (x1 : Int32) (x2 : Int32), fX2_fillRows_l9 qf2 σ I R 71 n J x1 x2 = gX2_fillRows_l9 q2 σ I R n J x1 x2 := by
  intro n
  induction n with
  | zero => intro J x1 x2; rfl
  | succ n ih =>
    intro J x1 x2
    rw [fX2_fillRows_l9, gX2_fillRows_l9]
    refine bi (fun c => ?_) (fun c => ?_)
    · refine sg (kq71 hS) ?_
      refine sb (rq71_1 hS) ?_
      refine sg (kq79 hS) ?_
      refine bgr (by rw [lq79 hS]) (fun g1 => ?_)
      refine sb (rr79 hS g1) ?_
      try with_reducible refine sg (kq71 hS) ?_
      refine sb (rq71_0 hS) ?_
      refine sg (kq72 hS) ?_
      refine bgr (by rw [lq72 hS]) (fun g2 => ?_)
      refine sb (rr72 hS g2) ?_
      refine sg (kr72 hS g2) ?_
      refine bgr (by rw [lr72 hS g2]) (fun g3 => ?_)
      try with_reducible refine sg (kq71 hS) ?_
      try with_reducible refine sg (kq72 hS) ?_
      refine bgr (by rw [lq72 hS]) (fun g4 => ?_)
      refine sb (rr72 hS g4) ?_
      refine sg (kr72 hS g4) ?_
      refine bgr (by rw [lr72 hS g4]) (fun g5 => ?_)
      refine sg (kr79 hS g1) ?_
      refine bgr (by rw [lr79 hS g1]) (fun g6 => ?_)
      exact hq2 _ _
    · refine sg (kq71 hS) ?_
      refine sb (rq71_1 hS) ?_
      refine sg (kq79 hS) ?_
      refine bgr (by rw [lq79 hS]) (fun g9 => ?_)
      refine sb (rr79 hS g9) ?_
      refine bi (fun c => ?_) (fun c => ?_)
      · refine bi (fun c => ?_) (fun c => ?_)
        · refine sg (kr79 hS g9) ?_
          refine bgr (by rw [lr79 hS g9]) (fun g16 => ?_)
          try with_reducible refine sg (kq71 hS) ?_
          refine sb (rq71_2 hS) ?_
          refine sg (kq83 hS) ?_
          refine bgr (by rw [lq83 hS]) (fun g18 => ?_)
          refine sb (rr83 hS g18) ?_
          refine sg (kr83 hS g18) ?_
          refine bgr (by rw [lr83 hS g18]) (fun g19 => ?_)
          exact ih _ _ _
        · refine sg (kr79 hS g9) ?_
          refine bgr (by rw [lr79 hS g9]) (fun g10 => ?_)
          try with_reducible refine sg (kq71 hS) ?_
          refine sb (rq71_2 hS) ?_
          refine sg (kq83 hS) ?_
          refine bgr (by rw [lq83 hS]) (fun g12 => ?_)
          refine sb (rr83 hS g12) ?_
          refine sg (kr83 hS g12) ?_
          refine bgr (by rw [lr83 hS g12]) (fun g13 => ?_)
          exact ih _ _ _
      · try with_reducible refine sg (kq71 hS) ?_
        refine sb (rq71_0 hS) ?_
        refine sg (kq72 hS) ?_
        refine bgr (by rw [lq72 hS]) (fun g22 => ?_)
        refine sb (rr72 hS g22) ?_
        refine sg (kr72 hS g22) ?_
        refine bgr (by rw [lr72 hS g22]) (fun g23 => ?_)
        refine sg (kr79 hS g9) ?_
        refine bgr (by rw [lr79 hS g9]) (fun g24 => ?_)
        try with_reducible refine sg (kq71 hS) ?_
        refine sb (rq71_2 hS) ?_
        refine sg (kq83 hS) ?_
        refine bgr (by rw [lq83 hS]) (fun g26 => ?_)
        refine sb (rr83 hS g26) ?_
        refine sg (kr83 hS g26) ?_
        refine bgr (by rw [lr83 hS g26]) (fun g27 => ?_)
        exact ih _ _ _
def gX2_fillRows_l2  (σ : Shp) (I : Nat → Nat → Int32) (R : Nat → Nat → Option Nat) : Nat → (Nat → Nat → Int64) → (Int32) → Option ((Nat → Nat → Int64))
  | 0, _, _ => none
  | n + 1, J, x1 =>
    if (3 : Int32) ≤ x1 then
      some J
    else
      gX2_fillRows_l9 (gX2_fillRows_l2 σ I R n) σ I R FUx J x1 (0 : Int32)
theorem eX2_fillRows_l2 {σ : Shp} {I : Nat → Nat → Int32} {R : Nat → Nat → Option Nat} (hS : Skel σ R) : ∀ (n : Nat) (J : Nat → Nat → Int64) (x1 : Int32), fX2_fillRows_l2 σ I R 71 n J x1 = gX2_fillRows_l2 σ I R n J x1 := by
  intro n
  induction n with
  | zero => intro J x1; rfl
  | succ n ih =>
    intro J x1
    rw [fX2_fillRows_l2, gX2_fillRows_l2]
    refine bi (fun c => ?_) (fun c => ?_)
    · rfl
    · exact eX2_fillRows_l9 hS ih _ _ _ _
def gX2_fillRows (σ : Shp) (I : Nat → Nat → Int32) (J : Nat → Nat → Int64) (R : Nat → Nat → Option Nat) : Option ((Nat → Nat → Int64)) :=
  gX2_fillRows_l2 σ I R FUx J (0 : Int32)
theorem eX2_fillRows {σ : Shp} {I : Nat → Nat → Int32} {J : Nat → Nat → Int64} {R : Nat → Nat → Option Nat}  (hS : Skel σ R) : fX2_fillRows σ I J R 71 = gX2_fillRows σ I J R := by
  unfold fX2_fillRows gX2_fillRows
  exact eX2_fillRows_l2 hS _ _ _
def gX2_tellFractions_l24  (σ : Shp) (I : Nat → Nat → Int32) (R : Nat → Nat → Option Nat) : Nat → (Nat → Nat → Int64) → (Int32) → (Int32) → Option ((Nat → Nat → Int64) × (Int32))
  | 0, _, _, _ => none
  | n + 1, J, x1, x2 =>
    if (I 71 7) ≤ x2 then
      if x1 = 0 ∨ x1 = 1 then
      some (J, x1)
      else none
    else
      if (3 : Int32) ≤ x2 then
        if x1 = 0 ∨ x1 = 1 then
        some (J, x1)
        else none
      else
        if ¬ (x2 < 0 ∨ 3 ≤ Int32.toNatClampNeg x2) then
        if ¬ (x2 < 0 ∨ 3 ≤ Int32.toNatClampNeg x2) then
        if ¬ ((4 : Int32) < 0 ∨ 8 ≤ Int32.toNatClampNeg (4 : Int32)) then
        if ¬ ((I 87 (Int32.toNatClampNeg x2)) < 0 ∨ 4 ≤ Int32.toNatClampNeg (I 87 (Int32.toNatClampNeg x2))) then
        let J7 := u2 J 88 (Int32.toNatClampNeg (I 87 (Int32.toNatClampNeg x2))) (J (80 + Int32.toNatClampNeg x2) (Int32.toNatClampNeg (4 : Int32)))
        if ¬ (x2 < 0 ∨ 3 ≤ Int32.toNatClampNeg x2) then
        if ¬ ((4 : Int32) < 0 ∨ 8 ≤ Int32.toNatClampNeg (4 : Int32)) then
        if ¬ ((I 87 (Int32.toNatClampNeg x2)) < 0 ∨ 4 ≤ Int32.toNatClampNeg (I 87 (Int32.toNatClampNeg x2))) then
        let J11 := u2 J7 89 (Int32.toNatClampNeg (I 87 (Int32.toNatClampNeg x2))) (J7 (84 + Int32.toNatClampNeg x2) (Int32.toNatClampNeg (4 : Int32)))
        if x1 = 0 then
          let v12 := x2 + (1 : Int32)
          gX2_tellFractions_l24 σ I R n J11 (0 : Int32) v12
        else
          if (J11 (80 + Int32.toNatClampNeg x2) (Int32.toNatClampNeg (4 : Int32))) < (0 : Int64) then
            let v13 := x2 + (1 : Int32)
            gX2_tellFractions_l24 σ I R n J11 (0 : Int32) v13
          else
            let v14 := x2 + (1 : Int32)
            gX2_tellFractions_l24 σ I R n J11 (1 : Int32) v14
        else none
        else none
        else none
        else none
        else none
        else none
        else none
theorem eX2_tellFractions_l24 {σ : Shp} {I : Nat → Nat → Int32} {R : Nat → Nat → Option Nat} (hS : Skel σ R) : ∀ (n : Nat) (J : Nat → Nat → Int64) (x1 : Int32) (x2 : Int32), fX2_tellFractions_l24 σ I R 71 n J x1 x2 = gX2_tellFractions_l24 σ I R n J x1 x2 := by
  intro n
  induction n with
  | zero => intro J x1 x2; rfl
  | succ n ih =>
    intro J x1 x2
    rw [fX2_tellFractions_l24, gX2_tellFractions_l24]
    refine sg (kq71 hS) ?_
    refine bi (fun c => ?_) (fun c => ?_)
    · refine bg (fun g1 => ?_)
      rfl
    · refine bi (fun c => ?_) (fun c => ?_)
      · refine bg (fun g2 => ?_)
        rfl
      · try with_reducible refine sg (kq71 hS) ?_
        refine sb (rq71_4 hS) ?_
        try with_reducible refine sg (kq71 hS) ?_
        refine sb (rq71_3 hS) ?_
        refine sg (kq87 hS) ?_
        refine bgr (by rw [lq87 hS]) (fun g3 => ?_)
        try with_reducible refine sg (kq71 hS) ?_
        refine sb (rq71_1 hS) ?_
        refine sg (kq79 hS) ?_
        refine bgr (by rw [lq79 hS]) (fun g4 => ?_)
        refine sb (rr79 hS g4) ?_
        refine sg (kr79 hS g4) ?_
        refine bgr (by rw [lr79 hS g4]) (fun g5 => ?_)
        refine sg (kq88 hS) ?_
        refine bgr (by rw [lq88 hS]) (fun g6 => ?_)
        try with_reducible refine sg (kq71 hS) ?_
        refine sb (rq71_5 hS) ?_
        try with_reducible refine sg (kq71 hS) ?_
        try with_reducible refine sg (kq87 hS) ?_
        try with_reducible refine sg (by rw [lq87 hS]; exact g3) ?_
        try with_reducible refine sg (kq71 hS) ?_
        refine sb (rq71_2 hS) ?_
        refine sg (kq83 hS) ?_
        refine bgr (by rw [lq83 hS]) (fun g8 => ?_)
        refine sb (rr83 hS g8) ?_
        refine sg (kr83 hS g8) ?_
        refine bgr (by rw [lr83 hS g8]) (fun g9 => ?_)
        refine sg (kq89 hS) ?_
        refine bgr (by rw [lq89 hS]) (fun g10 => ?_)
        refine bi (fun c => ?_) (fun c => ?_)
        · exact ih _ _ _
        · try with_reducible refine sg (kq71 hS) ?_
          try with_reducible refine sg (kq79 hS) ?_
          try with_reducible refine sg (by rw [lq79 hS]; exact g4) ?_
          try with_reducible refine sg (kr79 hS g4) ?_
          try with_reducible refine sg (by rw [lr79 hS g4]; exact g5) ?_
          refine bi (fun c => ?_) (fun c => ?_)
          · exact ih _ _ _
          · exact ih _ _ _
def gX2_tellFractions_l2  (σ : Shp) (I : Nat → Nat → Int32) (R : Nat → Nat → Option Nat) : Nat → (Nat → Nat → Int64) → (Int32) → Option ((Nat → Nat → Int64) × (Int32))
  | 0, _, _ => none
  | n + 1, J, x1 =>
    if (4 : Int32) ≤ x1 then
      gX2_tellFractions_l24 σ I R FUx J (1 : Int32) (0 : Int32)
    else
      if ¬ (x1 < 0 ∨ 4 ≤ Int32.toNatClampNeg x1) then
      let J16 := u2 J 89 (Int32.toNatClampNeg x1) (1 : Int64)
      let v17 := x1 + (1 : Int32)
      gX2_tellFractions_l2 σ I R n J16 v17
      else none
theorem eX2_tellFractions_l2 {σ : Shp} {I : Nat → Nat → Int32} {R : Nat → Nat → Option Nat} (hS : Skel σ R) : ∀ (n : Nat) (J : Nat → Nat → Int64) (x1 : Int32), fX2_tellFractions_l2 σ I R 71 n J x1 = gX2_tellFractions_l2 σ I R n J x1 := by
  intro n
  induction n with
  | zero => intro J x1; rfl
  | succ n ih =>
    intro J x1
    rw [fX2_tellFractions_l2, gX2_tellFractions_l2]
    refine bi (fun c => ?_) (fun c => ?_)
    · exact eX2_tellFractions_l24 hS _ _ _ _
    · refine sg (kq71 hS) ?_
      refine sb (rq71_5 hS) ?_
      refine sg (kq89 hS) ?_
      refine bgr (by rw [lq89 hS]) (fun g15 => ?_)
      exact ih _ _
def gX2_tellFractions (σ : Shp) (I : Nat → Nat → Int32) (J : Nat → Nat → Int64) (R : Nat → Nat → Option Nat) : Option ((Nat → Nat → Int64) × (Int32)) :=
  gX2_tellFractions_l2 σ I R FUx J (0 : Int32)
theorem eX2_tellFractions {σ : Shp} {I : Nat → Nat → Int32} {J : Nat → Nat → Int64} {R : Nat → Nat → Option Nat}  (hS : Skel σ R) : fX2_tellFractions σ I J R 71 = gX2_tellFractions σ I J R := by
  unfold fX2_tellFractions gX2_tellFractions
  exact eX2_tellFractions_l2 hS _ _ _
def gX2_firstSign_l2  (σ : Shp) (J : Nat → Nat → Int64) (R : Nat → Nat → Option Nat) : Nat → (Int32) → Option ((Int32))
  | 0, _ => none
  | n + 1, x1 =>
    if (3 : Int32) ≤ x1 then
      some (1 : Int32)
    else
      if ¬ (x1 < 0 ∨ 3 ≤ Int32.toNatClampNeg x1) then
      if (J 90 (Int32.toNatClampNeg x1)) = (0 : Int64) then
        let v2 := x1 + (1 : Int32)
        gX2_firstSign_l2 σ J R n v2
      else
        if (0 : Int64) ≤ (J 90 (Int32.toNatClampNeg x1)) then
          some (1 : Int32)
        else
          some (-1 : Int32)
      else none
theorem eX2_firstSign_l2 {σ : Shp} {J : Nat → Nat → Int64} {R : Nat → Nat → Option Nat} (hS : Skel σ R) : ∀ (n : Nat) (x1 : Int32), fX2_firstSign_l2 σ J R 71 n x1 = gX2_firstSign_l2 σ J R n x1 := by
  intro n
  induction n with
  | zero => intro x1; rfl
  | succ n ih =>
    intro x1
    rw [fX2_firstSign_l2, gX2_firstSign_l2]
    refine bi (fun c => ?_) (fun c => ?_)
    · rfl
    · refine sg (kq71 hS) ?_
      refine sb (rq71_6 hS) ?_
      refine sg (kq90 hS) ?_
      refine bgr (by rw [lq90 hS]) (fun g1 => ?_)
      refine bi (fun c => ?_) (fun c => ?_)
      · exact ih _
      · try with_reducible refine sg (kq71 hS) ?_
        try with_reducible refine sg (kq90 hS) ?_
        try with_reducible refine sg (by rw [lq90 hS]; exact g1) ?_
        refine bi (fun c => ?_) (fun c => ?_)
        · rfl
        · rfl
def gX2_firstSign (σ : Shp) (J : Nat → Nat → Int64) (R : Nat → Nat → Option Nat) : Option ((Int32)) :=
  gX2_firstSign_l2 σ J R FUx (0 : Int32)
theorem eX2_firstSign {σ : Shp} {J : Nat → Nat → Int64} {R : Nat → Nat → Option Nat}  (hS : Skel σ R) : fX2_firstSign σ J R 71 = gX2_firstSign σ J R := by
  unfold fX2_firstSign gX2_firstSign
  exact eX2_firstSign_l2 hS _ _
def gX2_tellWitness_l157  (σ : Shp) (R : Nat → Nat → Option Nat) : Nat → (Nat → Nat → Int64) → (Int64) → (Int32) → Option ((Nat → Nat → Int64))
  | 0, _, _, _ => none
  | n + 1, J, x6, x8 =>
    if (3 : Int32) ≤ x8 then
      some J
    else
      if x6 = (0 : Int64) then
        some J
      else
        if ¬ (x8 < 0 ∨ 3 ≤ Int32.toNatClampNeg x8) then
        if ¬ x6 = 0 then
        let J6 := u2 J 90 (Int32.toNatClampNeg x8) ((J 90 (Int32.toNatClampNeg x8)) / x6)
        let v7 := x8 + (1 : Int32)
        gX2_tellWitness_l157 σ R n J6 x6 v7
        else none
        else none
theorem eX2_tellWitness_l157 {σ : Shp} {R : Nat → Nat → Option Nat} (hS : Skel σ R) : ∀ (n : Nat) (J : Nat → Nat → Int64) (x6 : Int64) (x8 : Int32), fX2_tellWitness_l157 σ R 71 n J x6 x8 = gX2_tellWitness_l157 σ R n J x6 x8 := by
  intro n
  induction n with
  | zero => intro J x6 x8; rfl
  | succ n ih =>
    intro J x6 x8
    rw [fX2_tellWitness_l157, gX2_tellWitness_l157]
    refine bi (fun c => ?_) (fun c => ?_)
    · rfl
    · refine bi (fun c => ?_) (fun c => ?_)
      · rfl
      · refine sg (kq71 hS) ?_
        refine sb (rq71_6 hS) ?_
        refine sg (kq90 hS) ?_
        refine bgr (by rw [lq90 hS]) (fun g4 => ?_)
        refine bg (fun g5 => ?_)
        try with_reducible refine sg (kq90 hS) ?_
        try with_reducible refine sg (by rw [lq90 hS]; exact g4) ?_
        exact ih _ _ _
def gX2_tellWitness_l63  (σ : Shp) (R : Nat → Nat → Option Nat) : Nat → (Nat → Nat → Int64) → (Int32) → (Int64) → (Int64) → (Int32) → Option ((Nat → Nat → Int64))
  | 0, _, _, _, _, _ => none
  | n + 1, J, x1, x2, x4, x6 =>
    if (3 : Int32) ≤ x6 then
      if x4 = (0 : Int64) then
        some J
      else
        (gX2_firstSign σ J R).bind fun r1 =>
        let v3 := ((Int32.toInt64 r1) * x4)
        gX2_tellWitness_l157 σ R FUx J v3 (0 : Int32)
    else
      if ¬ (x1 < 0 ∨ 3 ≤ Int32.toNatClampNeg x1) then
      if ¬ (((5 : Int32) + x6) < 0 ∨ 8 ≤ Int32.toNatClampNeg ((5 : Int32) + x6)) then
      let v10 := (J (84 + Int32.toNatClampNeg x1) (Int32.toNatClampNeg ((5 : Int32) + x6)))
      if v10 = (0 : Int64) then
        if ¬ (x6 < 0 ∨ 3 ≤ Int32.toNatClampNeg x6) then
        let J20 := u2 J 90 (Int32.toNatClampNeg x6) (0 : Int64)
        (fX2_commonDivisor x4 (J20 90 (Int32.toNatClampNeg x6))).bind fun r21 =>
        let v23 := x6 + (1 : Int32)
        gX2_tellWitness_l63 σ R n J20 x1 x2 r21 v23
        else none
      else
        if ¬ (x1 < 0 ∨ 3 ≤ Int32.toNatClampNeg x1) then
        if ¬ (((5 : Int32) + x6) < 0 ∨ 8 ≤ Int32.toNatClampNeg ((5 : Int32) + x6)) then
        if ¬ v10 = 0 then
        if ¬ (x6 < 0 ∨ 3 ≤ Int32.toNatClampNeg x6) then
        let J15 := u2 J 90 (Int32.toNatClampNeg x6) ((J (80 + Int32.toNatClampNeg x1) (Int32.toNatClampNeg ((5 : Int32) + x6))) * (x2 / v10))
        (fX2_commonDivisor x4 (J15 90 (Int32.toNatClampNeg x6))).bind fun r16 =>
        let v18 := x6 + (1 : Int32)
        gX2_tellWitness_l63 σ R n J15 x1 x2 r16 v18
        else none
        else none
        else none
        else none
      else none
      else none
theorem eX2_tellWitness_l63 {σ : Shp} {R : Nat → Nat → Option Nat} (hS : Skel σ R) : ∀ (n : Nat) (J : Nat → Nat → Int64) (x1 : Int32) (x2 : Int64) (x4 : Int64) (x6 : Int32), fX2_tellWitness_l63 σ R 71 n J x1 x2 x4 x6 = gX2_tellWitness_l63 σ R n J x1 x2 x4 x6 := by
  intro n
  induction n with
  | zero => intro J x1 x2 x4 x6; rfl
  | succ n ih =>
    intro J x1 x2 x4 x6
    rw [fX2_tellWitness_l63, gX2_tellWitness_l63]
    refine bi (fun c => ?_) (fun c => ?_)
    · refine bi (fun c => ?_) (fun c => ?_)
      · rfl
      · refine sg (kq71 hS) ?_
        refine bc (eX2_firstSign hS) (fun r1 hc2 => ?_)
        exact eX2_tellWitness_l157 hS _ _ _ _
    · refine sg (kq71 hS) ?_
      refine sb (rq71_2 hS) ?_
      refine sg (kq83 hS) ?_
      refine bgr (by rw [lq83 hS]) (fun g8 => ?_)
      refine sb (rr83 hS g8) ?_
      refine sg (kr83 hS g8) ?_
      refine bgr (by rw [lr83 hS g8]) (fun g9 => ?_)
      try with_reducible refine sg (kq71 hS) ?_
      refine sb (rq71_6 hS) ?_
      refine bi (fun c => ?_) (fun c => ?_)
      · refine sg (kq90 hS) ?_
        refine bgr (by rw [lq90 hS]) (fun g19 => ?_)
        try with_reducible refine sg (kq71 hS) ?_
        try with_reducible refine sg (kq90 hS) ?_
        try with_reducible refine sg (by rw [lq90 hS]; exact g19) ?_
        refine bc rfl (fun r21 hc22 => ?_)
        exact ih _ _ _ _ _
      · try with_reducible refine sg (kq71 hS) ?_
        refine sb (rq71_1 hS) ?_
        refine sg (kq79 hS) ?_
        refine bgr (by rw [lq79 hS]) (fun g11 => ?_)
        refine sb (rr79 hS g11) ?_
        refine sg (kr79 hS g11) ?_
        refine bgr (by rw [lr79 hS g11]) (fun g12 => ?_)
        refine bg (fun g13 => ?_)
        refine sg (kq90 hS) ?_
        refine bgr (by rw [lq90 hS]) (fun g14 => ?_)
        try with_reducible refine sg (kq71 hS) ?_
        try with_reducible refine sg (kq90 hS) ?_
        try with_reducible refine sg (by rw [lq90 hS]; exact g14) ?_
        refine bc rfl (fun r16 hc17 => ?_)
        exact ih _ _ _ _ _
def gX2_tellWitness_l5  (σ : Shp) (R : Nat → Nat → Option Nat) : Nat → (Nat → Nat → Int64) → (Int32) → (Int64) → (Int32) → Option ((Nat → Nat → Int64))
  | 0, _, _, _, _ => none
  | n + 1, J, x1, x2, x4 =>
    if (3 : Int32) ≤ x4 then
      gX2_tellWitness_l63 σ R FUx J x1 x2 (0 : Int64) (0 : Int32)
    else
      if ¬ (x1 < 0 ∨ 3 ≤ Int32.toNatClampNeg x1) then
      if ¬ (((5 : Int32) + x4) < 0 ∨ 8 ≤ Int32.toNatClampNeg ((5 : Int32) + x4)) then
      let v26 := (J (84 + Int32.toNatClampNeg x1) (Int32.toNatClampNeg ((5 : Int32) + x4)))
      (fX2_commonDivisor x2 v26).bind fun r27 =>
      if r27 = (0 : Int64) then
        let v32 := x4 + (1 : Int32)
        gX2_tellWitness_l5 σ R n J x1 x2 v32
      else
        if ¬ r27 = 0 then
        let v30 := ((x2 / r27) * v26)
        let v31 := x4 + (1 : Int32)
        gX2_tellWitness_l5 σ R n J x1 v30 v31
        else none
      else none
      else none
theorem eX2_tellWitness_l5 {σ : Shp} {R : Nat → Nat → Option Nat} (hS : Skel σ R) : ∀ (n : Nat) (J : Nat → Nat → Int64) (x1 : Int32) (x2 : Int64) (x4 : Int32), fX2_tellWitness_l5 σ R 71 n J x1 x2 x4 = gX2_tellWitness_l5 σ R n J x1 x2 x4 := by
  intro n
  induction n with
  | zero => intro J x1 x2 x4; rfl
  | succ n ih =>
    intro J x1 x2 x4
    rw [fX2_tellWitness_l5, gX2_tellWitness_l5]
    refine bi (fun c => ?_) (fun c => ?_)
    · exact eX2_tellWitness_l63 hS _ _ _ _ _ _
    · refine sg (kq71 hS) ?_
      refine sb (rq71_2 hS) ?_
      refine sg (kq83 hS) ?_
      refine bgr (by rw [lq83 hS]) (fun g24 => ?_)
      refine sb (rr83 hS g24) ?_
      refine sg (kr83 hS g24) ?_
      refine bgr (by rw [lr83 hS g24]) (fun g25 => ?_)
      refine bc rfl (fun r27 hc28 => ?_)
      refine bi (fun c => ?_) (fun c => ?_)
      · exact ih _ _ _ _
      · refine bg (fun g29 => ?_)
        exact ih _ _ _ _
def gX2_tellWitness (σ : Shp) (J : Nat → Nat → Int64) (R : Nat → Nat → Option Nat) (x1 : Int32) : Option ((Nat → Nat → Int64)) :=
  gX2_tellWitness_l5 σ R FUx J x1 (1 : Int64) (0 : Int32)
theorem eX2_tellWitness {σ : Shp} {J : Nat → Nat → Int64} {R : Nat → Nat → Option Nat} {x1 : Int32} (hS : Skel σ R) : fX2_tellWitness σ J R 71 x1 = gX2_tellWitness σ J R x1 := by
  unfold fX2_tellWitness gX2_tellWitness
  exact eX2_tellWitness_l5 hS _ _ _ _ _
def gX2_changePlaces_l2  (σ : Shp) (R : Nat → Nat → Option Nat) : Nat → (Nat → Nat → Int64) → (Int32) → (Int32) → (Int32) → Option ((Nat → Nat → Int64))
  | 0, _, _, _, _ => none
  | n + 1, J, x1, x2, x3 =>
    if (8 : Int32) ≤ x3 then
      some J
    else
      if ¬ (x1 < 0 ∨ 3 ≤ Int32.toNatClampNeg x1) then
      if ¬ (x3 < 0 ∨ 8 ≤ Int32.toNatClampNeg x3) then
      let v3 := (J (80 + Int32.toNatClampNeg x1) (Int32.toNatClampNeg x3))
      if ¬ (x2 < 0 ∨ 3 ≤ Int32.toNatClampNeg x2) then
      if ¬ (x3 < 0 ∨ 8 ≤ Int32.toNatClampNeg x3) then
      let J6 := u2 J (80 + Int32.toNatClampNeg x1) (Int32.toNatClampNeg x3) (J (80 + Int32.toNatClampNeg x2) (Int32.toNatClampNeg x3))
      let J7 := u2 J6 (80 + Int32.toNatClampNeg x2) (Int32.toNatClampNeg x3) v3
      if ¬ (x1 < 0 ∨ 3 ≤ Int32.toNatClampNeg x1) then
      if ¬ (x3 < 0 ∨ 8 ≤ Int32.toNatClampNeg x3) then
      let v10 := (J7 (84 + Int32.toNatClampNeg x1) (Int32.toNatClampNeg x3))
      if ¬ (x2 < 0 ∨ 3 ≤ Int32.toNatClampNeg x2) then
      if ¬ (x3 < 0 ∨ 8 ≤ Int32.toNatClampNeg x3) then
      let J13 := u2 J7 (84 + Int32.toNatClampNeg x1) (Int32.toNatClampNeg x3) (J7 (84 + Int32.toNatClampNeg x2) (Int32.toNatClampNeg x3))
      let J14 := u2 J13 (84 + Int32.toNatClampNeg x2) (Int32.toNatClampNeg x3) v10
      let v15 := x3 + (1 : Int32)
      gX2_changePlaces_l2 σ R n J14 x1 x2 v15
      else none
      else none
      else none
      else none
      else none
      else none
      else none
      else none
theorem eX2_changePlaces_l2 {σ : Shp} {R : Nat → Nat → Option Nat} (hS : Skel σ R) : ∀ (n : Nat) (J : Nat → Nat → Int64) (x1 : Int32) (x2 : Int32) (x3 : Int32), fX2_changePlaces_l2 σ R 71 n J x1 x2 x3 = gX2_changePlaces_l2 σ R n J x1 x2 x3 := by
  intro n
  induction n with
  | zero => intro J x1 x2 x3; rfl
  | succ n ih =>
    intro J x1 x2 x3
    rw [fX2_changePlaces_l2, gX2_changePlaces_l2]
    refine bi (fun c => ?_) (fun c => ?_)
    · rfl
    · refine sg (kq71 hS) ?_
      refine sb (rq71_1 hS) ?_
      refine sg (kq79 hS) ?_
      refine bgr (by rw [lq79 hS]) (fun g1 => ?_)
      refine sb (rr79 hS g1) ?_
      refine sg (kr79 hS g1) ?_
      refine bgr (by rw [lr79 hS g1]) (fun g2 => ?_)
      try with_reducible refine sg (kq71 hS) ?_
      try with_reducible refine sg (kq79 hS) ?_
      try with_reducible refine sg (by rw [lq79 hS]; exact g1) ?_
      try with_reducible refine sg (kq71 hS) ?_
      try with_reducible refine sg (kq79 hS) ?_
      refine bgr (by rw [lq79 hS]) (fun g4 => ?_)
      refine sb (rr79 hS g4) ?_
      refine sg (kr79 hS g4) ?_
      refine bgr (by rw [lr79 hS g4]) (fun g5 => ?_)
      try with_reducible refine sg (kr79 hS g1) ?_
      try with_reducible refine sg (by rw [lr79 hS g1]; exact g2) ?_
      try with_reducible refine sg (kq71 hS) ?_
      try with_reducible refine sg (kq79 hS) ?_
      try with_reducible refine sg (by rw [lq79 hS]; exact g4) ?_
      try with_reducible refine sg (kr79 hS g4) ?_
      try with_reducible refine sg (by rw [lr79 hS g4]; exact g5) ?_
      try with_reducible refine sg (kq71 hS) ?_
      refine sb (rq71_2 hS) ?_
      refine sg (kq83 hS) ?_
      refine bgr (by rw [lq83 hS]) (fun g8 => ?_)
      refine sb (rr83 hS g8) ?_
      refine sg (kr83 hS g8) ?_
      refine bgr (by rw [lr83 hS g8]) (fun g9 => ?_)
      try with_reducible refine sg (kq71 hS) ?_
      try with_reducible refine sg (kq83 hS) ?_
      try with_reducible refine sg (by rw [lq83 hS]; exact g8) ?_
      try with_reducible refine sg (kq71 hS) ?_
      try with_reducible refine sg (kq83 hS) ?_
      refine bgr (by rw [lq83 hS]) (fun g11 => ?_)
      refine sb (rr83 hS g11) ?_
      refine sg (kr83 hS g11) ?_
      refine bgr (by rw [lr83 hS g11]) (fun g12 => ?_)
      try with_reducible refine sg (kr83 hS g8) ?_
      try with_reducible refine sg (by rw [lr83 hS g8]; exact g9) ?_
      try with_reducible refine sg (kq71 hS) ?_
      try with_reducible refine sg (kq83 hS) ?_
      try with_reducible refine sg (by rw [lq83 hS]; exact g11) ?_
      try with_reducible refine sg (kr83 hS g11) ?_
      try with_reducible refine sg (by rw [lr83 hS g11]; exact g12) ?_
      exact ih _ _ _ _
def gX2_changePlaces (σ : Shp) (J : Nat → Nat → Int64) (R : Nat → Nat → Option Nat) (x1 : Int32) (x2 : Int32) : Option ((Nat → Nat → Int64)) :=
  gX2_changePlaces_l2 σ R FUx J x1 x2 (0 : Int32)
theorem eX2_changePlaces {σ : Shp} {J : Nat → Nat → Int64} {R : Nat → Nat → Option Nat} {x1 : Int32} {x2 : Int32} (hS : Skel σ R) : fX2_changePlaces σ J R 71 x1 x2 = gX2_changePlaces σ J R x1 x2 := by
  unfold fX2_changePlaces gX2_changePlaces
  exact eX2_changePlaces_l2 hS _ _ _ _ _
def gX2_becomesFraction_b31  (σ : Shp) (R : Nat → Nat → Option Nat) (J : Nat → Nat → Int64) (x1 : Int32) (x2 : Int32) (x3 : Int64) (x5 : Int64) (s0 : Int64) : Option ((Nat → Nat → Int64)) :=
  if ¬ (x1 < 0 ∨ 3 ≤ Int32.toNatClampNeg x1) then
  if ¬ s0 = 0 then
  if ¬ (x2 < 0 ∨ 8 ≤ Int32.toNatClampNeg x2) then
  let J6 := u2 J (80 + Int32.toNatClampNeg x1) (Int32.toNatClampNeg x2) (x3 / s0)
  if ¬ (x1 < 0 ∨ 3 ≤ Int32.toNatClampNeg x1) then
  if ¬ (x2 < 0 ∨ 8 ≤ Int32.toNatClampNeg x2) then
  let J9 := u2 J6 (84 + Int32.toNatClampNeg x1) (Int32.toNatClampNeg x2) (x5 / s0)
  some J9
  else none
  else none
  else none
  else none
  else none
theorem eX2_becomesFraction_b31 {σ : Shp} {J : Nat → Nat → Int64} {R : Nat → Nat → Option Nat} {x1 : Int32} {x2 : Int32} {x3 : Int64} {x5 : Int64} {s0 : Int64} (hS : Skel σ R) : fX2_becomesFraction_b31 σ R 71 J x1 x2 x3 x5 s0 = gX2_becomesFraction_b31 σ R J x1 x2 x3 x5 s0 := by
  unfold fX2_becomesFraction_b31 gX2_becomesFraction_b31
  refine sg (kq71 hS) ?_
  refine sb (rq71_1 hS) ?_
  refine sg (kq79 hS) ?_
  refine bgr (by rw [lq79 hS]) (fun g3 => ?_)
  refine sb (rr79 hS g3) ?_
  refine bg (fun g4 => ?_)
  refine sg (kr79 hS g3) ?_
  refine bgr (by rw [lr79 hS g3]) (fun g5 => ?_)
  try with_reducible refine sg (kq71 hS) ?_
  refine sb (rq71_2 hS) ?_
  refine sg (kq83 hS) ?_
  refine bgr (by rw [lq83 hS]) (fun g7 => ?_)
  refine sb (rr83 hS g7) ?_
  refine sg (kr83 hS g7) ?_
  refine bgr (by rw [lr83 hS g7]) (fun g8 => ?_)
  rfl
def gX2_becomesFraction (σ : Shp) (J : Nat → Nat → Int64) (R : Nat → Nat → Option Nat) (x1 : Int32) (x2 : Int32) (x3 : Int64) (x5 : Int64) : Option ((Nat → Nat → Int64)) :=
  (fX2_commonDivisor x3 x5).bind fun r1 =>
  if r1 = (0 : Int64) then
    some J
  else
    if (0 : Int64) ≤ x5 then
      gX2_becomesFraction_b31 σ R J x1 x2 x3 x5 r1
    else
      gX2_becomesFraction_b31 σ R J x1 x2 x3 x5 (-r1)
theorem eX2_becomesFraction {σ : Shp} {J : Nat → Nat → Int64} {R : Nat → Nat → Option Nat} {x1 : Int32} {x2 : Int32} {x3 : Int64} {x5 : Int64} (hS : Skel σ R) : fX2_becomesFraction σ J R 71 x1 x2 x3 x5 = gX2_becomesFraction σ J R x1 x2 x3 x5 := by
  unfold fX2_becomesFraction gX2_becomesFraction
  refine bc rfl (fun r1 hc2 => ?_)
  refine bi (fun c => ?_) (fun c => ?_)
  · rfl
  · refine bi (fun c => ?_) (fun c => ?_)
    · exact eX2_becomesFraction_b31 hS
    · exact eX2_becomesFraction_b31 hS
def gX2_divideRow_l3  (σ : Shp) (R : Nat → Nat → Option Nat) : Nat → (Nat → Nat → Int64) → (Int32) → (Int64) → (Int64) → (Int32) → Option ((Nat → Nat → Int64))
  | 0, _, _, _, _, _ => none
  | n + 1, J, x1, x2, x4, x6 =>
    if (8 : Int32) ≤ x6 then
      some J
    else
      if ¬ (x1 < 0 ∨ 3 ≤ Int32.toNatClampNeg x1) then
      if ¬ (x6 < 0 ∨ 8 ≤ Int32.toNatClampNeg x6) then
      if ¬ (x1 < 0 ∨ 3 ≤ Int32.toNatClampNeg x1) then
      if ¬ (x6 < 0 ∨ 8 ≤ Int32.toNatClampNeg x6) then
      (gX2_becomesFraction σ J R x1 x6 ((J (80 + Int32.toNatClampNeg x1) (Int32.toNatClampNeg x6)) * x4) ((J (84 + Int32.toNatClampNeg x1) (Int32.toNatClampNeg x6)) * x2)).bind fun J5 =>
      let v7 := x6 + (1 : Int32)
      gX2_divideRow_l3 σ R n J5 x1 x2 x4 v7
      else none
      else none
      else none
      else none
theorem eX2_divideRow_l3 {σ : Shp} {R : Nat → Nat → Option Nat} (hS : Skel σ R) : ∀ (n : Nat) (J : Nat → Nat → Int64) (x1 : Int32) (x2 : Int64) (x4 : Int64) (x6 : Int32), fX2_divideRow_l3 σ R 71 n J x1 x2 x4 x6 = gX2_divideRow_l3 σ R n J x1 x2 x4 x6 := by
  intro n
  induction n with
  | zero => intro J x1 x2 x4 x6; rfl
  | succ n ih =>
    intro J x1 x2 x4 x6
    rw [fX2_divideRow_l3, gX2_divideRow_l3]
    refine bi (fun c => ?_) (fun c => ?_)
    · rfl
    · refine sg (kq71 hS) ?_
      refine sb (rq71_1 hS) ?_
      refine sg (kq79 hS) ?_
      refine bgr (by rw [lq79 hS]) (fun g1 => ?_)
      refine sb (rr79 hS g1) ?_
      refine sg (kr79 hS g1) ?_
      refine bgr (by rw [lr79 hS g1]) (fun g2 => ?_)
      try with_reducible refine sg (kq71 hS) ?_
      refine sb (rq71_2 hS) ?_
      refine sg (kq83 hS) ?_
      refine bgr (by rw [lq83 hS]) (fun g3 => ?_)
      refine sb (rr83 hS g3) ?_
      refine sg (kr83 hS g3) ?_
      refine bgr (by rw [lr83 hS g3]) (fun g4 => ?_)
      try with_reducible refine sg (kq71 hS) ?_
      refine bc (eX2_becomesFraction hS) (fun J5 hc6 => ?_)
      exact ih _ _ _ _ _
def gX2_divideRow (σ : Shp) (J : Nat → Nat → Int64) (R : Nat → Nat → Option Nat) (x1 : Int32) (x2 : Int64) (x4 : Int64) : Option ((Nat → Nat → Int64)) :=
  gX2_divideRow_l3 σ R FUx J x1 x2 x4 (0 : Int32)
theorem eX2_divideRow {σ : Shp} {J : Nat → Nat → Int64} {R : Nat → Nat → Option Nat} {x1 : Int32} {x2 : Int64} {x4 : Int64} (hS : Skel σ R) : fX2_divideRow σ J R 71 x1 x2 x4 = gX2_divideRow σ J R x1 x2 x4 := by
  unfold fX2_divideRow gX2_divideRow
  exact eX2_divideRow_l3 hS _ _ _ _ _ _
def gX2_takeRow_b67 (q3 : (Nat → Nat → Int64) → (Int32) → (Int32) → (Int64) → (Int64) → (Int32) → (Option ((Nat → Nat → Int64)))) (σ : Shp) (R : Nat → Nat → Option Nat) (J : Nat → Nat → Int64) (x1 : Int32) (x2 : Int32) (x3 : Int64) (x5 : Int64) (x7 : Int32) (x8 : Int64) (x10 : Int64) : Option ((Nat → Nat → Int64)) :=
  if ¬ (x1 < 0 ∨ 3 ≤ Int32.toNatClampNeg x1) then
  if ¬ (x7 < 0 ∨ 8 ≤ Int32.toNatClampNeg x7) then
  if ¬ (x1 < 0 ∨ 3 ≤ Int32.toNatClampNeg x1) then
  if ¬ (x7 < 0 ∨ 8 ≤ Int32.toNatClampNeg x7) then
  (gX2_becomesFraction σ J R x1 x7 (((J (80 + Int32.toNatClampNeg x1) (Int32.toNatClampNeg x7)) * x10) - (x8 * (J (84 + Int32.toNatClampNeg x1) (Int32.toNatClampNeg x7)))) ((J (84 + Int32.toNatClampNeg x1) (Int32.toNatClampNeg x7)) * x10)).bind fun J13 =>
  let v15 := x7 + (1 : Int32)
  q3 J13 x1 x2 x3 x5 v15
  else none
  else none
  else none
  else none
theorem eX2_takeRow_b67 {σ : Shp} {J : Nat → Nat → Int64} {R : Nat → Nat → Option Nat} {x1 : Int32} {x2 : Int32} {x3 : Int64} {x5 : Int64} {x7 : Int32} {x8 : Int64} {x10 : Int64} (hS : Skel σ R) {qf3 q3 : (Nat → Nat → Int64) → (Int32) → (Int32) → (Int64) → (Int64) → (Int32) → (Option ((Nat → Nat → Int64)))} (hq3 : ∀ (J : Nat → Nat → Int64) (x1 : Int32) (x2 : Int32) (x3 : Int64) (x5 : Int64) (x7 : Int32), qf3 J x1 x2 x3 x5 x7 = q3 J x1 x2 x3 x5 x7) : fX2_takeRow_b67 qf3 σ R 71 J x1 x2 x3 x5 x7 x8 x10 = gX2_takeRow_b67 q3 σ R J x1 x2 x3 x5 x7 x8 x10 := by
  unfold fX2_takeRow_b67 gX2_takeRow_b67
  refine sg (kq71 hS) ?_
  refine sb (rq71_1 hS) ?_
  refine sg (kq79 hS) ?_
  refine bgr (by rw [lq79 hS]) (fun g9 => ?_)
  refine sb (rr79 hS g9) ?_
  refine sg (kr79 hS g9) ?_
  refine bgr (by rw [lr79 hS g9]) (fun g10 => ?_)
  try with_reducible refine sg (kq71 hS) ?_
  refine sb (rq71_2 hS) ?_
  refine sg (kq83 hS) ?_
  refine bgr (by rw [lq83 hS]) (fun g11 => ?_)
  refine sb (rr83 hS g11) ?_
  refine sg (kr83 hS g11) ?_
  refine bgr (by rw [lr83 hS g11]) (fun g12 => ?_)
  try with_reducible refine sg (kq71 hS) ?_
  try with_reducible refine sg (kq83 hS) ?_
  try with_reducible refine sg (by rw [lq83 hS]; exact g11) ?_
  try with_reducible refine sg (kr83 hS g11) ?_
  try with_reducible refine sg (by rw [lr83 hS g11]; exact g12) ?_
  try with_reducible refine sg (kq71 hS) ?_
  refine bc (eX2_becomesFraction hS) (fun J13 hc14 => ?_)
  exact hq3 _ _ _ _ _ _
def gX2_takeRow_l3  (σ : Shp) (R : Nat → Nat → Option Nat) : Nat → (Nat → Nat → Int64) → (Int32) → (Int32) → (Int64) → (Int64) → (Int32) → Option ((Nat → Nat → Int64))
  | 0, _, _, _, _, _, _ => none
  | n + 1, J, x1, x2, x3, x5, x7 =>
    if (8 : Int32) ≤ x7 then
      some J
    else
      if ¬ (x2 < 0 ∨ 3 ≤ Int32.toNatClampNeg x2) then
      if ¬ (x7 < 0 ∨ 8 ≤ Int32.toNatClampNeg x7) then
      let v3 := ((J (80 + Int32.toNatClampNeg x2) (Int32.toNatClampNeg x7)) * x3)
      if ¬ (x2 < 0 ∨ 3 ≤ Int32.toNatClampNeg x2) then
      if ¬ (x7 < 0 ∨ 8 ≤ Int32.toNatClampNeg x7) then
      let v6 := ((J (84 + Int32.toNatClampNeg x2) (Int32.toNatClampNeg x7)) * x5)
      (fX2_commonDivisor v3 v6).bind fun r7 =>
      if r7 ≤ (1 : Int64) then
        gX2_takeRow_b67 (gX2_takeRow_l3 σ R n) σ R J x1 x2 x3 x5 x7 v3 v6
      else
        if ¬ r7 = 0 then
        let v17 := (v3 / r7)
        let v18 := (v6 / r7)
        gX2_takeRow_b67 (gX2_takeRow_l3 σ R n) σ R J x1 x2 x3 x5 x7 v17 v18
        else none
      else none
      else none
      else none
      else none
theorem eX2_takeRow_l3 {σ : Shp} {R : Nat → Nat → Option Nat} (hS : Skel σ R) : ∀ (n : Nat) (J : Nat → Nat → Int64) (x1 : Int32) (x2 : Int32) (x3 : Int64) (x5 : Int64) (x7 : Int32), fX2_takeRow_l3 σ R 71 n J x1 x2 x3 x5 x7 = gX2_takeRow_l3 σ R n J x1 x2 x3 x5 x7 := by
  intro n
  induction n with
  | zero => intro J x1 x2 x3 x5 x7; rfl
  | succ n ih =>
    intro J x1 x2 x3 x5 x7
    rw [fX2_takeRow_l3, gX2_takeRow_l3]
    refine bi (fun c => ?_) (fun c => ?_)
    · rfl
    · refine sg (kq71 hS) ?_
      refine sb (rq71_1 hS) ?_
      refine sg (kq79 hS) ?_
      refine bgr (by rw [lq79 hS]) (fun g1 => ?_)
      refine sb (rr79 hS g1) ?_
      refine sg (kr79 hS g1) ?_
      refine bgr (by rw [lr79 hS g1]) (fun g2 => ?_)
      try with_reducible refine sg (kq71 hS) ?_
      refine sb (rq71_2 hS) ?_
      refine sg (kq83 hS) ?_
      refine bgr (by rw [lq83 hS]) (fun g4 => ?_)
      refine sb (rr83 hS g4) ?_
      refine sg (kr83 hS g4) ?_
      refine bgr (by rw [lr83 hS g4]) (fun g5 => ?_)
      refine bc rfl (fun r7 hc8 => ?_)
      refine bi (fun c => ?_) (fun c => ?_)
      · exact eX2_takeRow_b67 hS ih
      · refine bg (fun g16 => ?_)
        exact eX2_takeRow_b67 hS ih
def gX2_takeRow (σ : Shp) (J : Nat → Nat → Int64) (R : Nat → Nat → Option Nat) (x1 : Int32) (x2 : Int32) (x3 : Int64) (x5 : Int64) : Option ((Nat → Nat → Int64)) :=
  gX2_takeRow_l3 σ R FUx J x1 x2 x3 x5 (0 : Int32)
theorem eX2_takeRow {σ : Shp} {J : Nat → Nat → Int64} {R : Nat → Nat → Option Nat} {x1 : Int32} {x2 : Int32} {x3 : Int64} {x5 : Int64} (hS : Skel σ R) : fX2_takeRow σ J R 71 x1 x2 x3 x5 = gX2_takeRow σ J R x1 x2 x3 x5 := by
  unfold fX2_takeRow gX2_takeRow
  exact eX2_takeRow_l3 hS _ _ _ _ _ _ _
def gX2_workColumn_l76  (σ : Shp) (R : Nat → Nat → Option Nat) : Nat → (Nat → Nat → Int32) → (Nat → Nat → Int64) → (Int32) → (Int32) → Option ((Nat → Nat → Int32) × (Nat → Nat → Int64))
  | 0, _, _, _, _ => none
  | n + 1, I, J, x1, x3 =>
    if (3 : Int32) ≤ x3 then
      if ¬ ((I 71 7) < 0 ∨ 3 ≤ Int32.toNatClampNeg (I 71 7)) then
      let I11 := u2 I 87 (Int32.toNatClampNeg (I 71 7)) x1
      let I12 := u2 I11 71 7 ((I11 71 7) + (1 : Int32))
      some (I12, J)
      else none
    else
      if x3 = (I 71 7) then
        let v13 := x3 + (1 : Int32)
        gX2_workColumn_l76 σ R n I J x1 v13
      else
        if ¬ (x3 < 0 ∨ 3 ≤ Int32.toNatClampNeg x3) then
        if ¬ (x1 < 0 ∨ 8 ≤ Int32.toNatClampNeg x1) then
        if ¬ (x3 < 0 ∨ 3 ≤ Int32.toNatClampNeg x3) then
        if ¬ (x1 < 0 ∨ 8 ≤ Int32.toNatClampNeg x1) then
        (gX2_takeRow σ J R x3 (I 71 7) (J (80 + Int32.toNatClampNeg x3) (Int32.toNatClampNeg x1)) (J (84 + Int32.toNatClampNeg x3) (Int32.toNatClampNeg x1))).bind fun J18 =>
        let v20 := x3 + (1 : Int32)
        gX2_workColumn_l76 σ R n I J18 x1 v20
        else none
        else none
        else none
        else none
theorem eX2_workColumn_l76 {σ : Shp} {R : Nat → Nat → Option Nat} (hS : Skel σ R) : ∀ (n : Nat) (I : Nat → Nat → Int32) (J : Nat → Nat → Int64) (x1 : Int32) (x3 : Int32), fX2_workColumn_l76 σ R 71 n I J x1 x3 = gX2_workColumn_l76 σ R n I J x1 x3 := by
  intro n
  induction n with
  | zero => intro I J x1 x3; rfl
  | succ n ih =>
    intro I J x1 x3
    rw [fX2_workColumn_l76, gX2_workColumn_l76]
    refine bi (fun c => ?_) (fun c => ?_)
    · refine sg (kq71 hS) ?_
      refine sb (rq71_3 hS) ?_
      try with_reducible refine sg (kq71 hS) ?_
      refine sg (kq87 hS) ?_
      refine bgr (by rw [lq87 hS]) (fun g10 => ?_)
      try with_reducible refine sg (kq71 hS) ?_
      try with_reducible refine sg (kq71 hS) ?_
      rfl
    · refine sg (kq71 hS) ?_
      refine bi (fun c => ?_) (fun c => ?_)
      · exact ih _ _ _ _
      · try with_reducible refine sg (kq71 hS) ?_
        try with_reducible refine sg (kq71 hS) ?_
        refine sb (rq71_1 hS) ?_
        refine sg (kq79 hS) ?_
        refine bgr (by rw [lq79 hS]) (fun g14 => ?_)
        refine sb (rr79 hS g14) ?_
        refine sg (kr79 hS g14) ?_
        refine bgr (by rw [lr79 hS g14]) (fun g15 => ?_)
        try with_reducible refine sg (kq71 hS) ?_
        refine sb (rq71_2 hS) ?_
        refine sg (kq83 hS) ?_
        refine bgr (by rw [lq83 hS]) (fun g16 => ?_)
        refine sb (rr83 hS g16) ?_
        refine sg (kr83 hS g16) ?_
        refine bgr (by rw [lr83 hS g16]) (fun g17 => ?_)
        try with_reducible refine sg (kq71 hS) ?_
        refine bc (eX2_takeRow hS) (fun J18 hc19 => ?_)
        exact ih _ _ _ _
def gX2_workColumn_b29  (σ : Shp) (R : Nat → Nat → Option Nat) (I : Nat → Nat → Int32) (J : Nat → Nat → Int64) (x1 : Int32) (x2 : Int32) : Option ((Nat → Nat → Int32) × (Nat → Nat → Int64)) :=
  if x2 < (3 : Int32) then
    (gX2_changePlaces σ J R x2 (I 71 7)).bind fun J2 =>
    if ¬ ((I 71 7) < 0 ∨ 3 ≤ Int32.toNatClampNeg (I 71 7)) then
    if ¬ (x1 < 0 ∨ 8 ≤ Int32.toNatClampNeg x1) then
    if ¬ ((I 71 7) < 0 ∨ 3 ≤ Int32.toNatClampNeg (I 71 7)) then
    if ¬ (x1 < 0 ∨ 8 ≤ Int32.toNatClampNeg x1) then
    (gX2_divideRow σ J2 R (I 71 7) (J2 (80 + Int32.toNatClampNeg (I 71 7)) (Int32.toNatClampNeg x1)) (J2 (84 + Int32.toNatClampNeg (I 71 7)) (Int32.toNatClampNeg x1))).bind fun J8 =>
    gX2_workColumn_l76 σ R FUx I J8 x1 (0 : Int32)
    else none
    else none
    else none
    else none
  else
    some (I, J)
theorem eX2_workColumn_b29 {σ : Shp} {I : Nat → Nat → Int32} {J : Nat → Nat → Int64} {R : Nat → Nat → Option Nat} {x1 : Int32} {x2 : Int32} (hS : Skel σ R) : fX2_workColumn_b29 σ R 71 I J x1 x2 = gX2_workColumn_b29 σ R I J x1 x2 := by
  unfold fX2_workColumn_b29 gX2_workColumn_b29
  refine bi (fun c => ?_) (fun c => ?_)
  · refine sg (kq71 hS) ?_
    try with_reducible refine sg (kq71 hS) ?_
    refine bc (eX2_changePlaces hS) (fun J2 hc3 => ?_)
    try with_reducible refine sg (kq71 hS) ?_
    try with_reducible refine sg (kq71 hS) ?_
    refine sb (rq71_1 hS) ?_
    try with_reducible refine sg (kq71 hS) ?_
    refine sg (kq79 hS) ?_
    refine bgr (by rw [lq79 hS]) (fun g4 => ?_)
    refine sb (rr79 hS g4) ?_
    refine sg (kr79 hS g4) ?_
    refine bgr (by rw [lr79 hS g4]) (fun g5 => ?_)
    try with_reducible refine sg (kq71 hS) ?_
    refine sb (rq71_2 hS) ?_
    try with_reducible refine sg (kq71 hS) ?_
    refine sg (kq83 hS) ?_
    refine bgr (by rw [lq83 hS]) (fun g6 => ?_)
    refine sb (rr83 hS g6) ?_
    refine sg (kr83 hS g6) ?_
    refine bgr (by rw [lr83 hS g6]) (fun g7 => ?_)
    try with_reducible refine sg (kq71 hS) ?_
    refine bc (eX2_divideRow hS) (fun J8 hc9 => ?_)
    exact eX2_workColumn_l76 hS _ _ _ _ _
  · rfl
def gX2_workColumn_l5  (σ : Shp) (R : Nat → Nat → Option Nat) : Nat → (Nat → Nat → Int32) → (Nat → Nat → Int64) → (Int32) → (Int32) → Option ((Nat → Nat → Int32) × (Nat → Nat → Int64))
  | 0, _, _, _, _ => none
  | n + 1, I, J, x1, x2 =>
    if (3 : Int32) ≤ x2 then
      gX2_workColumn_b29 σ R I J x1 x2
    else
      if ¬ (x2 < 0 ∨ 3 ≤ Int32.toNatClampNeg x2) then
      if ¬ (x1 < 0 ∨ 8 ≤ Int32.toNatClampNeg x1) then
      if (J (80 + Int32.toNatClampNeg x2) (Int32.toNatClampNeg x1)) = (0 : Int64) then
        let v23 := x2 + (1 : Int32)
        gX2_workColumn_l5 σ R n I J x1 v23
      else
        gX2_workColumn_b29 σ R I J x1 x2
      else none
      else none
theorem eX2_workColumn_l5 {σ : Shp} {R : Nat → Nat → Option Nat} (hS : Skel σ R) : ∀ (n : Nat) (I : Nat → Nat → Int32) (J : Nat → Nat → Int64) (x1 : Int32) (x2 : Int32), fX2_workColumn_l5 σ R 71 n I J x1 x2 = gX2_workColumn_l5 σ R n I J x1 x2 := by
  intro n
  induction n with
  | zero => intro I J x1 x2; rfl
  | succ n ih =>
    intro I J x1 x2
    rw [fX2_workColumn_l5, gX2_workColumn_l5]
    refine bi (fun c => ?_) (fun c => ?_)
    · exact eX2_workColumn_b29 hS
    · refine sg (kq71 hS) ?_
      refine sb (rq71_1 hS) ?_
      refine sg (kq79 hS) ?_
      refine bgr (by rw [lq79 hS]) (fun g21 => ?_)
      refine sb (rr79 hS g21) ?_
      refine sg (kr79 hS g21) ?_
      refine bgr (by rw [lr79 hS g21]) (fun g22 => ?_)
      refine bi (fun c => ?_) (fun c => ?_)
      · exact ih _ _ _ _
      · exact eX2_workColumn_b29 hS
def gX2_workColumn (σ : Shp) (I : Nat → Nat → Int32) (J : Nat → Nat → Int64) (R : Nat → Nat → Option Nat) (x1 : Int32) : Option ((Nat → Nat → Int32) × (Nat → Nat → Int64)) :=
  let v1 := (I 71 7)
  gX2_workColumn_l5 σ R FUx I J x1 v1
theorem eX2_workColumn {σ : Shp} {I : Nat → Nat → Int32} {J : Nat → Nat → Int64} {R : Nat → Nat → Option Nat} {x1 : Int32} (hS : Skel σ R) : fX2_workColumn σ I J R 71 x1 = gX2_workColumn σ I J R x1 := by
  unfold fX2_workColumn gX2_workColumn
  refine sg (kq71 hS) ?_
  exact eX2_workColumn_l5 hS _ _ _ _ _
def gX2_solved_l31  (σ : Shp) (R : Nat → Nat → Option Nat) : Nat → (Nat → Nat → Int32) → (Nat → Nat → Int64) → (Int32) → Option ((Nat → Nat → Int32) × (Nat → Nat → Int64) × (Int32))
  | 0, _, _, _ => none
  | n + 1, I, J, x1 =>
    if (3 : Int32) ≤ x1 then
      (gX2_tellFractions σ I J R).bind fun (J7, r8) =>
      if r8 = 0 then
        some (I, J7, (2 : Int32))
      else
        some (I, J7, (1 : Int32))
    else
      if ¬ (x1 < 0 ∨ 3 ≤ Int32.toNatClampNeg x1) then
      if ¬ ((4 : Int32) < 0 ∨ 8 ≤ Int32.toNatClampNeg (4 : Int32)) then
      if (J (80 + Int32.toNatClampNeg x1) (Int32.toNatClampNeg (4 : Int32))) = (0 : Int64) then
        let v12 := x1 + (1 : Int32)
        gX2_solved_l31 σ R n I J v12
      else
        (gX2_tellWitness σ J R x1).bind fun J13 =>
        some (I, J13, (0 : Int32))
      else none
      else none
theorem eX2_solved_l31 {σ : Shp} {R : Nat → Nat → Option Nat} (hS : Skel σ R) : ∀ (n : Nat) (I : Nat → Nat → Int32) (J : Nat → Nat → Int64) (x1 : Int32), fX2_solved_l31 σ R 71 n I J x1 = gX2_solved_l31 σ R n I J x1 := by
  intro n
  induction n with
  | zero => intro I J x1; rfl
  | succ n ih =>
    intro I J x1
    rw [fX2_solved_l31, gX2_solved_l31]
    refine bi (fun c => ?_) (fun c => ?_)
    · refine sg (kq71 hS) ?_
      refine bc (eX2_tellFractions hS) (fun pp hc9 => ?_)
      obtain ⟨J7, r8⟩ := pp
      refine bi (fun c => ?_) (fun c => ?_)
      · rfl
      · rfl
    · refine sg (kq71 hS) ?_
      refine sb (rq71_1 hS) ?_
      refine sg (kq79 hS) ?_
      refine bgr (by rw [lq79 hS]) (fun g10 => ?_)
      refine sb (rr79 hS g10) ?_
      refine sg (kr79 hS g10) ?_
      refine bgr (by rw [lr79 hS g10]) (fun g11 => ?_)
      refine bi (fun c => ?_) (fun c => ?_)
      · exact ih _ _ _
      · try with_reducible refine sg (kq71 hS) ?_
        refine bc (eX2_tellWitness hS) (fun J13 hc14 => ?_)
        rfl
def gX2_solved_l10  (σ : Shp) (R : Nat → Nat → Option Nat) : Nat → (Nat → Nat → Int32) → (Nat → Nat → Int64) → (Int32) → Option ((Nat → Nat → Int32) × (Nat → Nat → Int64) × (Int32))
  | 0, _, _, _ => none
  | n + 1, I, J, x1 =>
    if (4 : Int32) ≤ x1 then
      let v6 := (I 71 7)
      gX2_solved_l31 σ R FUx I J v6
    else
      (gX2_workColumn σ I J R x1).bind fun (I15, J16) =>
      let v18 := x1 + (1 : Int32)
      gX2_solved_l10 σ R n I15 J16 v18
theorem eX2_solved_l10 {σ : Shp} {R : Nat → Nat → Option Nat} (hS : Skel σ R) : ∀ (n : Nat) (I : Nat → Nat → Int32) (J : Nat → Nat → Int64) (x1 : Int32), fX2_solved_l10 σ R 71 n I J x1 = gX2_solved_l10 σ R n I J x1 := by
  intro n
  induction n with
  | zero => intro I J x1; rfl
  | succ n ih =>
    intro I J x1
    rw [fX2_solved_l10, gX2_solved_l10]
    refine bi (fun c => ?_) (fun c => ?_)
    · refine sg (kq71 hS) ?_
      exact eX2_solved_l31 hS _ _ _ _
    · refine sg (kq71 hS) ?_
      refine bc (eX2_workColumn hS) (fun pp hc17 => ?_)
      obtain ⟨I15, J16⟩ := pp
      exact ih _ _ _
def gX2_solved (σ : Shp) (I : Nat → Nat → Int32) (J : Nat → Nat → Int64) (R : Nat → Nat → Option Nat) : Option ((Nat → Nat → Int32) × (Nat → Nat → Int64) × (Int32)) :=
  (gX2_clearOutcome σ I J R).bind fun (I1, J2) =>
  (gX2_fillRows σ I1 J2 R).bind fun J4 =>
  gX2_solved_l10 σ R FUx I1 J4 (0 : Int32)
theorem eX2_solved {σ : Shp} {I : Nat → Nat → Int32} {J : Nat → Nat → Int64} {R : Nat → Nat → Option Nat}  (hS : Skel σ R) : fX2_solved σ I J R 71 = gX2_solved σ I J R := by
  unfold fX2_solved gX2_solved
  refine sg (kq71 hS) ?_
  refine bc (eX2_clearOutcome hS) (fun pp hc3 => ?_)
  obtain ⟨I1, J2⟩ := pp
  try with_reducible refine sg (kq71 hS) ?_
  refine bc (eX2_fillRows hS) (fun J4 hc5 => ?_)
  exact eX2_solved_l10 hS _ _ _ _
def gX3_init_b9  (σ : Shp) (R : Nat → Nat → Option Nat) (s0 : Nat) (s1 : Nat) : Option ((Shp) × (Nat → Nat → Option Nat)) :=
  if kdx σ s0 = 4 then
  let R3 := u2 R s0 12 (some s1)
  some (σ, R3)
  else none
theorem eX3_init_b9 {σ : Shp} {R : Nat → Nat → Option Nat} {s0 : Nat} {s1 : Nat} (hS : Skel σ R) : fX3_init_b9 σ R s0 s1 = gX3_init_b9 σ R s0 s1 := by
  unfold fX3_init_b9 gX3_init_b9
  refine bg (fun g2 => ?_)
  let R3 := u2 R s0 12 (some s1)
  have hS := hS.setR (k := 12) (v := (some s1)) (Or.inr (Or.inr (Or.inr g2)))
  rfl
theorem pX3_init_b9 {σ : Shp} {R : Nat → Nat → Option Nat} {s0 : Nat} {s1 : Nat} {σ9 : Shp} {R9 : Nat → Nat → Option Nat} (hS : Skel σ R) (h : gX3_init_b9 σ R s0 s1 = some (σ9, R9)) : Skel σ9 R9 := by
  unfold gX3_init_b9 at h
  obtain ⟨g2, h⟩ := gd h
  let R3 := u2 R s0 12 (some s1)
  have hS := hS.setR (k := 12) (v := (some s1)) (Or.inr (Or.inr (Or.inr g2)))
  cases h
  exact hS
def gX3_init (σ : Shp) (R : Nat → Nat → Option Nat) (t : Nat) : Option ((Shp) × (Nat → Nat → Option Nat)) :=
  let σ1 := mkA σ 20 (Int32.toNatClampNeg (6 : Int32))
  gX3_init_b9 σ1 R t (nxx σ + 4)
theorem pX3_init {σ : Shp} {R : Nat → Nat → Option Nat} {t : Nat}  {σ9 : Shp} {R9 : Nat → Nat → Option Nat} (hS : Skel σ R) (h : gX3_init σ R t = some (σ9, R9)) : Skel σ9 R9 := by
  unfold gX3_init at h
  have hS := hS.mkA (t := 20) (n := (Int32.toNatClampNeg (6 : Int32)))
  exact pX3_init_b9 hS h
theorem eX3_init {σ : Shp} {R : Nat → Nat → Option Nat} {t : Nat}  (hS : Skel σ R) : fX3_init σ R t = gX3_init σ R t := by
  unfold fX3_init gX3_init
  have hS := hS.mkA (t := 20) (n := (Int32.toNatClampNeg (6 : Int32)))
  exact eX3_init_b9 hS
def gX4_takeReading (J : Nat → Nat → Int64) (D : Nat → Nat → UInt64) (x1 : Int32) (x2 : Int64) : Option ((Nat → Nat → Int64) × (Nat → Nat → UInt64)) :=
  if ¬ (x1 < 0 ∨ 9 ≤ Int32.toNatClampNeg x1) then
  let J2 := u2 J 52 (Int32.toNatClampNeg x1) x2
  if (fX11_isNumber x2) = 0 then
    if ¬ (x1 < 0 ∨ 9 ≤ Int32.toNatClampNeg x1) then
    let D4 := u2 D 53 (Int32.toNatClampNeg x1) (FP.dconst0)
    some (J2, D4)
    else none
  else
    (fX11_realOf x2).bind fun r5 =>
    if ¬ (x1 < 0 ∨ 9 ≤ Int32.toNatClampNeg x1) then
    let D8 := u2 D 53 (Int32.toNatClampNeg x1) r5
    some (J2, D8)
    else none
  else none
theorem eX4_takeReading {σ : Shp} {J : Nat → Nat → Int64} {D : Nat → Nat → UInt64} {R : Nat → Nat → Option Nat} {x1 : Int32} {x2 : Int64} (hS : Skel σ R) : fX4_takeReading σ J D R 26 x1 x2 = gX4_takeReading J D x1 x2 := by
  unfold fX4_takeReading gX4_takeReading
  refine sg (kq26 hS) ?_
  refine sb (rq26_2 hS) ?_
  refine sg (kq52 hS) ?_
  refine bgr (by rw [lq52 hS]) (fun g1 => ?_)
  try with_reducible refine sg (kq26 hS) ?_
  refine sb (rq26_3 hS) ?_
  refine bi (fun c => ?_) (fun c => ?_)
  · refine sg (kq53 hS) ?_
    refine bgr (by rw [lq53 hS]) (fun g3 => ?_)
    rfl
  · refine bc rfl (fun r5 hc6 => ?_)
    refine sg (kq53 hS) ?_
    refine bgr (by rw [lq53 hS]) (fun g7 => ?_)
    rfl
def gX4_newWeather (I : Nat → Nat → Int32) (x1 : Int32) (x2 : Int32) : Option ((Nat → Nat → Int32) × (Int32)) :=
  if x1 < 0 then
    some (I, (-100000 : Int32))
  else
    if (4 : Int32) < x1 then
      some (I, (-100000 : Int32))
    else
      if ¬ (x1 < 0 ∨ 5 ≤ Int32.toNatClampNeg x1) then
      if x2 < (LEASTc (Int32.toNatClampNeg x1)) then
        some (I, (-100000 : Int32))
      else
        if x2 ≤ (MOSTc (Int32.toNatClampNeg x1)) then
          if ¬ (x1 < 0 ∨ 5 ≤ Int32.toNatClampNeg x1) then
          let v3 := (I 61 (Int32.toNatClampNeg x1))
          let I4 := u2 I 61 (Int32.toNatClampNeg x1) x2
          some (I4, v3)
          else none
        else
          some (I, (-100000 : Int32))
      else none
theorem eX4_newWeather {σ : Shp} {I : Nat → Nat → Int32} {R : Nat → Nat → Option Nat} {x1 : Int32} {x2 : Int32} (hS : Skel σ R) : fX4_newWeather σ I R 26 x1 x2 = gX4_newWeather I x1 x2 := by
  unfold fX4_newWeather gX4_newWeather
  refine bi (fun c => ?_) (fun c => ?_)
  · rfl
  · refine bi (fun c => ?_) (fun c => ?_)
    · rfl
    · refine bg (fun g1 => ?_)
      refine bi (fun c => ?_) (fun c => ?_)
      · rfl
      · refine bi (fun c => ?_) (fun c => ?_)
        · refine sg (kq26 hS) ?_
          refine sb (rq26_9 hS) ?_
          refine sg (kq61 hS) ?_
          refine bgr (by rw [lq61 hS]) (fun g2 => ?_)
          try with_reducible refine sg (kq26 hS) ?_
          try with_reducible refine sg (kq61 hS) ?_
          try with_reducible refine sg (by rw [lq61 hS]; exact g2) ?_
          rfl
        · rfl
def gX9_hasLines (I : Nat → Nat → Int32) (x1 : Int32) : Option ((Int32)) :=
  if ¬ (x1 < 0 ∨ 3 ≤ Int32.toNatClampNeg x1) then
  if (I 36 (Int32.toNatClampNeg x1)) ≤ 0 then
    some (0 : Int32)
  else
    some (1 : Int32)
  else none
theorem eX9_hasLines {σ : Shp} {I : Nat → Nat → Int32} {R : Nat → Nat → Option Nat} {x1 : Int32} (hS : Skel σ R) : fX9_hasLines σ I R 27 x1 = gX9_hasLines I x1 := by
  unfold fX9_hasLines gX9_hasLines
  refine sg (kq27 hS) ?_
  refine sb (rq27_2 hS) ?_
  refine sg (kq36 hS) ?_
  refine bgr (by rw [lq36 hS]) (fun g1 => ?_)
  refine bi (fun c => ?_) (fun c => ?_)
  · rfl
  · rfl
def gX9_layDown_b74 (fr : (Shp) → (Nat → Nat → Int32) → (Nat → Nat → Option Nat) → (Int32) → (Int32) → Option ((Nat → Nat → Int32)))  (σ : Shp) (R : Nat → Nat → Option Nat) (I : Nat → Nat → Int32) (x1 : Int32) : Option ((Nat → Nat → Int32)) :=
  if ¬ (x1 < 0 ∨ 3 ≤ Int32.toNatClampNeg x1) then
  let I6 := u2 I 40 (Int32.toNatClampNeg x1) (vp_nar .boolean (1 : Int32))
  if (3 : Int32) ≤ (I6 27 8) then
    some I6
  else
    if ¬ ((I6 27 8) < 0 ∨ 3 ≤ Int32.toNatClampNeg (I6 27 8)) then
    let I8 := u2 I6 41 (Int32.toNatClampNeg (I6 27 8)) x1
    let I9 := u2 I8 27 8 ((I8 27 8) + (1 : Int32))
    some I9
    else none
  else none
theorem eX9_layDown_b74 {σ : Shp} {I : Nat → Nat → Int32} {R : Nat → Nat → Option Nat} {x1 : Int32} (hS : Skel σ R) {ff : (Shp) → (Nat → Nat → Int32) → (Nat → Nat → Option Nat) → (Nat) → (Int32) → (Int32) → Option ((Nat → Nat → Int32))} {fr : (Shp) → (Nat → Nat → Int32) → (Nat → Nat → Option Nat) → (Int32) → (Int32) → Option ((Nat → Nat → Int32))} (ihn : ∀ {σ : Shp} {I : Nat → Nat → Int32} {R : Nat → Nat → Option Nat} {x1 : Int32} {x2 : Int32}, Skel σ R → ff σ I R 27 x1 x2 = fr σ I R x1 x2) : fX9_layDown_b74 ff σ R 27 I x1 = gX9_layDown_b74 fr σ R I x1 := by
  unfold fX9_layDown_b74 gX9_layDown_b74
  refine sg (kq27 hS) ?_
  refine sb (rq27_6 hS) ?_
  refine sg (kq40 hS) ?_
  refine bgr (by rw [lq40 hS]) (fun g5 => ?_)
  try with_reducible refine sg (kq27 hS) ?_
  refine bi (fun c => ?_) (fun c => ?_)
  · rfl
  · try with_reducible refine sg (kq27 hS) ?_
    refine sb (rq27_7 hS) ?_
    try with_reducible refine sg (kq27 hS) ?_
    refine sg (kq41 hS) ?_
    refine bgr (by rw [lq41 hS]) (fun g7 => ?_)
    try with_reducible refine sg (kq27 hS) ?_
    try with_reducible refine sg (kq27 hS) ?_
    rfl
def gX9_layDown_b47 (fr : (Shp) → (Nat → Nat → Int32) → (Nat → Nat → Option Nat) → (Int32) → (Int32) → Option ((Nat → Nat → Int32)))  (σ : Shp) (R : Nat → Nat → Option Nat) (I : Nat → Nat → Int32) (x1 : Int32) (x3 : Int32) : Option ((Nat → Nat → Int32)) :=
  if ¬ (x3 < 0 ∨ 3 ≤ Int32.toNatClampNeg x3) then
  if (I 40 (Int32.toNatClampNeg x3)) = 0 then
    if ¬ (x1 < 0 ∨ 3 ≤ Int32.toNatClampNeg x1) then
    let I13 := u2 I 38 (Int32.toNatClampNeg x1) ((1 : Int32) + (0 : Int32))
    gX9_layDown_b74 fr σ R I13 x1
    else none
  else
    if ¬ (x3 < 0 ∨ 3 ≤ Int32.toNatClampNeg x3) then
    if ¬ (x1 < 0 ∨ 3 ≤ Int32.toNatClampNeg x1) then
    let I16 := u2 I 38 (Int32.toNatClampNeg x1) ((1 : Int32) + (I 38 (Int32.toNatClampNeg x3)))
    gX9_layDown_b74 fr σ R I16 x1
    else none
    else none
  else none
theorem eX9_layDown_b47 {σ : Shp} {I : Nat → Nat → Int32} {R : Nat → Nat → Option Nat} {x1 : Int32} {x3 : Int32} (hS : Skel σ R) {ff : (Shp) → (Nat → Nat → Int32) → (Nat → Nat → Option Nat) → (Nat) → (Int32) → (Int32) → Option ((Nat → Nat → Int32))} {fr : (Shp) → (Nat → Nat → Int32) → (Nat → Nat → Option Nat) → (Int32) → (Int32) → Option ((Nat → Nat → Int32))} (ihn : ∀ {σ : Shp} {I : Nat → Nat → Int32} {R : Nat → Nat → Option Nat} {x1 : Int32} {x2 : Int32}, Skel σ R → ff σ I R 27 x1 x2 = fr σ I R x1 x2) : fX9_layDown_b47 ff σ R 27 I x1 x3 = gX9_layDown_b47 fr σ R I x1 x3 := by
  unfold fX9_layDown_b47 gX9_layDown_b47
  refine sg (kq27 hS) ?_
  refine sb (rq27_4 hS) ?_
  try with_reducible refine sg (kq27 hS) ?_
  refine sb (rq27_6 hS) ?_
  refine sg (kq40 hS) ?_
  refine bgr (by rw [lq40 hS]) (fun g11 => ?_)
  refine bi (fun c => ?_) (fun c => ?_)
  · refine sg (kq38 hS) ?_
    refine bgr (by rw [lq38 hS]) (fun g12 => ?_)
    exact eX9_layDown_b74 hS ihn
  · try with_reducible refine sg (kq27 hS) ?_
    refine sg (kq38 hS) ?_
    refine bgr (by rw [lq38 hS]) (fun g14 => ?_)
    try with_reducible refine sg (kq38 hS) ?_
    refine bgr (by rw [lq38 hS]) (fun g15 => ?_)
    exact eX9_layDown_b74 hS ihn
def gX9_layDown : Nat → (Shp) → (Nat → Nat → Int32) → (Nat → Nat → Option Nat) → (Int32) → (Int32) → Option ((Nat → Nat → Int32))
  | 0, _, _, _, _, _ => none
  | n + 1, σ, I, R, x1, x2 =>
    if ¬ (x1 < 0 ∨ 3 ≤ Int32.toNatClampNeg x1) then
    let I2 := u2 I 39 (Int32.toNatClampNeg x1) (vp_nar .boolean (1 : Int32))
    if ¬ (x1 < 0 ∨ 3 ≤ Int32.toNatClampNeg x1) then
    let v4 := ((I2 37 (Int32.toNatClampNeg x1)) - (1 : Int32))
    if v4 < 0 then
      gX9_layDown_b74 (gX9_layDown n) σ R I2 x1
    else
      if (3 : Int32) ≤ v4 then
        gX9_layDown_b74 (gX9_layDown n) σ R I2 x1
      else
        if ¬ (v4 < 0 ∨ 3 ≤ Int32.toNatClampNeg v4) then
        if (I2 39 (Int32.toNatClampNeg v4)) = 0 then
          if (3 : Int32) ≤ x2 then
            gX9_layDown_b47 (gX9_layDown n) σ R I2 x1 v4
          else
            ((gX9_layDown n) σ I2 R v4 (x2 + (1 : Int32))).bind fun I17 =>
            gX9_layDown_b47 (gX9_layDown n) σ R I17 x1 v4
        else
          gX9_layDown_b47 (gX9_layDown n) σ R I2 x1 v4
        else none
    else none
    else none
theorem eX9_layDown : ∀ (n : Nat) {σ : Shp} {I : Nat → Nat → Int32} {R : Nat → Nat → Option Nat} {x1 : Int32} {x2 : Int32}, Skel σ R → fX9_layDown n σ I R 27 x1 x2 = gX9_layDown n σ I R x1 x2 := by
  intro n
  induction n with
  | zero => intro σ I R x1 x2 hS; rfl
  | succ n ihn =>
    intro σ I R x1 x2 hS
    rw [fX9_layDown, gX9_layDown]
    refine sg (kq27 hS) ?_
    refine sb (rq27_5 hS) ?_
    refine sg (kq39 hS) ?_
    refine bgr (by rw [lq39 hS]) (fun g1 => ?_)
    try with_reducible refine sg (kq27 hS) ?_
    refine sb (rq27_3 hS) ?_
    refine sg (kq37 hS) ?_
    refine bgr (by rw [lq37 hS]) (fun g3 => ?_)
    refine bi (fun c => ?_) (fun c => ?_)
    · exact eX9_layDown_b74 hS ihn
    · refine bi (fun c => ?_) (fun c => ?_)
      · exact eX9_layDown_b74 hS ihn
      · try with_reducible refine sg (kq27 hS) ?_
        try with_reducible refine sg (kq39 hS) ?_
        refine bgr (by rw [lq39 hS]) (fun g10 => ?_)
        refine bi (fun c => ?_) (fun c => ?_)
        · refine bi (fun c => ?_) (fun c => ?_)
          · exact eX9_layDown_b47 hS ihn
          · try with_reducible refine sg (kq27 hS) ?_
            refine bc (ihn hS) (fun I17 hc18 => ?_)
            exact eX9_layDown_b47 hS ihn
        · exact eX9_layDown_b47 hS ihn
def gX9_lineAt_b68  (σ : Shp) (I : Nat → Nat → Int32) (R : Nat → Nat → Option Nat) (x1 : Int32) (x2 : Int32) (x4 : Int32) : Option ((Int32)) :=
  if x4 = 0 then
    if ¬ (x1 < 0 ∨ 3 ≤ Int32.toNatClampNeg x1) then
    if ¬ ((0 : Int32) < 0 ∨ 8 ≤ Int32.toNatClampNeg (0 : Int32)) then
    some (I (33 + Int32.toNatClampNeg x1) (Int32.toNatClampNeg (0 : Int32)))
    else none
    else none
  else
    let v5 := (x4 - (1 : Int32))
    if ¬ (x1 < 0 ∨ 3 ≤ Int32.toNatClampNeg x1) then
    if ¬ (x4 < 0 ∨ 8 ≤ Int32.toNatClampNeg x4) then
    if ¬ (v5 < 0 ∨ 8 ≤ Int32.toNatClampNeg v5) then
    let v9 := ((Int32.toInt64 (I (33 + Int32.toNatClampNeg x1) (Int32.toNatClampNeg x4))) - (Int32.toInt64 (I (33 + Int32.toNatClampNeg x1) (Int32.toNatClampNeg v5))))
    if ¬ (x1 < 0 ∨ 3 ≤ Int32.toNatClampNeg x1) then
    if ¬ (x4 < 0 ∨ 8 ≤ Int32.toNatClampNeg x4) then
    if ¬ (v5 < 0 ∨ 8 ≤ Int32.toNatClampNeg v5) then
    let v13 := ((Int32.toInt64 (I (29 + Int32.toNatClampNeg x1) (Int32.toNatClampNeg x4))) - (Int32.toInt64 (I (29 + Int32.toNatClampNeg x1) (Int32.toNatClampNeg v5))))
    if (0 : Int64) < v13 then
      (fXM_floorDiv (v9 * ((Int32.toInt64 x2) - (Int32.toInt64 (I (29 + Int32.toNatClampNeg x1) (Int32.toNatClampNeg v5))))) v13).bind fun r14 =>
      some (Int64.toInt32 ((Int32.toInt64 (I (33 + Int32.toNatClampNeg x1) (Int32.toNatClampNeg v5))) + r14))
    else
      some (I (33 + Int32.toNatClampNeg x1) (Int32.toNatClampNeg v5))
    else none
    else none
    else none
    else none
    else none
    else none
theorem eX9_lineAt_b68 {σ : Shp} {I : Nat → Nat → Int32} {R : Nat → Nat → Option Nat} {x1 : Int32} {x2 : Int32} {x4 : Int32} (hS : Skel σ R) : fX9_lineAt_b68 σ I R 27 x1 x2 x4 = gX9_lineAt_b68 σ I R x1 x2 x4 := by
  unfold fX9_lineAt_b68 gX9_lineAt_b68
  refine bi (fun c => ?_) (fun c => ?_)
  · refine sg (kq27 hS) ?_
    refine sb (rq27_1 hS) ?_
    refine sg (kq32 hS) ?_
    refine bgr (by rw [lq32 hS]) (fun g16 => ?_)
    refine sb (rr32 hS g16) ?_
    refine sg (kr32 hS g16) ?_
    refine bgr (by rw [lr32 hS g16]) (fun g17 => ?_)
    rfl
  · refine sg (kq27 hS) ?_
    refine sb (rq27_1 hS) ?_
    refine sg (kq32 hS) ?_
    refine bgr (by rw [lq32 hS]) (fun g6 => ?_)
    refine sb (rr32 hS g6) ?_
    refine sg (kr32 hS g6) ?_
    refine bgr (by rw [lr32 hS g6]) (fun g7 => ?_)
    try with_reducible refine sg (kq27 hS) ?_
    try with_reducible refine sg (kq32 hS) ?_
    try with_reducible refine sg (by rw [lq32 hS]; exact g6) ?_
    try with_reducible refine sg (kr32 hS g6) ?_
    refine bgr (by rw [lr32 hS g6]) (fun g8 => ?_)
    try with_reducible refine sg (kq27 hS) ?_
    refine sb (rq27_0 hS) ?_
    refine sg (kq28 hS) ?_
    refine bgr (by rw [lq28 hS]) (fun g10 => ?_)
    refine sb (rr28 hS g10) ?_
    refine sg (kr28 hS g10) ?_
    refine bgr (by rw [lr28 hS g10]) (fun g11 => ?_)
    try with_reducible refine sg (kq27 hS) ?_
    try with_reducible refine sg (kq28 hS) ?_
    try with_reducible refine sg (by rw [lq28 hS]; exact g10) ?_
    try with_reducible refine sg (kr28 hS g10) ?_
    refine bgr (by rw [lr28 hS g10]) (fun g12 => ?_)
    refine bi (fun c => ?_) (fun c => ?_)
    · try with_reducible refine sg (kq27 hS) ?_
      try with_reducible refine sg (kq32 hS) ?_
      try with_reducible refine sg (by rw [lq32 hS]; exact g6) ?_
      try with_reducible refine sg (kr32 hS g6) ?_
      try with_reducible refine sg (by rw [lr32 hS g6]; exact g8) ?_
      try with_reducible refine sg (kq27 hS) ?_
      try with_reducible refine sg (kq28 hS) ?_
      try with_reducible refine sg (by rw [lq28 hS]; exact g10) ?_
      try with_reducible refine sg (kr28 hS g10) ?_
      try with_reducible refine sg (by rw [lr28 hS g10]; exact g12) ?_
      refine bc rfl (fun r14 hc15 => ?_)
      rfl
    · try with_reducible refine sg (kq27 hS) ?_
      try with_reducible refine sg (kq32 hS) ?_
      try with_reducible refine sg (by rw [lq32 hS]; exact g6) ?_
      try with_reducible refine sg (kr32 hS g6) ?_
      try with_reducible refine sg (by rw [lr32 hS g6]; exact g8) ?_
      rfl
def gX9_lineAt_l41  (σ : Shp) (I : Nat → Nat → Int32) (R : Nat → Nat → Option Nat) : Nat → (Int32) → (Int32) → (Int32) → (Int32) → Option ((Int32))
  | 0, _, _, _, _ => none
  | n + 1, x1, x2, x3, x4 =>
    if (x3 - (1 : Int32)) ≤ x4 then
      gX9_lineAt_b68 σ I R x1 x2 x4
    else
      if ¬ (x1 < 0 ∨ 3 ≤ Int32.toNatClampNeg x1) then
      if ¬ (x4 < 0 ∨ 8 ≤ Int32.toNatClampNeg x4) then
      if x2 < (I (29 + Int32.toNatClampNeg x1) (Int32.toNatClampNeg x4)) then
        gX9_lineAt_b68 σ I R x1 x2 x4
      else
        let v20 := x4 + (1 : Int32)
        gX9_lineAt_l41 σ I R n x1 x2 x3 v20
      else none
      else none
theorem eX9_lineAt_l41 {σ : Shp} {I : Nat → Nat → Int32} {R : Nat → Nat → Option Nat} (hS : Skel σ R) : ∀ (n : Nat) (x1 : Int32) (x2 : Int32) (x3 : Int32) (x4 : Int32), fX9_lineAt_l41 σ I R 27 n x1 x2 x3 x4 = gX9_lineAt_l41 σ I R n x1 x2 x3 x4 := by
  intro n
  induction n with
  | zero => intro x1 x2 x3 x4; rfl
  | succ n ih =>
    intro x1 x2 x3 x4
    rw [fX9_lineAt_l41, gX9_lineAt_l41]
    refine bi (fun c => ?_) (fun c => ?_)
    · exact eX9_lineAt_b68 hS
    · refine sg (kq27 hS) ?_
      refine sb (rq27_0 hS) ?_
      refine sg (kq28 hS) ?_
      refine bgr (by rw [lq28 hS]) (fun g18 => ?_)
      refine sb (rr28 hS g18) ?_
      refine sg (kr28 hS g18) ?_
      refine bgr (by rw [lr28 hS g18]) (fun g19 => ?_)
      refine bi (fun c => ?_) (fun c => ?_)
      · exact eX9_lineAt_b68 hS
      · exact ih _ _ _ _
def gX9_lineAt (σ : Shp) (I : Nat → Nat → Int32) (R : Nat → Nat → Option Nat) (x1 : Int32) (x2 : Int32) : Option ((Int32)) :=
  if ¬ (x1 < 0 ∨ 3 ≤ Int32.toNatClampNeg x1) then
  let v2 := (I 36 (Int32.toNatClampNeg x1))
  if v2 = 0 then
    some (0 : Int32)
  else
    if ¬ (x1 < 0 ∨ 3 ≤ Int32.toNatClampNeg x1) then
    if ¬ ((v2 - (1 : Int32)) < 0 ∨ 8 ≤ Int32.toNatClampNeg (v2 - (1 : Int32))) then
    if x2 < (I (29 + Int32.toNatClampNeg x1) (Int32.toNatClampNeg (v2 - (1 : Int32)))) then
      gX9_lineAt_l41 σ I R FUx x1 x2 v2 (0 : Int32)
    else
      if ¬ (x1 < 0 ∨ 3 ≤ Int32.toNatClampNeg x1) then
      if ¬ ((v2 - (1 : Int32)) < 0 ∨ 8 ≤ Int32.toNatClampNeg (v2 - (1 : Int32))) then
      some (I (33 + Int32.toNatClampNeg x1) (Int32.toNatClampNeg (v2 - (1 : Int32))))
      else none
      else none
    else none
    else none
  else none
theorem eX9_lineAt {σ : Shp} {I : Nat → Nat → Int32} {R : Nat → Nat → Option Nat} {x1 : Int32} {x2 : Int32} (hS : Skel σ R) : fX9_lineAt σ I R 27 x1 x2 = gX9_lineAt σ I R x1 x2 := by
  unfold fX9_lineAt gX9_lineAt
  refine sg (kq27 hS) ?_
  refine sb (rq27_2 hS) ?_
  refine sg (kq36 hS) ?_
  refine bgr (by rw [lq36 hS]) (fun g1 => ?_)
  refine bi (fun c => ?_) (fun c => ?_)
  · rfl
  · try with_reducible refine sg (kq27 hS) ?_
    refine sb (rq27_0 hS) ?_
    refine sg (kq28 hS) ?_
    refine bgr (by rw [lq28 hS]) (fun g3 => ?_)
    refine sb (rr28 hS g3) ?_
    refine sg (kr28 hS g3) ?_
    refine bgr (by rw [lr28 hS g3]) (fun g4 => ?_)
    refine bi (fun c => ?_) (fun c => ?_)
    · exact eX9_lineAt_l41 hS _ _ _ _ _
    · try with_reducible refine sg (kq27 hS) ?_
      refine sb (rq27_1 hS) ?_
      refine sg (kq32 hS) ?_
      refine bgr (by rw [lq32 hS]) (fun g21 => ?_)
      refine sb (rr32 hS g21) ?_
      refine sg (kr32 hS g21) ?_
      refine bgr (by rw [lr32 hS g21]) (fun g22 => ?_)
      rfl
def gX9_valueAt (σ : Shp) (I : Nat → Nat → Int32) (R : Nat → Nat → Option Nat) (x1 : Int32) (x2 : Int32) : Option ((Nat → Nat → Int32) × (Int32)) :=
  if ¬ (x1 < 0 ∨ 3 ≤ Int32.toNatClampNeg x1) then
  if (I 39 (Int32.toNatClampNeg x1)) = 0 then
    (gX9_layDown 8 σ I R x1 (0 : Int32)).bind fun I5 =>
    if ¬ (x1 < 0 ∨ 3 ≤ Int32.toNatClampNeg x1) then
    (gX9_lineAt σ I5 R x1 x2).bind fun r8 =>
    some (I5, ((I5 38 (Int32.toNatClampNeg x1)) + r8))
    else none
  else
    if ¬ (x1 < 0 ∨ 3 ≤ Int32.toNatClampNeg x1) then
    (gX9_lineAt σ I R x1 x2).bind fun r3 =>
    some (I, ((I 38 (Int32.toNatClampNeg x1)) + r3))
    else none
  else none
theorem eX9_valueAt {σ : Shp} {I : Nat → Nat → Int32} {R : Nat → Nat → Option Nat} {x1 : Int32} {x2 : Int32} (hS : Skel σ R) : fX9_valueAt σ I R 27 x1 x2 = gX9_valueAt σ I R x1 x2 := by
  unfold fX9_valueAt gX9_valueAt
  refine sg (kq27 hS) ?_
  refine sb (rq27_5 hS) ?_
  refine sg (kq39 hS) ?_
  refine bgr (by rw [lq39 hS]) (fun g1 => ?_)
  refine bi (fun c => ?_) (fun c => ?_)
  · try with_reducible refine sg (kq27 hS) ?_
    refine bc (eX9_layDown _ hS) (fun I5 hc6 => ?_)
    try with_reducible refine sg (kq27 hS) ?_
    refine sb (rq27_4 hS) ?_
    refine sg (kq38 hS) ?_
    refine bgr (by rw [lq38 hS]) (fun g7 => ?_)
    try with_reducible refine sg (kq27 hS) ?_
    refine bc (eX9_lineAt hS) (fun r8 hc9 => ?_)
    rfl
  · try with_reducible refine sg (kq27 hS) ?_
    refine sb (rq27_4 hS) ?_
    refine sg (kq38 hS) ?_
    refine bgr (by rw [lq38 hS]) (fun g2 => ?_)
    try with_reducible refine sg (kq27 hS) ?_
    refine bc (eX9_lineAt hS) (fun r3 hc4 => ?_)
    rfl
def gX4_mostVapour (σ : Shp) (I : Nat → Nat → Int32) (R : Nat → Nat → Option Nat) (x1 : Int64) : Option ((Nat → Nat → Int32) × (Int64)) :=
  (gX9_hasLines I (0 : Int32)).bind fun r1 =>
  if r1 = 0 then
    some (I, (9000 : Int64))
  else
    (gX9_valueAt σ I R (0 : Int32) (Int64.toInt32 (x1 / (1000 : Int64)))).bind fun (I3, r4) =>
    some (I3, (Int32.toInt64 (fXM_maxI (0 : Int32) r4)))
theorem eX4_mostVapour {σ : Shp} {I : Nat → Nat → Int32} {R : Nat → Nat → Option Nat} {x1 : Int64} (hS : Skel σ R) : fX4_mostVapour σ I R 26 x1 = gX4_mostVapour σ I R x1 := by
  unfold fX4_mostVapour gX4_mostVapour
  refine sg (kq26 hS) ?_
  refine sb (rq26_0 hS) ?_
  refine sg (kq27 hS) ?_
  refine bc (eX9_hasLines hS) (fun r1 hc2 => ?_)
  refine bi (fun c => ?_) (fun c => ?_)
  · rfl
  · try with_reducible refine sg (kq26 hS) ?_
    try with_reducible refine sg (kq27 hS) ?_
    refine bc (eX9_valueAt hS) (fun pp hc5 => ?_)
    obtain ⟨I3, r4⟩ := pp
    rfl
def gX4_changeAir_b162  (σ : Shp) (R : Nat → Nat → Option Nat) (I : Nat → Nat → Int32) (J : Nat → Nat → Int64) (x2 : Option Nat) (x11 : Int64) : Option ((Nat → Nat → Int32) × (Nat → Nat → Int64)) :=
  (x2 : Option Nat).bind fun a23 =>
  if kdx σ a23 = 21 then
  if ¬ ((0 : Int32) < 0 ∨ lnx σ a23 ≤ Int32.toNatClampNeg (0 : Int32)) then
  (gX4_mostVapour σ I R (J a23 (Int32.toNatClampNeg (0 : Int32)))).bind fun (I26, r27) =>
  if ¬ ((2 : Int32) < 0 ∨ lnx σ a23 ≤ Int32.toNatClampNeg (2 : Int32)) then
  let J30 := u2 J a23 (Int32.toNatClampNeg (2 : Int32)) ((J a23 (Int32.toNatClampNeg (2 : Int32))) + (fXM_maxJ (0 : Int64) (x11 - r27)))
  if ¬ ((1 : Int32) < 0 ∨ lnx σ a23 ≤ Int32.toNatClampNeg (1 : Int32)) then
  let J32 := u2 J30 a23 (Int32.toNatClampNeg (1 : Int32)) (fXM_minJ x11 r27)
  some (I26, J32)
  else none
  else none
  else none
  else none
theorem eX4_changeAir_b162 {σ : Shp} {I : Nat → Nat → Int32} {J : Nat → Nat → Int64} {R : Nat → Nat → Option Nat} {x2 : Option Nat} {x11 : Int64} (hS : Skel σ R) : fX4_changeAir_b162 σ R 26 I J x2 x11 = gX4_changeAir_b162 σ R I J x2 x11 := by
  unfold fX4_changeAir_b162 gX4_changeAir_b162
  refine bb (fun a23 ha23 => ?_)
  refine bg (fun g24 => ?_)
  refine bg (fun g25 => ?_)
  refine sg (kq26 hS) ?_
  refine bc (eX4_mostVapour hS) (fun pp hc28 => ?_)
  obtain ⟨I26, r27⟩ := pp
  refine bg (fun g29 => ?_)
  refine bg (fun g31 => ?_)
  rfl
def gX4_changeAir (σ : Shp) (I : Nat → Nat → Int32) (J : Nat → Nat → Int64) (R : Nat → Nat → Option Nat) (x1 : Int32) : Option ((Nat → Nat → Int32) × (Nat → Nat → Int64)) :=
  if ¬ (x1 < 0 ∨ 3 ≤ Int32.toNatClampNeg x1) then
  if ¬ ((0 : Int32) < 0 ∨ 5 ≤ Int32.toNatClampNeg (0 : Int32)) then
  if ¬ ((4 : Int32) < 0 ∨ 11 ≤ Int32.toNatClampNeg (4 : Int32)) then
  let v4 := ((Int32.toInt64 ((I 61 (Int32.toNatClampNeg (0 : Int32))) / (8 : Int32))) + ((5 : Int64) * (J (58 + Int32.toNatClampNeg x1) (Int32.toNatClampNeg (4 : Int32)))))
  if ¬ ((0 : Int32) < 0 ∨ 11 ≤ Int32.toNatClampNeg (0 : Int32)) then
  if ¬ ((1 : Int32) < 0 ∨ 5 ≤ Int32.toNatClampNeg (1 : Int32)) then
  if ¬ ((3 : Int32) < 0 ∨ 11 ≤ Int32.toNatClampNeg (3 : Int32)) then
  let v8 := ((((J (58 + Int32.toNatClampNeg x1) (Int32.toNatClampNeg (0 : Int32))) - (Int32.toInt64 (I 61 (Int32.toNatClampNeg (1 : Int32))))) * ((2 : Int64) + (J (58 + Int32.toNatClampNeg x1) (Int32.toNatClampNeg (3 : Int32))))) / (200 : Int64))
  let J9 := u2 J (58 + Int32.toNatClampNeg x1) (Int32.toNatClampNeg (0 : Int32)) ((J (58 + Int32.toNatClampNeg x1) (Int32.toNatClampNeg (0 : Int32))) + (v4 - v8))
  if ¬ ((6 : Int32) < 0 ∨ 11 ≤ Int32.toNatClampNeg (6 : Int32)) then
  let J11 := u2 J9 (58 + Int32.toNatClampNeg x1) (Int32.toNatClampNeg (6 : Int32)) ((J9 (58 + Int32.toNatClampNeg x1) (Int32.toNatClampNeg (6 : Int32))) + v4)
  if ¬ ((7 : Int32) < 0 ∨ 11 ≤ Int32.toNatClampNeg (7 : Int32)) then
  let J13 := u2 J11 (58 + Int32.toNatClampNeg x1) (Int32.toNatClampNeg (7 : Int32)) ((J11 (58 + Int32.toNatClampNeg x1) (Int32.toNatClampNeg (7 : Int32))) + v8)
  let v14 := (Int32.toInt64 ((12 : Int32) + ((I 61 (Int32.toNatClampNeg (0 : Int32))) / (50 : Int32))))
  if ¬ ((1 : Int32) < 0 ∨ 11 ≤ Int32.toNatClampNeg (1 : Int32)) then
  if ¬ ((2 : Int32) < 0 ∨ 5 ≤ Int32.toNatClampNeg (2 : Int32)) then
  let v17 := ((((J13 (58 + Int32.toNatClampNeg x1) (Int32.toNatClampNeg (1 : Int32))) - (Int32.toInt64 (I 61 (Int32.toNatClampNeg (2 : Int32))))) * (J13 (58 + Int32.toNatClampNeg x1) (Int32.toNatClampNeg (3 : Int32)))) / (80 : Int64))
  let v18 := (((J13 (58 + Int32.toNatClampNeg x1) (Int32.toNatClampNeg (1 : Int32))) + v14) - v17)
  if ¬ ((8 : Int32) < 0 ∨ 11 ≤ Int32.toNatClampNeg (8 : Int32)) then
  let J20 := u2 J13 (58 + Int32.toNatClampNeg x1) (Int32.toNatClampNeg (8 : Int32)) ((J13 (58 + Int32.toNatClampNeg x1) (Int32.toNatClampNeg (8 : Int32))) + v14)
  if ¬ ((9 : Int32) < 0 ∨ 11 ≤ Int32.toNatClampNeg (9 : Int32)) then
  let J22 := u2 J20 (58 + Int32.toNatClampNeg x1) (Int32.toNatClampNeg (9 : Int32)) ((J20 (58 + Int32.toNatClampNeg x1) (Int32.toNatClampNeg (9 : Int32))) + v17)
  if (0 : Int64) ≤ v18 then
    gX4_changeAir_b162 σ R I J22 (some (58 + Int32.toNatClampNeg x1)) v18
  else
    if ¬ ((10 : Int32) < 0 ∨ 11 ≤ Int32.toNatClampNeg (10 : Int32)) then
    let J34 := u2 J22 (58 + Int32.toNatClampNeg x1) (Int32.toNatClampNeg (10 : Int32)) ((J22 (58 + Int32.toNatClampNeg x1) (Int32.toNatClampNeg (10 : Int32))) - v18)
    gX4_changeAir_b162 σ R I J34 (some (58 + Int32.toNatClampNeg x1)) (0 : Int64)
    else none
  else none
  else none
  else none
  else none
  else none
  else none
  else none
  else none
  else none
  else none
  else none
  else none
theorem eX4_changeAir {σ : Shp} {I : Nat → Nat → Int32} {J : Nat → Nat → Int64} {R : Nat → Nat → Option Nat} {x1 : Int32} (hS : Skel σ R) : fX4_changeAir σ I J R 26 x1 = gX4_changeAir σ I J R x1 := by
  unfold fX4_changeAir gX4_changeAir
  refine sg (kq26 hS) ?_
  refine sb (rq26_8 hS) ?_
  refine sg (kq57 hS) ?_
  refine bgr (by rw [lq57 hS]) (fun g1 => ?_)
  refine sb (rr57 hS g1) ?_
  try with_reducible refine sg (kq26 hS) ?_
  refine sb (rq26_9 hS) ?_
  refine sg (kq61 hS) ?_
  refine bgr (by rw [lq61 hS]) (fun g2 => ?_)
  refine sg (kr57 hS g1) ?_
  refine bgr (by rw [lr57 hS g1]) (fun g3 => ?_)
  try with_reducible refine sg (kr57 hS g1) ?_
  refine bgr (by rw [lr57 hS g1]) (fun g5 => ?_)
  try with_reducible refine sg (kq26 hS) ?_
  try with_reducible refine sg (kq61 hS) ?_
  refine bgr (by rw [lq61 hS]) (fun g6 => ?_)
  try with_reducible refine sg (kr57 hS g1) ?_
  refine bgr (by rw [lr57 hS g1]) (fun g7 => ?_)
  try with_reducible refine sg (kr57 hS g1) ?_
  try with_reducible refine sg (by rw [lr57 hS g1]; exact g5) ?_
  try with_reducible refine sg (kr57 hS g1) ?_
  try with_reducible refine sg (by rw [lr57 hS g1]; exact g5) ?_
  try with_reducible refine sg (kr57 hS g1) ?_
  refine bgr (by rw [lr57 hS g1]) (fun g10 => ?_)
  try with_reducible refine sg (kr57 hS g1) ?_
  try with_reducible refine sg (by rw [lr57 hS g1]; exact g10) ?_
  try with_reducible refine sg (kr57 hS g1) ?_
  refine bgr (by rw [lr57 hS g1]) (fun g12 => ?_)
  try with_reducible refine sg (kr57 hS g1) ?_
  try with_reducible refine sg (by rw [lr57 hS g1]; exact g12) ?_
  try with_reducible refine sg (kq26 hS) ?_
  try with_reducible refine sg (kq61 hS) ?_
  try with_reducible refine sg (by rw [lq61 hS]; exact g2) ?_
  try with_reducible refine sg (kr57 hS g1) ?_
  refine bgr (by rw [lr57 hS g1]) (fun g15 => ?_)
  try with_reducible refine sg (kq26 hS) ?_
  try with_reducible refine sg (kq61 hS) ?_
  refine bgr (by rw [lq61 hS]) (fun g16 => ?_)
  try with_reducible refine sg (kr57 hS g1) ?_
  try with_reducible refine sg (by rw [lr57 hS g1]; exact g7) ?_
  try with_reducible refine sg (kr57 hS g1) ?_
  try with_reducible refine sg (by rw [lr57 hS g1]; exact g15) ?_
  try with_reducible refine sg (kr57 hS g1) ?_
  refine bgr (by rw [lr57 hS g1]) (fun g19 => ?_)
  try with_reducible refine sg (kr57 hS g1) ?_
  try with_reducible refine sg (by rw [lr57 hS g1]; exact g19) ?_
  try with_reducible refine sg (kr57 hS g1) ?_
  refine bgr (by rw [lr57 hS g1]) (fun g21 => ?_)
  try with_reducible refine sg (kr57 hS g1) ?_
  try with_reducible refine sg (by rw [lr57 hS g1]; exact g21) ?_
  refine bi (fun c => ?_) (fun c => ?_)
  · exact eX4_changeAir_b162 hS
  · try with_reducible refine sg (kr57 hS g1) ?_
    refine bgr (by rw [lr57 hS g1]) (fun g33 => ?_)
    try with_reducible refine sg (kr57 hS g1) ?_
    try with_reducible refine sg (by rw [lr57 hS g1]; exact g33) ?_
    exact eX4_changeAir_b162 hS
def gX4_hasWish (I : Nat → Nat → Int32) (x1 : Int32) : Option ((Int32)) :=
  if ¬ (x1 < 0 ∨ 3 ≤ Int32.toNatClampNeg x1) then
  if (I 70 (Int32.toNatClampNeg x1)) ≤ 0 then
    some (0 : Int32)
  else
    some (1 : Int32)
  else none
theorem eX4_hasWish {σ : Shp} {I : Nat → Nat → Int32} {R : Nat → Nat → Option Nat} {x1 : Int32} (hS : Skel σ R) : fX4_hasWish σ I R 26 x1 = gX4_hasWish I x1 := by
  unfold fX4_hasWish gX4_hasWish
  refine sg (kq26 hS) ?_
  refine sb (rq26_12 hS) ?_
  refine sg (kq70 hS) ?_
  refine bgr (by rw [lq70 hS]) (fun g1 => ?_)
  refine bi (fun c => ?_) (fun c => ?_)
  · rfl
  · rfl
def gX4_moveBy_b24  (σ : Shp) (R : Nat → Nat → Option Nat) (J : Nat → Nat → Int64) (x1 : Int32) (x2 : Int64) (x4 : Int32) (s0 : Int32) : Option ((Nat → Nat → Int64)) :=
  let v1 := (fXM_absJ x2)
  if ¬ (x1 < 0 ∨ 3 ≤ Int32.toNatClampNeg x1) then
  if ¬ (x4 < 0 ∨ 11 ≤ Int32.toNatClampNeg x4) then
  let v4 := (fXM_minJ v1 (J (58 + Int32.toNatClampNeg x1) (Int32.toNatClampNeg x4)))
  let J5 := u2 J (58 + Int32.toNatClampNeg x1) (Int32.toNatClampNeg x4) ((J (58 + Int32.toNatClampNeg x1) (Int32.toNatClampNeg x4)) - v4)
  if ¬ (s0 < 0 ∨ 11 ≤ Int32.toNatClampNeg s0) then
  let J7 := u2 J5 (58 + Int32.toNatClampNeg x1) (Int32.toNatClampNeg s0) (fXM_minJ (100 : Int64) (((J5 (58 + Int32.toNatClampNeg x1) (Int32.toNatClampNeg s0)) + v1) - v4))
  some J7
  else none
  else none
  else none
theorem eX4_moveBy_b24 {σ : Shp} {J : Nat → Nat → Int64} {R : Nat → Nat → Option Nat} {x1 : Int32} {x2 : Int64} {x4 : Int32} {s0 : Int32} (hS : Skel σ R) : fX4_moveBy_b24 σ R 26 J x1 x2 x4 s0 = gX4_moveBy_b24 σ R J x1 x2 x4 s0 := by
  unfold fX4_moveBy_b24 gX4_moveBy_b24
  refine sg (kq26 hS) ?_
  refine sb (rq26_8 hS) ?_
  refine sg (kq57 hS) ?_
  refine bgr (by rw [lq57 hS]) (fun g2 => ?_)
  refine sb (rr57 hS g2) ?_
  refine sg (kr57 hS g2) ?_
  refine bgr (by rw [lr57 hS g2]) (fun g3 => ?_)
  try with_reducible refine sg (kq26 hS) ?_
  try with_reducible refine sg (kq57 hS) ?_
  try with_reducible refine sg (by rw [lq57 hS]; exact g2) ?_
  try with_reducible refine sg (kr57 hS g2) ?_
  try with_reducible refine sg (by rw [lr57 hS g2]; exact g3) ?_
  try with_reducible refine sg (kr57 hS g2) ?_
  try with_reducible refine sg (by rw [lr57 hS g2]; exact g3) ?_
  try with_reducible refine sg (kq26 hS) ?_
  try with_reducible refine sg (kq57 hS) ?_
  try with_reducible refine sg (by rw [lq57 hS]; exact g2) ?_
  try with_reducible refine sg (kq26 hS) ?_
  try with_reducible refine sg (kq57 hS) ?_
  try with_reducible refine sg (by rw [lq57 hS]; exact g2) ?_
  try with_reducible refine sg (kr57 hS g2) ?_
  refine bgr (by rw [lr57 hS g2]) (fun g6 => ?_)
  try with_reducible refine sg (kr57 hS g2) ?_
  try with_reducible refine sg (by rw [lr57 hS g2]; exact g6) ?_
  rfl
def gX4_moveBy (σ : Shp) (J : Nat → Nat → Int64) (R : Nat → Nat → Option Nat) (x1 : Int32) (x2 : Int64) : Option ((Nat → Nat → Int64)) :=
  if x2 ≤ (0 : Int64) then
    if x2 ≤ (0 : Int64) then
      gX4_moveBy_b24 σ R J x1 x2 (3 : Int32) (4 : Int32)
    else
      gX4_moveBy_b24 σ R J x1 x2 (3 : Int32) (3 : Int32)
  else
    if x2 ≤ (0 : Int64) then
      gX4_moveBy_b24 σ R J x1 x2 (4 : Int32) (4 : Int32)
    else
      gX4_moveBy_b24 σ R J x1 x2 (4 : Int32) (3 : Int32)
theorem eX4_moveBy {σ : Shp} {J : Nat → Nat → Int64} {R : Nat → Nat → Option Nat} {x1 : Int32} {x2 : Int64} (hS : Skel σ R) : fX4_moveBy σ J R 26 x1 x2 = gX4_moveBy σ J R x1 x2 := by
  unfold fX4_moveBy gX4_moveBy
  refine bi (fun c => ?_) (fun c => ?_)
  · refine bi (fun c => ?_) (fun c => ?_)
    · exact eX4_moveBy_b24 hS
    · exact eX4_moveBy_b24 hS
  · refine bi (fun c => ?_) (fun c => ?_)
    · exact eX4_moveBy_b24 hS
    · exact eX4_moveBy_b24 hS
def gX4_valueReal_l2  (σ : Shp) (J : Nat → Nat → Int64) (D : Nat → Nat → UInt64) (R : Nat → Nat → Option Nat) : Nat → (Int32) → (Int32) → Option ((UInt64))
  | 0, _, _ => none
  | n + 1, x1, x2 =>
    if (9 : Int32) ≤ x2 then
      some (FP.dconst0)
    else
      if ¬ (x2 < 0 ∨ 9 ≤ Int32.toNatClampNeg x2) then
      if ¬ (x1 < 0 ∨ 3 ≤ Int32.toNatClampNeg x1) then
      if (J 52 (Int32.toNatClampNeg x2)) = (J 55 (Int32.toNatClampNeg x1)) then
        if ¬ (x2 < 0 ∨ 9 ≤ Int32.toNatClampNeg x2) then
        some (D 53 (Int32.toNatClampNeg x2))
        else none
      else
        let v3 := x2 + (3 : Int32)
        gX4_valueReal_l2 σ J D R n x1 v3
      else none
      else none
theorem eX4_valueReal_l2 {σ : Shp} {J : Nat → Nat → Int64} {D : Nat → Nat → UInt64} {R : Nat → Nat → Option Nat} (hS : Skel σ R) : ∀ (n : Nat) (x1 : Int32) (x2 : Int32), fX4_valueReal_l2 σ J D R 26 n x1 x2 = gX4_valueReal_l2 σ J D R n x1 x2 := by
  intro n
  induction n with
  | zero => intro x1 x2; rfl
  | succ n ih =>
    intro x1 x2
    rw [fX4_valueReal_l2, gX4_valueReal_l2]
    refine bi (fun c => ?_) (fun c => ?_)
    · rfl
    · refine sg (kq26 hS) ?_
      refine sb (rq26_2 hS) ?_
      refine sg (kq52 hS) ?_
      refine bgr (by rw [lq52 hS]) (fun g1 => ?_)
      try with_reducible refine sg (kq26 hS) ?_
      refine sb (rq26_5 hS) ?_
      refine sg (kq55 hS) ?_
      refine bgr (by rw [lq55 hS]) (fun g2 => ?_)
      refine bi (fun c => ?_) (fun c => ?_)
      · try with_reducible refine sg (kq26 hS) ?_
        refine sb (rq26_3 hS) ?_
        refine sg (kq53 hS) ?_
        refine bgr (by rw [lq53 hS]) (fun g4 => ?_)
        rfl
      · exact ih _ _
def gX4_valueReal (σ : Shp) (J : Nat → Nat → Int64) (D : Nat → Nat → UInt64) (R : Nat → Nat → Option Nat) (x1 : Int32) : Option ((UInt64)) :=
  gX4_valueReal_l2 σ J D R FUx x1 x1
theorem eX4_valueReal {σ : Shp} {J : Nat → Nat → Int64} {D : Nat → Nat → UInt64} {R : Nat → Nat → Option Nat} {x1 : Int32} (hS : Skel σ R) : fX4_valueReal σ J D R 26 x1 = gX4_valueReal σ J D R x1 := by
  unfold fX4_valueReal gX4_valueReal
  exact eX4_valueReal_l2 hS _ _ _
def gX4_wishAt_b119  (σ : Shp) (I : Nat → Nat → Int32) (R : Nat → Nat → Option Nat) (x1 : Int32) (x2 : Int32) (x5 : Int32) (x6 : Int32) (x7 : Int32) (s0 : Int32) (s1 : Int32) : Option ((Int32)) :=
  let v8 := (s0 + s1)
  if x7 < v8 then
    if ¬ (x1 < 0 ∨ 3 ≤ Int32.toNatClampNeg x1) then
    if ¬ (x6 < 0 ∨ 6 ≤ Int32.toNatClampNeg x6) then
    if ¬ (x5 < 0 ∨ 6 ≤ Int32.toNatClampNeg x5) then
    let v12 := ((Int32.toInt64 (I (67 + Int32.toNatClampNeg x1) (Int32.toNatClampNeg x6))) - (Int32.toInt64 (I (67 + Int32.toNatClampNeg x1) (Int32.toNatClampNeg x5))))
    (fXM_floorDiv (v12 * (Int32.toInt64 (x2 - x7))) (Int32.toInt64 (v8 - x7))).bind fun r13 =>
    some (Int64.toInt32 ((Int32.toInt64 (I (67 + Int32.toNatClampNeg x1) (Int32.toNatClampNeg x5))) + r13))
    else none
    else none
    else none
  else
    if ¬ (x1 < 0 ∨ 3 ≤ Int32.toNatClampNeg x1) then
    if ¬ (x5 < 0 ∨ 6 ≤ Int32.toNatClampNeg x5) then
    some (I (67 + Int32.toNatClampNeg x1) (Int32.toNatClampNeg x5))
    else none
    else none
theorem eX4_wishAt_b119 {σ : Shp} {I : Nat → Nat → Int32} {R : Nat → Nat → Option Nat} {x1 : Int32} {x2 : Int32} {x5 : Int32} {x6 : Int32} {x7 : Int32} {s0 : Int32} {s1 : Int32} (hS : Skel σ R) : fX4_wishAt_b119 σ I R 26 x1 x2 x5 x6 x7 s0 s1 = gX4_wishAt_b119 σ I R x1 x2 x5 x6 x7 s0 s1 := by
  unfold fX4_wishAt_b119 gX4_wishAt_b119
  refine bi (fun c => ?_) (fun c => ?_)
  · refine sg (kq26 hS) ?_
    refine sb (rq26_11 hS) ?_
    refine sg (kq66 hS) ?_
    refine bgr (by rw [lq66 hS]) (fun g9 => ?_)
    refine sb (rr66 hS g9) ?_
    refine sg (kr66 hS g9) ?_
    refine bgr (by rw [lr66 hS g9]) (fun g10 => ?_)
    try with_reducible refine sg (kq26 hS) ?_
    try with_reducible refine sg (kq66 hS) ?_
    try with_reducible refine sg (by rw [lq66 hS]; exact g9) ?_
    try with_reducible refine sg (kr66 hS g9) ?_
    refine bgr (by rw [lr66 hS g9]) (fun g11 => ?_)
    try with_reducible refine sg (kq26 hS) ?_
    try with_reducible refine sg (kq66 hS) ?_
    try with_reducible refine sg (by rw [lq66 hS]; exact g9) ?_
    try with_reducible refine sg (kr66 hS g9) ?_
    try with_reducible refine sg (by rw [lr66 hS g9]; exact g11) ?_
    refine bc rfl (fun r13 hc14 => ?_)
    rfl
  · refine sg (kq26 hS) ?_
    refine sb (rq26_11 hS) ?_
    refine sg (kq66 hS) ?_
    refine bgr (by rw [lq66 hS]) (fun g15 => ?_)
    refine sb (rr66 hS g15) ?_
    refine sg (kr66 hS g15) ?_
    refine bgr (by rw [lr66 hS g15]) (fun g16 => ?_)
    rfl
def gX4_wishAt_b94  (σ : Shp) (I : Nat → Nat → Int32) (R : Nat → Nat → Option Nat) (x1 : Int32) (x2 : Int32) (x3 : Int32) (x4 : Int32) (x5 : Int32) (x6 : Int32) (s0 : Int32) (s1 : Int32) : Option ((Int32)) :=
  let v5 := (s0 - s1)
  if ¬ (x1 < 0 ∨ 3 ≤ Int32.toNatClampNeg x1) then
  if ¬ (x6 < 0 ∨ 6 ≤ Int32.toNatClampNeg x6) then
  if x4 = x3 then
    gX4_wishAt_b119 σ I R x1 x2 x5 x6 v5 (I (63 + Int32.toNatClampNeg x1) (Int32.toNatClampNeg x6)) (1440 : Int32)
  else
    gX4_wishAt_b119 σ I R x1 x2 x5 x6 v5 (I (63 + Int32.toNatClampNeg x1) (Int32.toNatClampNeg x6)) (0 : Int32)
  else none
  else none
theorem eX4_wishAt_b94 {σ : Shp} {I : Nat → Nat → Int32} {R : Nat → Nat → Option Nat} {x1 : Int32} {x2 : Int32} {x3 : Int32} {x4 : Int32} {x5 : Int32} {x6 : Int32} {s0 : Int32} {s1 : Int32} (hS : Skel σ R) : fX4_wishAt_b94 σ I R 26 x1 x2 x3 x4 x5 x6 s0 s1 = gX4_wishAt_b94 σ I R x1 x2 x3 x4 x5 x6 s0 s1 := by
  unfold fX4_wishAt_b94 gX4_wishAt_b94
  refine sg (kq26 hS) ?_
  refine sb (rq26_10 hS) ?_
  refine sg (kq62 hS) ?_
  refine bgr (by rw [lq62 hS]) (fun g6 => ?_)
  refine sb (rr62 hS g6) ?_
  refine sg (kr62 hS g6) ?_
  refine bgr (by rw [lr62 hS g6]) (fun g7 => ?_)
  refine bi (fun c => ?_) (fun c => ?_)
  · exact eX4_wishAt_b119 hS
  · exact eX4_wishAt_b119 hS
def gX4_wishAt_b57  (σ : Shp) (I : Nat → Nat → Int32) (R : Nat → Nat → Option Nat) (x1 : Int32) (x2 : Int32) (x3 : Int32) (x4 : Int32) (s0 : Int32) : Option ((Int32)) :=
  if x4 = x3 then
    if ¬ (x1 < 0 ∨ 3 ≤ Int32.toNatClampNeg x1) then
    if ¬ (s0 < 0 ∨ 6 ≤ Int32.toNatClampNeg s0) then
    if x4 = 0 then
      gX4_wishAt_b94 σ I R x1 x2 x3 x4 s0 (0 : Int32) (I (63 + Int32.toNatClampNeg x1) (Int32.toNatClampNeg s0)) (1440 : Int32)
    else
      gX4_wishAt_b94 σ I R x1 x2 x3 x4 s0 (0 : Int32) (I (63 + Int32.toNatClampNeg x1) (Int32.toNatClampNeg s0)) (0 : Int32)
    else none
    else none
  else
    if ¬ (x1 < 0 ∨ 3 ≤ Int32.toNatClampNeg x1) then
    if ¬ (s0 < 0 ∨ 6 ≤ Int32.toNatClampNeg s0) then
    if x4 = 0 then
      gX4_wishAt_b94 σ I R x1 x2 x3 x4 s0 x4 (I (63 + Int32.toNatClampNeg x1) (Int32.toNatClampNeg s0)) (1440 : Int32)
    else
      gX4_wishAt_b94 σ I R x1 x2 x3 x4 s0 x4 (I (63 + Int32.toNatClampNeg x1) (Int32.toNatClampNeg s0)) (0 : Int32)
    else none
    else none
theorem eX4_wishAt_b57 {σ : Shp} {I : Nat → Nat → Int32} {R : Nat → Nat → Option Nat} {x1 : Int32} {x2 : Int32} {x3 : Int32} {x4 : Int32} {s0 : Int32} (hS : Skel σ R) : fX4_wishAt_b57 σ I R 26 x1 x2 x3 x4 s0 = gX4_wishAt_b57 σ I R x1 x2 x3 x4 s0 := by
  unfold fX4_wishAt_b57 gX4_wishAt_b57
  refine bi (fun c => ?_) (fun c => ?_)
  · refine sg (kq26 hS) ?_
    refine sb (rq26_10 hS) ?_
    refine sg (kq62 hS) ?_
    refine bgr (by rw [lq62 hS]) (fun g17 => ?_)
    refine sb (rr62 hS g17) ?_
    refine sg (kr62 hS g17) ?_
    refine bgr (by rw [lr62 hS g17]) (fun g18 => ?_)
    refine bi (fun c => ?_) (fun c => ?_)
    · exact eX4_wishAt_b94 hS
    · exact eX4_wishAt_b94 hS
  · refine sg (kq26 hS) ?_
    refine sb (rq26_10 hS) ?_
    refine sg (kq62 hS) ?_
    refine bgr (by rw [lq62 hS]) (fun g3 => ?_)
    refine sb (rr62 hS g3) ?_
    refine sg (kr62 hS g3) ?_
    refine bgr (by rw [lr62 hS g3]) (fun g4 => ?_)
    refine bi (fun c => ?_) (fun c => ?_)
    · exact eX4_wishAt_b94 hS
    · exact eX4_wishAt_b94 hS
def gX4_wishAt_l17  (σ : Shp) (I : Nat → Nat → Int32) (R : Nat → Nat → Option Nat) : Nat → (Int32) → (Int32) → (Int32) → (Int32) → Option ((Int32))
  | 0, _, _, _, _ => none
  | n + 1, x1, x2, x3, x4 =>
    if x3 ≤ x4 then
      if x4 = 0 then
        gX4_wishAt_b57 σ I R x1 x2 x3 x4 (x3 - (1 : Int32))
      else
        gX4_wishAt_b57 σ I R x1 x2 x3 x4 (x4 - (1 : Int32))
    else
      if ¬ (x1 < 0 ∨ 3 ≤ Int32.toNatClampNeg x1) then
      if ¬ (x4 < 0 ∨ 6 ≤ Int32.toNatClampNeg x4) then
      if x2 < (I (63 + Int32.toNatClampNeg x1) (Int32.toNatClampNeg x4)) then
        if x4 = 0 then
          gX4_wishAt_b57 σ I R x1 x2 x3 x4 (x3 - (1 : Int32))
        else
          gX4_wishAt_b57 σ I R x1 x2 x3 x4 (x4 - (1 : Int32))
      else
        let v21 := x4 + (1 : Int32)
        gX4_wishAt_l17 σ I R n x1 x2 x3 v21
      else none
      else none
theorem eX4_wishAt_l17 {σ : Shp} {I : Nat → Nat → Int32} {R : Nat → Nat → Option Nat} (hS : Skel σ R) : ∀ (n : Nat) (x1 : Int32) (x2 : Int32) (x3 : Int32) (x4 : Int32), fX4_wishAt_l17 σ I R 26 n x1 x2 x3 x4 = gX4_wishAt_l17 σ I R n x1 x2 x3 x4 := by
  intro n
  induction n with
  | zero => intro x1 x2 x3 x4; rfl
  | succ n ih =>
    intro x1 x2 x3 x4
    rw [fX4_wishAt_l17, gX4_wishAt_l17]
    refine bi (fun c => ?_) (fun c => ?_)
    · refine bi (fun c => ?_) (fun c => ?_)
      · exact eX4_wishAt_b57 hS
      · exact eX4_wishAt_b57 hS
    · refine sg (kq26 hS) ?_
      refine sb (rq26_10 hS) ?_
      refine sg (kq62 hS) ?_
      refine bgr (by rw [lq62 hS]) (fun g19 => ?_)
      refine sb (rr62 hS g19) ?_
      refine sg (kr62 hS g19) ?_
      refine bgr (by rw [lr62 hS g19]) (fun g20 => ?_)
      refine bi (fun c => ?_) (fun c => ?_)
      · refine bi (fun c => ?_) (fun c => ?_)
        · exact eX4_wishAt_b57 hS
        · exact eX4_wishAt_b57 hS
      · exact ih _ _ _ _
def gX4_wishAt (σ : Shp) (I : Nat → Nat → Int32) (R : Nat → Nat → Option Nat) (x1 : Int32) (x2 : Int32) : Option ((Int32)) :=
  if ¬ (x1 < 0 ∨ 3 ≤ Int32.toNatClampNeg x1) then
  let v2 := (I 70 (Int32.toNatClampNeg x1))
  if (1 : Int32) ≤ v2 then
    gX4_wishAt_l17 σ I R FUx x1 x2 v2 (0 : Int32)
  else
    some (0 : Int32)
  else none
theorem eX4_wishAt {σ : Shp} {I : Nat → Nat → Int32} {R : Nat → Nat → Option Nat} {x1 : Int32} {x2 : Int32} (hS : Skel σ R) : fX4_wishAt σ I R 26 x1 x2 = gX4_wishAt σ I R x1 x2 := by
  unfold fX4_wishAt gX4_wishAt
  refine sg (kq26 hS) ?_
  refine sb (rq26_12 hS) ?_
  refine sg (kq70 hS) ?_
  refine bgr (by rw [lq70 hS]) (fun g1 => ?_)
  refine bi (fun c => ?_) (fun c => ?_)
  · exact eX4_wishAt_l17 hS _ _ _ _ _
  · rfl
def gX4_wantedMove (σ : Shp) (I : Nat → Nat → Int32) (J : Nat → Nat → Int64) (D : Nat → Nat → UInt64) (R : Nat → Nat → Option Nat) (x1 : Int32) : Option ((Nat → Nat → Int64) × (Int64)) :=
  if ¬ (x1 < 0 ∨ 3 ≤ Int32.toNatClampNeg x1) then
  (gX4_valueReal σ J D R x1).bind fun r2 =>
  if (FP.dmul r2 (4652007308841189376 : UInt64)) &&& 0x7fffffffffffffff ≤ 0x7ff0000000000000 then
  let v5 := (fX4_bounded (FP.d2l (FP.dmul r2 (4652007308841189376 : UInt64))) (-1000000000 : Int64) (1000000000 : Int64))
  (gX4_wishAt σ I R x1 ((I 26 13) - (I 26 13) / (1440 : Int32) * (1440 : Int32))).bind fun r6 =>
  let v8 := (fX4_bounded (v5 - (Int32.toInt64 r6)) (-100000 : Int64) (100000 : Int64))
  if ¬ ((5 : Int32) < 0 ∨ 11 ≤ Int32.toNatClampNeg (5 : Int32)) then
  let J10 := u2 J (58 + Int32.toNatClampNeg x1) (Int32.toNatClampNeg (5 : Int32)) (fX4_bounded ((J (58 + Int32.toNatClampNeg x1) (Int32.toNatClampNeg (5 : Int32))) + (v8 / (16 : Int64))) (-4000 : Int64) (4000 : Int64))
  some (J10, (fX4_bounded ((v8 / (400 : Int64)) + ((J10 (58 + Int32.toNatClampNeg x1) (Int32.toNatClampNeg (5 : Int32))) / (500 : Int64))) (-10 : Int64) (10 : Int64)))
  else none
  else none
  else none
theorem eX4_wantedMove {σ : Shp} {I : Nat → Nat → Int32} {J : Nat → Nat → Int64} {D : Nat → Nat → UInt64} {R : Nat → Nat → Option Nat} {x1 : Int32} (hS : Skel σ R) : fX4_wantedMove σ I J D R 26 x1 = gX4_wantedMove σ I J D R x1 := by
  unfold fX4_wantedMove gX4_wantedMove
  refine sg (kq26 hS) ?_
  refine sb (rq26_8 hS) ?_
  refine sg (kq57 hS) ?_
  refine bgr (by rw [lq57 hS]) (fun g1 => ?_)
  refine sb (rr57 hS g1) ?_
  try with_reducible refine sg (kq26 hS) ?_
  refine bc (eX4_valueReal hS) (fun r2 hc3 => ?_)
  refine bg (fun g4 => ?_)
  try with_reducible refine sg (kq26 hS) ?_
  try with_reducible refine sg (kq26 hS) ?_
  refine bc (eX4_wishAt hS) (fun r6 hc7 => ?_)
  refine sg (kr57 hS g1) ?_
  refine bgr (by rw [lr57 hS g1]) (fun g9 => ?_)
  try with_reducible refine sg (kr57 hS g1) ?_
  try with_reducible refine sg (by rw [lr57 hS g1]; exact g9) ?_
  try with_reducible refine sg (kr57 hS g1) ?_
  try with_reducible refine sg (by rw [lr57 hS g1]; exact g9) ?_
  rfl
def gX4_steer_b85  (σ : Shp) (I : Nat → Nat → Int32) (D : Nat → Nat → UInt64) (R : Nat → Nat → Option Nat) (J : Nat → Nat → Int64) (x2 : Option Nat) (x3 : Int64) : Option ((Nat → Nat → Int64)) :=
  if ¬ ((4 : Int32) < 0 ∨ 5 ≤ Int32.toNatClampNeg (4 : Int32)) then
  if (I 61 (Int32.toNatClampNeg (4 : Int32))) = (1 : Int32) then
    (x2 : Option Nat).bind fun a13 =>
    if kdx σ a13 = 21 then
    if ¬ ((3 : Int32) < 0 ∨ lnx σ a13 ≤ Int32.toNatClampNeg (3 : Int32)) then
    if (J a13 (Int32.toNatClampNeg (3 : Int32))) ≤ (20 : Int64) then
      some J
    else
      let J16 := u2 J a13 (Int32.toNatClampNeg (3 : Int32)) (fXM_maxJ (20 : Int64) (x3 - (10 : Int64)))
      some J16
    else none
    else none
  else
    some J
  else none
theorem eX4_steer_b85 {σ : Shp} {I : Nat → Nat → Int32} {J : Nat → Nat → Int64} {D : Nat → Nat → UInt64} {R : Nat → Nat → Option Nat} {x2 : Option Nat} {x3 : Int64} (hS : Skel σ R) : fX4_steer_b85 σ I D R 26 J x2 x3 = gX4_steer_b85 σ I D R J x2 x3 := by
  unfold fX4_steer_b85 gX4_steer_b85
  refine sg (kq26 hS) ?_
  refine sb (rq26_9 hS) ?_
  refine sg (kq61 hS) ?_
  refine bgr (by rw [lq61 hS]) (fun g12 => ?_)
  refine bi (fun c => ?_) (fun c => ?_)
  · refine bb (fun a13 ha13 => ?_)
    refine bg (fun g14 => ?_)
    refine bg (fun g15 => ?_)
    refine bi (fun c => ?_) (fun c => ?_)
    · rfl
    · rfl
  · rfl
def gX4_steer_b50  (σ : Shp) (I : Nat → Nat → Int32) (D : Nat → Nat → UInt64) (R : Nat → Nat → Option Nat) (J : Nat → Nat → Int64) (x2 : Option Nat) (x3 : Int64) : Option ((Nat → Nat → Int64)) :=
  (x2 : Option Nat).bind fun a6 =>
  if kdx σ a6 = 21 then
  if ¬ ((3 : Int32) < 0 ∨ lnx σ a6 ≤ Int32.toNatClampNeg (3 : Int32)) then
  let J9 := u2 J a6 (Int32.toNatClampNeg (3 : Int32)) (fX4_towards x3 (10 : Int64))
  if ¬ ((4 : Int32) < 0 ∨ lnx σ a6 ≤ Int32.toNatClampNeg (4 : Int32)) then
  let J11 := u2 J9 a6 (Int32.toNatClampNeg (4 : Int32)) (fX4_towards (J9 a6 (Int32.toNatClampNeg (4 : Int32))) (30 : Int64))
  gX4_steer_b85 σ I D R J11 x2 x3
  else none
  else none
  else none
theorem eX4_steer_b50 {σ : Shp} {I : Nat → Nat → Int32} {J : Nat → Nat → Int64} {D : Nat → Nat → UInt64} {R : Nat → Nat → Option Nat} {x2 : Option Nat} {x3 : Int64} (hS : Skel σ R) : fX4_steer_b50 σ I D R 26 J x2 x3 = gX4_steer_b50 σ I D R J x2 x3 := by
  unfold fX4_steer_b50 gX4_steer_b50
  refine bb (fun a6 ha6 => ?_)
  refine bg (fun g7 => ?_)
  refine bg (fun g8 => ?_)
  refine bg (fun g10 => ?_)
  exact eX4_steer_b85 hS
def gX4_steer (σ : Shp) (I : Nat → Nat → Int32) (J : Nat → Nat → Int64) (D : Nat → Nat → UInt64) (R : Nat → Nat → Option Nat) (x1 : Int32) : Option ((Nat → Nat → Int64)) :=
  if ¬ (x1 < 0 ∨ 3 ≤ Int32.toNatClampNeg x1) then
  if ¬ ((3 : Int32) < 0 ∨ 11 ≤ Int32.toNatClampNeg (3 : Int32)) then
  let v3 := (J (58 + Int32.toNatClampNeg x1) (Int32.toNatClampNeg (3 : Int32)))
  if ¬ ((3 : Int32) < 0 ∨ 5 ≤ Int32.toNatClampNeg (3 : Int32)) then
  if (I 61 (Int32.toNatClampNeg (3 : Int32))) = (1 : Int32) then
    let J24 := u2 J (58 + Int32.toNatClampNeg x1) (Int32.toNatClampNeg (3 : Int32)) (fX4_towards v3 (0 : Int64))
    some J24
  else
    if ¬ (x1 < 0 ∨ 3 ≤ Int32.toNatClampNeg x1) then
    if (fX11_isNumber (J 55 (Int32.toNatClampNeg x1))) = 0 then
      gX4_steer_b50 σ I D R J (some (58 + Int32.toNatClampNeg x1)) v3
    else
      (gX4_hasWish I x1).bind fun r17 =>
      if r17 = 0 then
        gX4_steer_b50 σ I D R J (some (58 + Int32.toNatClampNeg x1)) v3
      else
        (gX4_wantedMove σ I J D R x1).bind fun (J19, r20) =>
        (gX4_moveBy σ J19 R x1 r20).bind fun J22 =>
        gX4_steer_b85 σ I D R J22 (some (58 + Int32.toNatClampNeg x1)) v3
    else none
  else none
  else none
  else none
theorem eX4_steer {σ : Shp} {I : Nat → Nat → Int32} {J : Nat → Nat → Int64} {D : Nat → Nat → UInt64} {R : Nat → Nat → Option Nat} {x1 : Int32} (hS : Skel σ R) : fX4_steer σ I J D R 26 x1 = gX4_steer σ I J D R x1 := by
  unfold fX4_steer gX4_steer
  refine sg (kq26 hS) ?_
  refine sb (rq26_8 hS) ?_
  refine sg (kq57 hS) ?_
  refine bgr (by rw [lq57 hS]) (fun g1 => ?_)
  refine sb (rr57 hS g1) ?_
  refine sg (kr57 hS g1) ?_
  refine bgr (by rw [lr57 hS g1]) (fun g2 => ?_)
  try with_reducible refine sg (kq26 hS) ?_
  refine sb (rq26_9 hS) ?_
  refine sg (kq61 hS) ?_
  refine bgr (by rw [lq61 hS]) (fun g4 => ?_)
  refine bi (fun c => ?_) (fun c => ?_)
  · try with_reducible refine sg (kr57 hS g1) ?_
    try with_reducible refine sg (by rw [lr57 hS g1]; exact g2) ?_
    rfl
  · try with_reducible refine sg (kq26 hS) ?_
    refine sb (rq26_5 hS) ?_
    refine sg (kq55 hS) ?_
    refine bgr (by rw [lq55 hS]) (fun g5 => ?_)
    refine bi (fun c => ?_) (fun c => ?_)
    · exact eX4_steer_b50 hS
    · try with_reducible refine sg (kq26 hS) ?_
      refine bc (eX4_hasWish hS) (fun r17 hc18 => ?_)
      refine bi (fun c => ?_) (fun c => ?_)
      · exact eX4_steer_b50 hS
      · try with_reducible refine sg (kq26 hS) ?_
        refine bc (eX4_wantedMove hS) (fun pp hc21 => ?_)
        obtain ⟨J19, r20⟩ := pp
        try with_reducible refine sg (kq26 hS) ?_
        refine bc (eX4_moveBy hS) (fun J22 hc23 => ?_)
        exact eX4_steer_b85 hS
