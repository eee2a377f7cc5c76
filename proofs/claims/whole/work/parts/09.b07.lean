def gX12_makeWitness_l142  (σ : Shp) (R : Nat → Nat → Option Nat) : Nat → (Nat → Nat → Int64) → (Int64) → (Int64) → (Int32) → Option ((Nat → Nat → Int64))
  | 0, _, _, _, _ => none
  | n + 1, J, x4, x6, x8 =>
    if (3 : Int32) ≤ x8 then
      some J
    else
      if ¬ (x8 < 0 ∨ 3 ≤ Int32.toNatClampNeg x8) then
      if ¬ x4 = 0 then
      if (0 : Int64) ≤ x6 then
        let J3 := u2 J 194 (Int32.toNatClampNeg x8) (((J 194 (Int32.toNatClampNeg x8)) / x4) * (1 : Int64))
        let v4 := x8 + (1 : Int32)
        gX12_makeWitness_l142 σ R n J3 x4 x6 v4
      else
        let J5 := u2 J 194 (Int32.toNatClampNeg x8) (((J 194 (Int32.toNatClampNeg x8)) / x4) * (-1 : Int64))
        let v6 := x8 + (1 : Int32)
        gX12_makeWitness_l142 σ R n J5 x4 x6 v6
      else none
      else none
theorem eX12_makeWitness_l142 {σ : Shp} {R : Nat → Nat → Option Nat} (hS : Skel σ R) : ∀ (n : Nat) (J : Nat → Nat → Int64) (x4 : Int64) (x6 : Int64) (x8 : Int32), fX12_makeWitness_l142 σ R 114 n J x4 x6 x8 = gX12_makeWitness_l142 σ R n J x4 x6 x8 := by
  intro n
  induction n with
  | zero => intro J x4 x6 x8; rfl
  | succ n ih =>
    intro J x4 x6 x8
    rw [fX12_makeWitness_l142, gX12_makeWitness_l142]
    refine bi (fun c => ?_) (fun c => ?_)
    · rfl
    · refine sg (kq114 hS) ?_
      refine sb (rq114_119 hS) ?_
      try with_reducible refine sg (kq114 hS) ?_
      refine sg (kq194 hS) ?_
      refine bgr (by rw [lq194 hS]) (fun g1 => ?_)
      refine bg (fun g2 => ?_)
      refine bi (fun c => ?_) (fun c => ?_)
      · try with_reducible refine sg (kq194 hS) ?_
        try with_reducible refine sg (by rw [lq194 hS]; exact g1) ?_
        exact ih _ _ _ _
      · try with_reducible refine sg (kq194 hS) ?_
        try with_reducible refine sg (by rw [lq194 hS]; exact g1) ?_
        exact ih _ _ _ _
def gX12_makeWitness_l54  (σ : Shp) (R : Nat → Nat → Option Nat) : Nat → (Nat → Nat → Int64) → (Int32) → (Int64) → (Int64) → (Int64) → (Int32) → Option ((Nat → Nat → Int64))
  | 0, _, _, _, _, _, _ => none
  | n + 1, J, x1, x2, x4, x6, x8 =>
    if (3 : Int32) ≤ x8 then
      gX12_makeWitness_l142 σ R FUx J x4 x6 (0 : Int32)
    else
      if ¬ (((((8 : Int32) * x1) + (5 : Int32)) + x8) < 0 ∨ 24 ≤ Int32.toNatClampNeg ((((8 : Int32) * x1) + (5 : Int32)) + x8)) then
      if ¬ (((((8 : Int32) * x1) + (5 : Int32)) + x8) < 0 ∨ 24 ≤ Int32.toNatClampNeg ((((8 : Int32) * x1) + (5 : Int32)) + x8)) then
      if ¬ (J 190 (Int32.toNatClampNeg ((((8 : Int32) * x1) + (5 : Int32)) + x8))) = 0 then
      if ¬ (x8 < 0 ∨ 3 ≤ Int32.toNatClampNeg x8) then
      let J11 := u2 J 194 (Int32.toNatClampNeg x8) ((J 189 (Int32.toNatClampNeg ((((8 : Int32) * x1) + (5 : Int32)) + x8))) * (x2 / (J 190 (Int32.toNatClampNeg ((((8 : Int32) * x1) + (5 : Int32)) + x8)))))
      (fX12_common x4 (J11 194 (Int32.toNatClampNeg x8))).bind fun r12 =>
      if x6 = (0 : Int64) then
        let v15 := (J11 194 (Int32.toNatClampNeg x8))
        let v16 := x8 + (1 : Int32)
        gX12_makeWitness_l54 σ R n J11 x1 x2 r12 v15 v16
      else
        let v14 := x8 + (1 : Int32)
        gX12_makeWitness_l54 σ R n J11 x1 x2 r12 x6 v14
      else none
      else none
      else none
      else none
theorem eX12_makeWitness_l54 {σ : Shp} {R : Nat → Nat → Option Nat} (hS : Skel σ R) : ∀ (n : Nat) (J : Nat → Nat → Int64) (x1 : Int32) (x2 : Int64) (x4 : Int64) (x6 : Int64) (x8 : Int32), fX12_makeWitness_l54 σ R 114 n J x1 x2 x4 x6 x8 = gX12_makeWitness_l54 σ R n J x1 x2 x4 x6 x8 := by
  intro n
  induction n with
  | zero => intro J x1 x2 x4 x6 x8; rfl
  | succ n ih =>
    intro J x1 x2 x4 x6 x8
    rw [fX12_makeWitness_l54, gX12_makeWitness_l54]
    refine bi (fun c => ?_) (fun c => ?_)
    · exact eX12_makeWitness_l142 hS _ _ _ _ _
    · refine sg (kq114 hS) ?_
      refine sb (rq114_119 hS) ?_
      try with_reducible refine sg (kq114 hS) ?_
      refine sb (rq114_111 hS) ?_
      refine sg (kq189 hS) ?_
      refine bgr (by rw [lq189 hS]) (fun g7 => ?_)
      try with_reducible refine sg (kq114 hS) ?_
      refine sb (rq114_112 hS) ?_
      refine sg (kq190 hS) ?_
      refine bgr (by rw [lq190 hS]) (fun g8 => ?_)
      refine bg (fun g9 => ?_)
      refine sg (kq194 hS) ?_
      refine bgr (by rw [lq194 hS]) (fun g10 => ?_)
      try with_reducible refine sg (kq114 hS) ?_
      try with_reducible refine sg (kq194 hS) ?_
      try with_reducible refine sg (by rw [lq194 hS]; exact g10) ?_
      refine bc rfl (fun r12 hc13 => ?_)
      refine bi (fun c => ?_) (fun c => ?_)
      · try with_reducible refine sg (kq114 hS) ?_
        try with_reducible refine sg (kq194 hS) ?_
        try with_reducible refine sg (by rw [lq194 hS]; exact g10) ?_
        exact ih _ _ _ _ _ _
      · exact ih _ _ _ _ _ _
def gX12_makeWitness_l5  (σ : Shp) (R : Nat → Nat → Option Nat) : Nat → (Nat → Nat → Int64) → (Int32) → (Int64) → (Int32) → Option ((Nat → Nat → Int64))
  | 0, _, _, _, _ => none
  | n + 1, J, x1, x2, x4 =>
    if (3 : Int32) ≤ x4 then
      gX12_makeWitness_l54 σ R FUx J x1 x2 (0 : Int64) (0 : Int64) (0 : Int32)
    else
      if ¬ (((((8 : Int32) * x1) + (5 : Int32)) + x4) < 0 ∨ 24 ≤ Int32.toNatClampNeg ((((8 : Int32) * x1) + (5 : Int32)) + x4)) then
      let v18 := (J 190 (Int32.toNatClampNeg ((((8 : Int32) * x1) + (5 : Int32)) + x4)))
      (fX12_common x2 v18).bind fun r19 =>
      if ¬ r19 = 0 then
      let v22 := ((x2 / r19) * v18)
      let v23 := x4 + (1 : Int32)
      gX12_makeWitness_l5 σ R n J x1 v22 v23
      else none
      else none
theorem eX12_makeWitness_l5 {σ : Shp} {R : Nat → Nat → Option Nat} (hS : Skel σ R) : ∀ (n : Nat) (J : Nat → Nat → Int64) (x1 : Int32) (x2 : Int64) (x4 : Int32), fX12_makeWitness_l5 σ R 114 n J x1 x2 x4 = gX12_makeWitness_l5 σ R n J x1 x2 x4 := by
  intro n
  induction n with
  | zero => intro J x1 x2 x4; rfl
  | succ n ih =>
    intro J x1 x2 x4
    rw [fX12_makeWitness_l5, gX12_makeWitness_l5]
    refine bi (fun c => ?_) (fun c => ?_)
    · exact eX12_makeWitness_l54 hS _ _ _ _ _ _ _
    · refine sg (kq114 hS) ?_
      refine sb (rq114_112 hS) ?_
      refine sg (kq190 hS) ?_
      refine bgr (by rw [lq190 hS]) (fun g17 => ?_)
      refine bc rfl (fun r19 hc20 => ?_)
      refine bg (fun g21 => ?_)
      exact ih _ _ _ _
def gX12_makeWitness (σ : Shp) (J : Nat → Nat → Int64) (R : Nat → Nat → Option Nat) (x1 : Int32) : Option ((Nat → Nat → Int64)) :=
  gX12_makeWitness_l5 σ R FUx J x1 (1 : Int64) (0 : Int32)
theorem eX12_makeWitness {σ : Shp} {J : Nat → Nat → Int64} {R : Nat → Nat → Option Nat} {x1 : Int32} (hS : Skel σ R) : fX12_makeWitness σ J R 114 x1 = gX12_makeWitness σ J R x1 := by
  unfold fX12_makeWitness gX12_makeWitness
  exact eX12_makeWitness_l5 hS _ _ _ _ _
def gX12_work_l273  (σ : Shp) (R : Nat → Nat → Option Nat) : Nat → (Nat → Nat → Int32) → (Nat → Nat → Int64) → (Int32) → (Int32) → Option ((Nat → Nat → Int32) × (Nat → Nat → Int64) × (Int32))
  | 0, _, _, _, _ => none
  | n + 1, I, J, x1, x2 =>
    if (I 114 114) ≤ x2 then
      if x1 = 0 then
        some (I, J, (1 : Int32))
      else
        some (I, J, (2 : Int32))
    else
      if ¬ (x2 < 0 ∨ 3 ≤ Int32.toNatClampNeg x2) then
      if ¬ ((((8 : Int32) * x2) + (4 : Int32)) < 0 ∨ 24 ≤ Int32.toNatClampNeg (((8 : Int32) * x2) + (4 : Int32))) then
      if ¬ ((I 191 (Int32.toNatClampNeg x2)) < 0 ∨ 4 ≤ Int32.toNatClampNeg (I 191 (Int32.toNatClampNeg x2))) then
      let J8 := u2 J 192 (Int32.toNatClampNeg (I 191 (Int32.toNatClampNeg x2))) (J 189 (Int32.toNatClampNeg (((8 : Int32) * x2) + (4 : Int32))))
      if ¬ ((((8 : Int32) * x2) + (4 : Int32)) < 0 ∨ 24 ≤ Int32.toNatClampNeg (((8 : Int32) * x2) + (4 : Int32))) then
      if ¬ ((I 191 (Int32.toNatClampNeg x2)) < 0 ∨ 4 ≤ Int32.toNatClampNeg (I 191 (Int32.toNatClampNeg x2))) then
      let J11 := u2 J8 193 (Int32.toNatClampNeg (I 191 (Int32.toNatClampNeg x2))) (J8 190 (Int32.toNatClampNeg (((8 : Int32) * x2) + (4 : Int32))))
      if x1 = 0 then
        if (0 : Int64) ≤ (J11 189 (Int32.toNatClampNeg (((8 : Int32) * x2) + (4 : Int32)))) then
          let v13 := x2 + (1 : Int32)
          gX12_work_l273 σ R n I J11 (0 : Int32) v13
        else
          let v14 := x2 + (1 : Int32)
          gX12_work_l273 σ R n I J11 (1 : Int32) v14
      else
        let v12 := x2 + (1 : Int32)
        gX12_work_l273 σ R n I J11 (1 : Int32) v12
      else none
      else none
      else none
      else none
      else none
theorem eX12_work_l273 {σ : Shp} {R : Nat → Nat → Option Nat} (hS : Skel σ R) : ∀ (n : Nat) (I : Nat → Nat → Int32) (J : Nat → Nat → Int64) (x1 : Int32) (x2 : Int32), fX12_work_l273 σ R 114 n I J x1 x2 = gX12_work_l273 σ R n I J x1 x2 := by
  intro n
  induction n with
  | zero => intro I J x1 x2; rfl
  | succ n ih =>
    intro I J x1 x2
    rw [fX12_work_l273, gX12_work_l273]
    refine sg (kq114 hS) ?_
    refine bi (fun c => ?_) (fun c => ?_)
    · refine bi (fun c => ?_) (fun c => ?_)
      · rfl
      · rfl
    · try with_reducible refine sg (kq114 hS) ?_
      refine sb (rq114_117 hS) ?_
      try with_reducible refine sg (kq114 hS) ?_
      refine sb (rq114_113 hS) ?_
      refine sg (kq191 hS) ?_
      refine bgr (by rw [lq191 hS]) (fun g5 => ?_)
      try with_reducible refine sg (kq114 hS) ?_
      refine sb (rq114_111 hS) ?_
      refine sg (kq189 hS) ?_
      refine bgr (by rw [lq189 hS]) (fun g6 => ?_)
      refine sg (kq192 hS) ?_
      refine bgr (by rw [lq192 hS]) (fun g7 => ?_)
      try with_reducible refine sg (kq114 hS) ?_
      refine sb (rq114_118 hS) ?_
      try with_reducible refine sg (kq114 hS) ?_
      try with_reducible refine sg (kq191 hS) ?_
      try with_reducible refine sg (by rw [lq191 hS]; exact g5) ?_
      try with_reducible refine sg (kq114 hS) ?_
      refine sb (rq114_112 hS) ?_
      refine sg (kq190 hS) ?_
      refine bgr (by rw [lq190 hS]) (fun g9 => ?_)
      refine sg (kq193 hS) ?_
      refine bgr (by rw [lq193 hS]) (fun g10 => ?_)
      refine bi (fun c => ?_) (fun c => ?_)
      · try with_reducible refine sg (kq114 hS) ?_
        try with_reducible refine sg (kq189 hS) ?_
        try with_reducible refine sg (by rw [lq189 hS]; exact g6) ?_
        refine bi (fun c => ?_) (fun c => ?_)
        · exact ih _ _ _ _
        · exact ih _ _ _ _
      · exact ih _ _ _ _
def gX12_work_l246  (σ : Shp) (R : Nat → Nat → Option Nat) : Nat → (Nat → Nat → Int32) → (Nat → Nat → Int64) → (Int32) → (Int32) → Option ((Nat → Nat → Int32) × (Nat → Nat → Int64) × (Int32))
  | 0, _, _, _, _ => none
  | n + 1, I, J, x1, x2 =>
    if (4 : Int32) ≤ x2 then
      gX12_work_l273 σ R FUx I J x1 (0 : Int32)
    else
      if ¬ (x2 < 0 ∨ 4 ≤ Int32.toNatClampNeg x2) then
      let J16 := u2 J 192 (Int32.toNatClampNeg x2) (0 : Int64)
      if ¬ (x2 < 0 ∨ 4 ≤ Int32.toNatClampNeg x2) then
      let J18 := u2 J16 193 (Int32.toNatClampNeg x2) (1 : Int64)
      let v19 := x2 + (1 : Int32)
      gX12_work_l246 σ R n I J18 x1 v19
      else none
      else none
theorem eX12_work_l246 {σ : Shp} {R : Nat → Nat → Option Nat} (hS : Skel σ R) : ∀ (n : Nat) (I : Nat → Nat → Int32) (J : Nat → Nat → Int64) (x1 : Int32) (x2 : Int32), fX12_work_l246 σ R 114 n I J x1 x2 = gX12_work_l246 σ R n I J x1 x2 := by
  intro n
  induction n with
  | zero => intro I J x1 x2; rfl
  | succ n ih =>
    intro I J x1 x2
    rw [fX12_work_l246, gX12_work_l246]
    refine bi (fun c => ?_) (fun c => ?_)
    · exact eX12_work_l273 hS _ _ _ _ _
    · refine sg (kq114 hS) ?_
      refine sb (rq114_117 hS) ?_
      refine sg (kq192 hS) ?_
      refine bgr (by rw [lq192 hS]) (fun g15 => ?_)
      try with_reducible refine sg (kq114 hS) ?_
      refine sb (rq114_118 hS) ?_
      refine sg (kq193 hS) ?_
      refine bgr (by rw [lq193 hS]) (fun g17 => ?_)
      exact ih _ _ _ _
def gX12_work_l189  (σ : Shp) (R : Nat → Nat → Option Nat) : Nat → (Nat → Nat → Int32) → (Nat → Nat → Int64) → (Int32) → Option ((Nat → Nat → Int32) × (Nat → Nat → Int64) × (Int32))
  | 0, _, _, _ => none
  | n + 1, I, J, x1 =>
    if (3 : Int32) ≤ x1 then
      if (I 114 116) = 0 then
        gX12_work_l246 σ R FUx I J (0 : Int32) (0 : Int32)
      else
        some (I, J, (0 : Int32))
    else
      if (I 114 116) = 0 then
        if ¬ ((((8 : Int32) * x1) + (4 : Int32)) < 0 ∨ 24 ≤ Int32.toNatClampNeg (((8 : Int32) * x1) + (4 : Int32))) then
        if (J 189 (Int32.toNatClampNeg (((8 : Int32) * x1) + (4 : Int32)))) = (0 : Int64) then
          let v21 := x1 + (1 : Int32)
          gX12_work_l189 σ R n I J v21
        else
          let I22 := u2 I 114 116 (1 : Int32)
          (gX12_makeWitness σ J R x1).bind fun J23 =>
          let v25 := x1 + (1 : Int32)
          gX12_work_l189 σ R n I22 J23 v25
        else none
      else
        if (I 114 116) = 0 then
          gX12_work_l246 σ R FUx I J (0 : Int32) (0 : Int32)
        else
          some (I, J, (0 : Int32))
theorem eX12_work_l189 {σ : Shp} {R : Nat → Nat → Option Nat} (hS : Skel σ R) : ∀ (n : Nat) (I : Nat → Nat → Int32) (J : Nat → Nat → Int64) (x1 : Int32), fX12_work_l189 σ R 114 n I J x1 = gX12_work_l189 σ R n I J x1 := by
  intro n
  induction n with
  | zero => intro I J x1; rfl
  | succ n ih =>
    intro I J x1
    rw [fX12_work_l189, gX12_work_l189]
    refine bi (fun c => ?_) (fun c => ?_)
    · refine sg (kq114 hS) ?_
      refine bi (fun c => ?_) (fun c => ?_)
      · exact eX12_work_l246 hS _ _ _ _ _
      · rfl
    · refine sg (kq114 hS) ?_
      refine bi (fun c => ?_) (fun c => ?_)
      · try with_reducible refine sg (kq114 hS) ?_
        refine sb (rq114_111 hS) ?_
        refine sg (kq189 hS) ?_
        refine bgr (by rw [lq189 hS]) (fun g20 => ?_)
        refine bi (fun c => ?_) (fun c => ?_)
        · exact ih _ _ _
        · try with_reducible refine sg (kq114 hS) ?_
          try with_reducible refine sg (kq114 hS) ?_
          refine bc (eX12_makeWitness hS) (fun J23 hc24 => ?_)
          exact ih _ _ _
      · try with_reducible refine sg (kq114 hS) ?_
        refine bi (fun c => ?_) (fun c => ?_)
        · exact eX12_work_l246 hS _ _ _ _ _
        · rfl
def gX12_work_b153 (q116 : (Nat → Nat → Int32) → (Nat → Nat → Int64) → (Int32) → (Option ((Nat → Nat → Int32) × (Nat → Nat → Int64) × (Int32)))) (σ : Shp) (R : Nat → Nat → Option Nat) (I : Nat → Nat → Int32) (J : Nat → Nat → Int64) (x1 : Int32) (x2 : Int32) : Option ((Nat → Nat → Int32) × (Nat → Nat → Int64) × (Int32)) :=
  if (3 : Int32) ≤ x2 then
    let v27 := x1 + (1 : Int32)
    q116 I J v27
  else
    (gX12_liftRow σ I J R x2).bind fun J28 =>
    (gX12_clear σ I J28 R x1).bind fun (I30, J31) =>
    let v33 := x1 + (1 : Int32)
    q116 I30 J31 v33
theorem eX12_work_b153 {σ : Shp} {I : Nat → Nat → Int32} {J : Nat → Nat → Int64} {R : Nat → Nat → Option Nat} {x1 : Int32} {x2 : Int32} (hS : Skel σ R) {qf116 q116 : (Nat → Nat → Int32) → (Nat → Nat → Int64) → (Int32) → (Option ((Nat → Nat → Int32) × (Nat → Nat → Int64) × (Int32)))} (hq116 : ∀ (I : Nat → Nat → Int32) (J : Nat → Nat → Int64) (x1 : Int32), qf116 I J x1 = q116 I J x1) : fX12_work_b153 qf116 σ R 114 I J x1 x2 = gX12_work_b153 q116 σ R I J x1 x2 := by
  unfold fX12_work_b153 gX12_work_b153
  refine bi (fun c => ?_) (fun c => ?_)
  · exact hq116 _ _ _
  · refine sg (kq114 hS) ?_
    refine bc (eX12_liftRow hS) (fun J28 hc29 => ?_)
    try with_reducible refine sg (kq114 hS) ?_
    refine bc (eX12_clear hS) (fun pp hc32 => ?_)
    obtain ⟨I30, J31⟩ := pp
    exact hq116 _ _ _
def gX12_work_l126 (q116 : (Nat → Nat → Int32) → (Nat → Nat → Int64) → (Int32) → (Option ((Nat → Nat → Int32) × (Nat → Nat → Int64) × (Int32)))) (σ : Shp) (R : Nat → Nat → Option Nat) : Nat → (Nat → Nat → Int32) → (Nat → Nat → Int64) → (Int32) → (Int32) → Option ((Nat → Nat → Int32) × (Nat → Nat → Int64) × (Int32))
  | 0, _, _, _, _ => none
  | n + 1, I, J, x1, x2 =>
    if (3 : Int32) ≤ x2 then
      gX12_work_b153 q116 σ R I J x1 x2
    else
      if ¬ ((((8 : Int32) * x2) + x1) < 0 ∨ 24 ≤ Int32.toNatClampNeg (((8 : Int32) * x2) + x1)) then
      if (J 189 (Int32.toNatClampNeg (((8 : Int32) * x2) + x1))) = (0 : Int64) then
        let v35 := x2 + (1 : Int32)
        gX12_work_l126 q116 σ R n I J x1 v35
      else
        gX12_work_b153 q116 σ R I J x1 x2
      else none
theorem eX12_work_l126 {σ : Shp} {R : Nat → Nat → Option Nat} (hS : Skel σ R) {qf116 q116 : (Nat → Nat → Int32) → (Nat → Nat → Int64) → (Int32) → (Option ((Nat → Nat → Int32) × (Nat → Nat → Int64) × (Int32)))} (hq116 : ∀ (I : Nat → Nat → Int32) (J : Nat → Nat → Int64) (x1 : Int32), qf116 I J x1 = q116 I J x1) : ∀ (n : Nat) (I : Nat → Nat → Int32) (J : Nat → Nat → Int64) (x1 : Int32) (x2 : Int32), fX12_work_l126 qf116 σ R 114 n I J x1 x2 = gX12_work_l126 q116 σ R n I J x1 x2 := by
  intro n
  induction n with
  | zero => intro I J x1 x2; rfl
  | succ n ih =>
    intro I J x1 x2
    rw [fX12_work_l126, gX12_work_l126]
    refine bi (fun c => ?_) (fun c => ?_)
    · exact eX12_work_b153 hS hq116
    · refine sg (kq114 hS) ?_
      refine sb (rq114_111 hS) ?_
      refine sg (kq189 hS) ?_
      refine bgr (by rw [lq189 hS]) (fun g34 => ?_)
      refine bi (fun c => ?_) (fun c => ?_)
      · exact ih _ _ _ _
      · exact eX12_work_b153 hS hq116
def gX12_work_l116  (σ : Shp) (R : Nat → Nat → Option Nat) : Nat → (Nat → Nat → Int32) → (Nat → Nat → Int64) → (Int32) → Option ((Nat → Nat → Int32) × (Nat → Nat → Int64) × (Int32))
  | 0, _, _, _ => none
  | n + 1, I, J, x1 =>
    if (4 : Int32) ≤ x1 then
      let I2 := u2 I 114 115 (1 : Int32)
      let I3 := u2 I2 114 116 (0 : Int32)
      let v4 := (I3 114 114)
      gX12_work_l189 σ R FUx I3 J v4
    else
      let v26 := (I 114 114)
      gX12_work_l126 (gX12_work_l116 σ R n) σ R FUx I J x1 v26
theorem eX12_work_l116 {σ : Shp} {R : Nat → Nat → Option Nat} (hS : Skel σ R) : ∀ (n : Nat) (I : Nat → Nat → Int32) (J : Nat → Nat → Int64) (x1 : Int32), fX12_work_l116 σ R 114 n I J x1 = gX12_work_l116 σ R n I J x1 := by
  intro n
  induction n with
  | zero => intro I J x1; rfl
  | succ n ih =>
    intro I J x1
    rw [fX12_work_l116, gX12_work_l116]
    refine bi (fun c => ?_) (fun c => ?_)
    · refine sg (kq114 hS) ?_
      try with_reducible refine sg (kq114 hS) ?_
      try with_reducible refine sg (kq114 hS) ?_
      exact eX12_work_l189 hS _ _ _ _
    · refine sg (kq114 hS) ?_
      exact eX12_work_l126 hS ih _ _ _ _ _
def gX12_work_l9 (q2 : (Nat → Nat → Int32) → (Nat → Nat → Int64) → (Int32) → (Option ((Nat → Nat → Int32) × (Nat → Nat → Int64) × (Int32)))) (σ : Shp) (R : Nat → Nat → Option Nat) : Nat → (Nat → Nat → Int32) → (Nat → Nat → Int64) → (Int32) → (Int32) → Option ((Nat → Nat → Int32) × (Nat → Nat → Int64) × (Int32))
  | 0, _, _, _, _ => none
  | n + 1, I, J, x1, x2 =>
    if (8 : Int32) ≤ x2 then
      let v36 := x1 + (1 : Int32)
      q2 I J v36
    else
      if (4 : Int32) ≤ x2 then
        if x2 = (4 : Int32) then
          if ¬ (((12 : Int32) + x1) < 0 ∨ 18 ≤ Int32.toNatClampNeg ((12 : Int32) + x1)) then
          if ¬ (((15 : Int32) + x1) < 0 ∨ 18 ≤ Int32.toNatClampNeg ((15 : Int32) + x1)) then
          if ¬ ((((8 : Int32) * x1) + x2) < 0 ∨ 24 ≤ Int32.toNatClampNeg (((8 : Int32) * x1) + x2)) then
          let J50 := u2 J 189 (Int32.toNatClampNeg (((8 : Int32) * x1) + x2)) (Int32.toInt64 ((I 188 (Int32.toNatClampNeg ((12 : Int32) + x1))) - (I 188 (Int32.toNatClampNeg ((15 : Int32) + x1)))))
          if ¬ ((((8 : Int32) * x1) + x2) < 0 ∨ 24 ≤ Int32.toNatClampNeg (((8 : Int32) * x1) + x2)) then
          let J52 := u2 J50 190 (Int32.toNatClampNeg (((8 : Int32) * x1) + x2)) (1 : Int64)
          let v53 := x2 + (1 : Int32)
          gX12_work_l9 q2 σ R n I J52 x1 v53
          else none
          else none
          else none
          else none
        else
          if (x2 - (5 : Int32)) = x1 then
            if ¬ ((((8 : Int32) * x1) + x2) < 0 ∨ 24 ≤ Int32.toNatClampNeg (((8 : Int32) * x1) + x2)) then
            let J43 := u2 J 189 (Int32.toNatClampNeg (((8 : Int32) * x1) + x2)) (1 : Int64)
            if ¬ ((((8 : Int32) * x1) + x2) < 0 ∨ 24 ≤ Int32.toNatClampNeg (((8 : Int32) * x1) + x2)) then
            let J45 := u2 J43 190 (Int32.toNatClampNeg (((8 : Int32) * x1) + x2)) (1 : Int64)
            let v46 := x2 + (1 : Int32)
            gX12_work_l9 q2 σ R n I J45 x1 v46
            else none
            else none
          else
            if ¬ ((((8 : Int32) * x1) + x2) < 0 ∨ 24 ≤ Int32.toNatClampNeg (((8 : Int32) * x1) + x2)) then
            let J38 := u2 J 189 (Int32.toNatClampNeg (((8 : Int32) * x1) + x2)) (0 : Int64)
            if ¬ ((((8 : Int32) * x1) + x2) < 0 ∨ 24 ≤ Int32.toNatClampNeg (((8 : Int32) * x1) + x2)) then
            let J40 := u2 J38 190 (Int32.toNatClampNeg (((8 : Int32) * x1) + x2)) (1 : Int64)
            let v41 := x2 + (1 : Int32)
            gX12_work_l9 q2 σ R n I J40 x1 v41
            else none
            else none
      else
        if ¬ ((((3 : Int32) * x2) + x1) < 0 ∨ 18 ≤ Int32.toNatClampNeg (((3 : Int32) * x2) + x1)) then
        if ¬ ((((8 : Int32) * x1) + x2) < 0 ∨ 24 ≤ Int32.toNatClampNeg (((8 : Int32) * x1) + x2)) then
        let J56 := u2 J 189 (Int32.toNatClampNeg (((8 : Int32) * x1) + x2)) (Int32.toInt64 (I 188 (Int32.toNatClampNeg (((3 : Int32) * x2) + x1))))
        if ¬ ((((8 : Int32) * x1) + x2) < 0 ∨ 24 ≤ Int32.toNatClampNeg (((8 : Int32) * x1) + x2)) then
        let J58 := u2 J56 190 (Int32.toNatClampNeg (((8 : Int32) * x1) + x2)) (1 : Int64)
        let v59 := x2 + (1 : Int32)
        gX12_work_l9 q2 σ R n I J58 x1 v59
        else none
        else none
        else none
theorem eX12_work_l9 {σ : Shp} {R : Nat → Nat → Option Nat} (hS : Skel σ R) {qf2 q2 : (Nat → Nat → Int32) → (Nat → Nat → Int64) → (Int32) → (Option ((Nat → Nat → Int32) × (Nat → Nat → Int64) × (Int32)))} (hq2 : ∀ (I : Nat → Nat → Int32) (J : Nat → Nat → Int64) (x1 : Int32), qf2 I J x1 = q2 I J x1) : ∀ (n : Nat) (I : Nat → Nat → Int32) (J : Nat → Nat → Int64) (x1 : Int32) (x2 : Int32), fX12_work_l9 qf2 σ R 114 n I J x1 x2 = gX12_work_l9 q2 σ R n I J x1 x2 := by
  intro n
  induction n with
  | zero => intro I J x1 x2; rfl
  | succ n ih =>
    intro I J x1 x2
    rw [fX12_work_l9, gX12_work_l9]
    refine bi (fun c => ?_) (fun c => ?_)
    · exact hq2 _ _ _
    · refine sg (kq114 hS) ?_
      refine sb (rq114_111 hS) ?_
      refine bi (fun c => ?_) (fun c => ?_)
      · refine bi (fun c => ?_) (fun c => ?_)
        · try with_reducible refine sg (kq114 hS) ?_
          refine sb (rq114_110 hS) ?_
          refine sg (kq188 hS) ?_
          refine bgr (by rw [lq188 hS]) (fun g47 => ?_)
          try with_reducible refine sg (kq114 hS) ?_
          try with_reducible refine sg (kq188 hS) ?_
          refine bgr (by rw [lq188 hS]) (fun g48 => ?_)
          refine sg (kq189 hS) ?_
          refine bgr (by rw [lq189 hS]) (fun g49 => ?_)
          try with_reducible refine sg (kq114 hS) ?_
          refine sb (rq114_112 hS) ?_
          refine sg (kq190 hS) ?_
          refine bgr (by rw [lq190 hS]) (fun g51 => ?_)
          exact ih _ _ _ _
        · refine bi (fun c => ?_) (fun c => ?_)
          · refine sg (kq189 hS) ?_
            refine bgr (by rw [lq189 hS]) (fun g42 => ?_)
            try with_reducible refine sg (kq114 hS) ?_
            refine sb (rq114_112 hS) ?_
            refine sg (kq190 hS) ?_
            refine bgr (by rw [lq190 hS]) (fun g44 => ?_)
            exact ih _ _ _ _
          · refine sg (kq189 hS) ?_
            refine bgr (by rw [lq189 hS]) (fun g37 => ?_)
            try with_reducible refine sg (kq114 hS) ?_
            refine sb (rq114_112 hS) ?_
            refine sg (kq190 hS) ?_
            refine bgr (by rw [lq190 hS]) (fun g39 => ?_)
            exact ih _ _ _ _
      · try with_reducible refine sg (kq114 hS) ?_
        refine sb (rq114_110 hS) ?_
        refine sg (kq188 hS) ?_
        refine bgr (by rw [lq188 hS]) (fun g54 => ?_)
        refine sg (kq189 hS) ?_
        refine bgr (by rw [lq189 hS]) (fun g55 => ?_)
        try with_reducible refine sg (kq114 hS) ?_
        refine sb (rq114_112 hS) ?_
        refine sg (kq190 hS) ?_
        refine bgr (by rw [lq190 hS]) (fun g57 => ?_)
        exact ih _ _ _ _
def gX12_work_l2  (σ : Shp) (R : Nat → Nat → Option Nat) : Nat → (Nat → Nat → Int32) → (Nat → Nat → Int64) → (Int32) → Option ((Nat → Nat → Int32) × (Nat → Nat → Int64) × (Int32))
  | 0, _, _, _ => none
  | n + 1, I, J, x1 =>
    if (3 : Int32) ≤ x1 then
      let I1 := u2 I 114 114 (0 : Int32)
      gX12_work_l116 σ R FUx I1 J (0 : Int32)
    else
      gX12_work_l9 (gX12_work_l2 σ R n) σ R FUx I J x1 (0 : Int32)
theorem eX12_work_l2 {σ : Shp} {R : Nat → Nat → Option Nat} (hS : Skel σ R) : ∀ (n : Nat) (I : Nat → Nat → Int32) (J : Nat → Nat → Int64) (x1 : Int32), fX12_work_l2 σ R 114 n I J x1 = gX12_work_l2 σ R n I J x1 := by
  intro n
  induction n with
  | zero => intro I J x1; rfl
  | succ n ih =>
    intro I J x1
    rw [fX12_work_l2, gX12_work_l2]
    refine bi (fun c => ?_) (fun c => ?_)
    · refine sg (kq114 hS) ?_
      exact eX12_work_l116 hS _ _ _ _
    · exact eX12_work_l9 hS ih _ _ _ _ _
def gX12_work (σ : Shp) (I : Nat → Nat → Int32) (J : Nat → Nat → Int64) (R : Nat → Nat → Option Nat) : Option ((Nat → Nat → Int32) × (Nat → Nat → Int64) × (Int32)) :=
  gX12_work_l2 σ R FUx I J (0 : Int32)
theorem eX12_work {σ : Shp} {I : Nat → Nat → Int32} {J : Nat → Nat → Int64} {R : Nat → Nat → Option Nat}  (hS : Skel σ R) : fX12_work σ I J R 114 = gX12_work σ I J R := by
  unfold fX12_work gX12_work
  exact eX12_work_l2 hS _ _ _ _
def gX12_worked (I : Nat → Nat → Int32) (J : Nat → Nat → Int64) (x1 : Int32) (x2 : Int32) : Option ((Int64)) :=
  if (I 114 115) = 0 then
    some (0 : Int64)
  else
    if x1 = (0 : Int32) then
      if (I 114 116) = 0 then
        if (fX12_in x2 (0 : Int32) (3 : Int32)) = 0 then
          some (0 : Int64)
        else
          if ¬ (x2 < 0 ∨ 4 ≤ Int32.toNatClampNeg x2) then
          some (J 192 (Int32.toNatClampNeg x2))
          else none
      else
        some (0 : Int64)
    else
    if x1 = (1 : Int32) then
      if (I 114 116) = 0 then
        if (fX12_in x2 (0 : Int32) (3 : Int32)) = 0 then
          some (0 : Int64)
        else
          if ¬ (x2 < 0 ∨ 4 ≤ Int32.toNatClampNeg x2) then
          some (J 193 (Int32.toNatClampNeg x2))
          else none
      else
        some (0 : Int64)
    else
    if x1 = (2 : Int32) then
      if (I 114 116) = 0 then
        some (0 : Int64)
      else
        if (fX12_in x2 (0 : Int32) (2 : Int32)) = 0 then
          some (0 : Int64)
        else
          if ¬ (x2 < 0 ∨ 3 ≤ Int32.toNatClampNeg x2) then
          some (J 194 (Int32.toNatClampNeg x2))
          else none
    else
    if x1 = (3 : Int32) then
      some (Int32.toInt64 (I 114 114))
    else
    some (0 : Int64)
theorem eX12_worked {σ : Shp} {I : Nat → Nat → Int32} {J : Nat → Nat → Int64} {R : Nat → Nat → Option Nat} {x1 : Int32} {x2 : Int32} (hS : Skel σ R) : fX12_worked σ I J R 114 x1 x2 = gX12_worked I J x1 x2 := by
  unfold fX12_worked gX12_worked
  refine sg (kq114 hS) ?_
  refine bi (fun c => ?_) (fun c => ?_)
  · rfl
  · refine bi (fun c => ?_) (fun c => ?_)
    · try with_reducible refine sg (kq114 hS) ?_
      refine bi (fun c => ?_) (fun c => ?_)
      · refine bi (fun c => ?_) (fun c => ?_)
        · rfl
        · try with_reducible refine sg (kq114 hS) ?_
          refine sb (rq114_117 hS) ?_
          refine sg (kq192 hS) ?_
          refine bgr (by rw [lq192 hS]) (fun g7 => ?_)
          rfl
      · rfl
    · refine bi (fun c => ?_) (fun c => ?_)
      · try with_reducible refine sg (kq114 hS) ?_
        refine bi (fun c => ?_) (fun c => ?_)
        · refine bi (fun c => ?_) (fun c => ?_)
          · rfl
          · try with_reducible refine sg (kq114 hS) ?_
            refine sb (rq114_118 hS) ?_
            refine sg (kq193 hS) ?_
            refine bgr (by rw [lq193 hS]) (fun g6 => ?_)
            rfl
        · rfl
      · refine bi (fun c => ?_) (fun c => ?_)
        · try with_reducible refine sg (kq114 hS) ?_
          refine bi (fun c => ?_) (fun c => ?_)
          · rfl
          · refine bi (fun c => ?_) (fun c => ?_)
            · rfl
            · try with_reducible refine sg (kq114 hS) ?_
              refine sb (rq114_119 hS) ?_
              refine sg (kq194 hS) ?_
              refine bgr (by rw [lq194 hS]) (fun g5 => ?_)
              rfl
        · refine bi (fun c => ?_) (fun c => ?_)
          · try with_reducible refine sg (kq114 hS) ?_
            rfl
          · rfl
def gX12_count (J : Nat → Nat → Int64) (x1 : Int32) (x2 : Int32) (x3 : Int32) : Option ((Nat → Nat → Int64) × (Int32)) :=
  if (fX12_isStage x1 x2) = 0 then
    some (J, (-2 : Int32))
  else
    if (fX12_in x3 (0 : Int32) (1000000000 : Int32)) = 0 then
      some (J, (-2 : Int32))
    else
      if ¬ ((((4 : Int32) * x1) + x2) < 0 ∨ 8 ≤ Int32.toNatClampNeg (((4 : Int32) * x1) + x2)) then
      let J2 := u2 J 195 (Int32.toNatClampNeg (((4 : Int32) * x1) + x2)) (Int32.toInt64 x3)
      some (J2, (1 : Int32))
      else none
theorem eX12_count {σ : Shp} {J : Nat → Nat → Int64} {R : Nat → Nat → Option Nat} {x1 : Int32} {x2 : Int32} {x3 : Int32} (hS : Skel σ R) : fX12_count σ J R 114 x1 x2 x3 = gX12_count J x1 x2 x3 := by
  unfold fX12_count gX12_count
  refine bi (fun c => ?_) (fun c => ?_)
  · rfl
  · refine bi (fun c => ?_) (fun c => ?_)
    · rfl
    · refine sg (kq114 hS) ?_
      refine sb (rq114_120 hS) ?_
      refine sg (kq195 hS) ?_
      refine bgr (by rw [lq195 hS]) (fun g1 => ?_)
      rfl
def gX12_parts (I : Nat → Nat → Int32) (x1 : Int32) (x2 : Int32) (x3 : Int32) (x4 : Int32) (x5 : Int32) : Option ((Nat → Nat → Int32) × (Int32)) :=
  if (fX12_isStage x1 x2) = 0 then
    some (I, (-2 : Int32))
  else
    if (fX12_in x3 (0 : Int32) (1000 : Int32)) = 0 then
      some (I, (-2 : Int32))
    else
      if (fX12_in x4 (0 : Int32) (1000 : Int32)) = 0 then
        some (I, (-2 : Int32))
      else
        if (fX12_in x5 (0 : Int32) (1000 : Int32)) = 0 then
          some (I, (-2 : Int32))
        else
          if ¬ ((((4 : Int32) * x1) + x2) < 0 ∨ 8 ≤ Int32.toNatClampNeg (((4 : Int32) * x1) + x2)) then
          let I2 := u2 I 196 (Int32.toNatClampNeg (((4 : Int32) * x1) + x2)) x3
          if ¬ ((((4 : Int32) * x1) + x2) < 0 ∨ 8 ≤ Int32.toNatClampNeg (((4 : Int32) * x1) + x2)) then
          let I4 := u2 I2 197 (Int32.toNatClampNeg (((4 : Int32) * x1) + x2)) x4
          if ¬ ((((4 : Int32) * x1) + x2) < 0 ∨ 8 ≤ Int32.toNatClampNeg (((4 : Int32) * x1) + x2)) then
          let I6 := u2 I4 198 (Int32.toNatClampNeg (((4 : Int32) * x1) + x2)) x5
          some (I6, (1 : Int32))
          else none
          else none
          else none
theorem eX12_parts {σ : Shp} {I : Nat → Nat → Int32} {R : Nat → Nat → Option Nat} {x1 : Int32} {x2 : Int32} {x3 : Int32} {x4 : Int32} {x5 : Int32} (hS : Skel σ R) : fX12_parts σ I R 114 x1 x2 x3 x4 x5 = gX12_parts I x1 x2 x3 x4 x5 := by
  unfold fX12_parts gX12_parts
  refine bi (fun c => ?_) (fun c => ?_)
  · rfl
  · refine bi (fun c => ?_) (fun c => ?_)
    · rfl
    · refine bi (fun c => ?_) (fun c => ?_)
      · rfl
      · refine bi (fun c => ?_) (fun c => ?_)
        · rfl
        · refine sg (kq114 hS) ?_
          refine sb (rq114_121 hS) ?_
          refine sg (kq196 hS) ?_
          refine bgr (by rw [lq196 hS]) (fun g1 => ?_)
          try with_reducible refine sg (kq114 hS) ?_
          refine sb (rq114_122 hS) ?_
          refine sg (kq197 hS) ?_
          refine bgr (by rw [lq197 hS]) (fun g3 => ?_)
          try with_reducible refine sg (kq114 hS) ?_
          refine sb (rq114_123 hS) ?_
          refine sg (kq198 hS) ?_
          refine bgr (by rw [lq198 hS]) (fun g5 => ?_)
          rfl
def gX12_oneDay_l180  (σ : Shp) (I : Nat → Nat → Int32) (R : Nat → Nat → Option Nat) : Nat → (Nat → Nat → Int64) → (Int32) → (Int32) → Option ((Nat → Nat → Int64))
  | 0, _, _, _ => none
  | n + 1, J, x1, x2 =>
    if (4 : Int32) ≤ x2 then
      some J
    else
      if ¬ ((((4 : Int32) * x1) + x2) < 0 ∨ 8 ≤ Int32.toNatClampNeg (((4 : Int32) * x1) + x2)) then
      if (J 199 (Int32.toNatClampNeg (((4 : Int32) * x1) + x2))) ≤ (1000000000 : Int64) then
        if ¬ ((((4 : Int32) * x1) + x2) < 0 ∨ 8 ≤ Int32.toNatClampNeg (((4 : Int32) * x1) + x2)) then
        let J7 := u2 J 195 (Int32.toNatClampNeg (((4 : Int32) * x1) + x2)) (J 199 (Int32.toNatClampNeg (((4 : Int32) * x1) + x2)))
        let v8 := x2 + (1 : Int32)
        gX12_oneDay_l180 σ I R n J7 x1 v8
        else none
      else
        if ¬ ((((4 : Int32) * x1) + x2) < 0 ∨ 8 ≤ Int32.toNatClampNeg (((4 : Int32) * x1) + x2)) then
        let J10 := u2 J 195 (Int32.toNatClampNeg (((4 : Int32) * x1) + x2)) (1000000000 : Int64)
        let v11 := x2 + (1 : Int32)
        gX12_oneDay_l180 σ I R n J10 x1 v11
        else none
      else none
theorem eX12_oneDay_l180 {σ : Shp} {I : Nat → Nat → Int32} {R : Nat → Nat → Option Nat} (hS : Skel σ R) : ∀ (n : Nat) (J : Nat → Nat → Int64) (x1 : Int32) (x2 : Int32), fX12_oneDay_l180 σ I R 114 n J x1 x2 = gX12_oneDay_l180 σ I R n J x1 x2 := by
  intro n
  induction n with
  | zero => intro J x1 x2; rfl
  | succ n ih =>
    intro J x1 x2
    rw [fX12_oneDay_l180, gX12_oneDay_l180]
    refine bi (fun c => ?_) (fun c => ?_)
    · rfl
    · refine sg (kq114 hS) ?_
      refine sb (rq114_120 hS) ?_
      try with_reducible refine sg (kq114 hS) ?_
      refine sb (rq114_124 hS) ?_
      refine sg (kq199 hS) ?_
      refine bgr (by rw [lq199 hS]) (fun g5 => ?_)
      refine bi (fun c => ?_) (fun c => ?_)
      · try with_reducible refine sg (kq114 hS) ?_
        try with_reducible refine sg (kq199 hS) ?_
        try with_reducible refine sg (by rw [lq199 hS]; exact g5) ?_
        refine sg (kq195 hS) ?_
        refine bgr (by rw [lq195 hS]) (fun g6 => ?_)
        exact ih _ _ _
      · refine sg (kq195 hS) ?_
        refine bgr (by rw [lq195 hS]) (fun g9 => ?_)
        exact ih _ _ _
def gX12_oneDay_l26  (σ : Shp) (I : Nat → Nat → Int32) (R : Nat → Nat → Option Nat) : Nat → (Nat → Nat → Int64) → (Int32) → (Int32) → Option ((Nat → Nat → Int64))
  | 0, _, _, _ => none
  | n + 1, J, x1, x2 =>
    if (4 : Int32) ≤ x2 then
      if ¬ (((4 : Int32) * x1) < 0 ∨ 8 ≤ Int32.toNatClampNeg ((4 : Int32) * x1)) then
      if ¬ ((((4 : Int32) * x1) + (3 : Int32)) < 0 ∨ 8 ≤ Int32.toNatClampNeg (((4 : Int32) * x1) + (3 : Int32))) then
      if ¬ ((((4 : Int32) * x1) + (3 : Int32)) < 0 ∨ 8 ≤ Int32.toNatClampNeg (((4 : Int32) * x1) + (3 : Int32))) then
      let J4 := u2 J 199 (Int32.toNatClampNeg ((4 : Int32) * x1)) ((J 199 (Int32.toNatClampNeg ((4 : Int32) * x1))) + (((J 195 (Int32.toNatClampNeg (((4 : Int32) * x1) + (3 : Int32)))) * (Int32.toInt64 (I 198 (Int32.toNatClampNeg (((4 : Int32) * x1) + (3 : Int32)))))) / (100 : Int64)))
      gX12_oneDay_l180 σ I R FUx J4 x1 (0 : Int32)
      else none
      else none
      else none
    else
      let v12 := (((4 : Int32) * x1) + x2)
      if ¬ (v12 < 0 ∨ 8 ≤ Int32.toNatClampNeg v12) then
      if ¬ ((0 : Int32) < 0 ∨ 40 ≤ Int32.toNatClampNeg (0 : Int32)) then
      let J15 := u2 J 186 (Int32.toNatClampNeg (0 : Int32)) (Int32.toInt64 (I 196 (Int32.toNatClampNeg v12)))
      if ¬ (v12 < 0 ∨ 8 ≤ Int32.toNatClampNeg v12) then
      if ¬ ((1 : Int32) < 0 ∨ 40 ≤ Int32.toNatClampNeg (1 : Int32)) then
      let J18 := u2 J15 186 (Int32.toNatClampNeg (1 : Int32)) (Int32.toInt64 (I 197 (Int32.toNatClampNeg v12)))
      if ¬ ((2 : Int32) < 0 ∨ 40 ≤ Int32.toNatClampNeg (2 : Int32)) then
      let J20 := u2 J18 186 (Int32.toNatClampNeg (2 : Int32)) (Int32.toInt64 (((2000 : Int32) - (I 196 (Int32.toNatClampNeg v12))) - (I 197 (Int32.toNatClampNeg v12))))
      if ¬ (v12 < 0 ∨ 8 ≤ Int32.toNatClampNeg v12) then
      (gX12_partWhole σ J20 R (J20 195 (Int32.toNatClampNeg v12)) (3 : Int32)).bind fun J22 =>
      if ¬ (v12 < 0 ∨ 8 ≤ Int32.toNatClampNeg v12) then
      if ¬ ((1 : Int32) < 0 ∨ 40 ≤ Int32.toNatClampNeg (1 : Int32)) then
      let J26 := u2 J22 199 (Int32.toNatClampNeg v12) ((J22 199 (Int32.toNatClampNeg v12)) + (J22 184 (Int32.toNatClampNeg (1 : Int32))))
      if (3 : Int32) ≤ x2 then
        let v27 := x2 + (1 : Int32)
        gX12_oneDay_l26 σ I R n J26 x1 v27
      else
        if ¬ ((v12 + (1 : Int32)) < 0 ∨ 8 ≤ Int32.toNatClampNeg (v12 + (1 : Int32))) then
        if ¬ ((0 : Int32) < 0 ∨ 40 ≤ Int32.toNatClampNeg (0 : Int32)) then
        let J30 := u2 J26 199 (Int32.toNatClampNeg (v12 + (1 : Int32))) ((J26 199 (Int32.toNatClampNeg (v12 + (1 : Int32)))) + (J26 184 (Int32.toNatClampNeg (0 : Int32))))
        let v31 := x2 + (1 : Int32)
        gX12_oneDay_l26 σ I R n J30 x1 v31
        else none
        else none
      else none
      else none
      else none
      else none
      else none
      else none
      else none
      else none
theorem eX12_oneDay_l26 {σ : Shp} {I : Nat → Nat → Int32} {R : Nat → Nat → Option Nat} (hS : Skel σ R) : ∀ (n : Nat) (J : Nat → Nat → Int64) (x1 : Int32) (x2 : Int32), fX12_oneDay_l26 σ I R 114 n J x1 x2 = gX12_oneDay_l26 σ I R n J x1 x2 := by
  intro n
  induction n with
  | zero => intro J x1 x2; rfl
  | succ n ih =>
    intro J x1 x2
    rw [fX12_oneDay_l26, gX12_oneDay_l26]
    refine bi (fun c => ?_) (fun c => ?_)
    · refine sg (kq114 hS) ?_
      refine sb (rq114_124 hS) ?_
      refine sg (kq199 hS) ?_
      refine bgr (by rw [lq199 hS]) (fun g1 => ?_)
      try with_reducible refine sg (kq114 hS) ?_
      refine sb (rq114_120 hS) ?_
      refine sg (kq195 hS) ?_
      refine bgr (by rw [lq195 hS]) (fun g2 => ?_)
      try with_reducible refine sg (kq114 hS) ?_
      refine sb (rq114_123 hS) ?_
      refine sg (kq198 hS) ?_
      refine bgr (by rw [lq198 hS]) (fun g3 => ?_)
      try with_reducible refine sg (kq199 hS) ?_
      try with_reducible refine sg (by rw [lq199 hS]; exact g1) ?_
      exact eX12_oneDay_l180 hS _ _ _ _
    · refine sg (kq114 hS) ?_
      refine sb (rq114_108 hS) ?_
      try with_reducible refine sg (kq114 hS) ?_
      refine sb (rq114_121 hS) ?_
      refine sg (kq196 hS) ?_
      refine bgr (by rw [lq196 hS]) (fun g13 => ?_)
      refine sg (kq186 hS) ?_
      refine bgr (by rw [lq186 hS]) (fun g14 => ?_)
      try with_reducible refine sg (kq114 hS) ?_
      try with_reducible refine sg (kq114 hS) ?_
      refine sb (rq114_122 hS) ?_
      refine sg (kq197 hS) ?_
      refine bgr (by rw [lq197 hS]) (fun g16 => ?_)
      try with_reducible refine sg (kq186 hS) ?_
      refine bgr (by rw [lq186 hS]) (fun g17 => ?_)
      try with_reducible refine sg (kq114 hS) ?_
      try with_reducible refine sg (kq114 hS) ?_
      try with_reducible refine sg (kq196 hS) ?_
      try with_reducible refine sg (by rw [lq196 hS]; exact g13) ?_
      try with_reducible refine sg (kq114 hS) ?_
      try with_reducible refine sg (kq197 hS) ?_
      try with_reducible refine sg (by rw [lq197 hS]; exact g16) ?_
      try with_reducible refine sg (kq186 hS) ?_
      refine bgr (by rw [lq186 hS]) (fun g19 => ?_)
      try with_reducible refine sg (kq114 hS) ?_
      refine sb (rq114_120 hS) ?_
      refine sg (kq195 hS) ?_
      refine bgr (by rw [lq195 hS]) (fun g21 => ?_)
      try with_reducible refine sg (kq114 hS) ?_
      refine bc (eX12_partWhole hS) (fun J22 hc23 => ?_)
      try with_reducible refine sg (kq114 hS) ?_
      refine sb (rq114_124 hS) ?_
      refine sg (kq199 hS) ?_
      refine bgr (by rw [lq199 hS]) (fun g24 => ?_)
      try with_reducible refine sg (kq114 hS) ?_
      refine sb (rq114_106 hS) ?_
      refine sg (kq184 hS) ?_
      refine bgr (by rw [lq184 hS]) (fun g25 => ?_)
      try with_reducible refine sg (kq199 hS) ?_
      try with_reducible refine sg (by rw [lq199 hS]; exact g24) ?_
      refine bi (fun c => ?_) (fun c => ?_)
      · exact ih _ _ _
      · try with_reducible refine sg (kq114 hS) ?_
        try with_reducible refine sg (kq199 hS) ?_
        refine bgr (by rw [lq199 hS]) (fun g28 => ?_)
        try with_reducible refine sg (kq114 hS) ?_
        try with_reducible refine sg (kq184 hS) ?_
        refine bgr (by rw [lq184 hS]) (fun g29 => ?_)
        try with_reducible refine sg (kq199 hS) ?_
        try with_reducible refine sg (by rw [lq199 hS]; exact g28) ?_
        exact ih _ _ _
def gX12_oneDay_l2  (σ : Shp) (I : Nat → Nat → Int32) (R : Nat → Nat → Option Nat) : Nat → (Nat → Nat → Int64) → (Int32) → (Int32) → Option ((Nat → Nat → Int64))
  | 0, _, _, _ => none
  | n + 1, J, x1, x2 =>
    if (4 : Int32) ≤ x2 then
      gX12_oneDay_l26 σ I R FUx J x1 (0 : Int32)
    else
      if ¬ ((((4 : Int32) * x1) + x2) < 0 ∨ 8 ≤ Int32.toNatClampNeg (((4 : Int32) * x1) + x2)) then
      let J33 := u2 J 199 (Int32.toNatClampNeg (((4 : Int32) * x1) + x2)) (0 : Int64)
      let v34 := x2 + (1 : Int32)
      gX12_oneDay_l2 σ I R n J33 x1 v34
      else none
theorem eX12_oneDay_l2 {σ : Shp} {I : Nat → Nat → Int32} {R : Nat → Nat → Option Nat} (hS : Skel σ R) : ∀ (n : Nat) (J : Nat → Nat → Int64) (x1 : Int32) (x2 : Int32), fX12_oneDay_l2 σ I R 114 n J x1 x2 = gX12_oneDay_l2 σ I R n J x1 x2 := by
  intro n
  induction n with
  | zero => intro J x1 x2; rfl
  | succ n ih =>
    intro J x1 x2
    rw [fX12_oneDay_l2, gX12_oneDay_l2]
    refine bi (fun c => ?_) (fun c => ?_)
    · exact eX12_oneDay_l26 hS _ _ _ _
    · refine sg (kq114 hS) ?_
      refine sb (rq114_124 hS) ?_
      refine sg (kq199 hS) ?_
      refine bgr (by rw [lq199 hS]) (fun g32 => ?_)
      exact ih _ _ _
def gX12_oneDay (σ : Shp) (I : Nat → Nat → Int32) (J : Nat → Nat → Int64) (R : Nat → Nat → Option Nat) (x1 : Int32) : Option ((Nat → Nat → Int64)) :=
  gX12_oneDay_l2 σ I R FUx J x1 (0 : Int32)
theorem eX12_oneDay {σ : Shp} {I : Nat → Nat → Int32} {J : Nat → Nat → Int64} {R : Nat → Nat → Option Nat} {x1 : Int32} (hS : Skel σ R) : fX12_oneDay σ I J R 114 x1 = gX12_oneDay σ I J R x1 := by
  unfold fX12_oneDay gX12_oneDay
  exact eX12_oneDay_l2 hS _ _ _ _
def gX12_day_l30  (σ : Shp) (R : Nat → Nat → Option Nat) : Nat → (Nat → Nat → Int32) → (Nat → Nat → Int64) → (Int32) → (Int32) → Option ((Nat → Nat → Int32) × (Nat → Nat → Int64) × (Int32))
  | 0, _, _, _, _ => none
  | n + 1, I, J, x1, x2 =>
    if x1 ≤ x2 then
      some (I, J, (I 114 125))
    else
      (gX12_oneDay σ I J R (0 : Int32)).bind fun J1 =>
      (gX12_oneDay σ I J1 R (1 : Int32)).bind fun J3 =>
      let I5 := u2 I 114 125 ((I 114 125) + (1 : Int32))
      if (I5 114 126) ≤ 0 then
        let I6 := u2 I5 114 126 ((I5 114 126) - (0 : Int32))
        let v7 := x2 + (1 : Int32)
        gX12_day_l30 σ R n I6 J3 x1 v7
      else
        let I8 := u2 I5 114 126 ((I5 114 126) - (1 : Int32))
        let v9 := x2 + (1 : Int32)
        gX12_day_l30 σ R n I8 J3 x1 v9
theorem eX12_day_l30 {σ : Shp} {R : Nat → Nat → Option Nat} (hS : Skel σ R) : ∀ (n : Nat) (I : Nat → Nat → Int32) (J : Nat → Nat → Int64) (x1 : Int32) (x2 : Int32), fX12_day_l30 σ R 114 n I J x1 x2 = gX12_day_l30 σ R n I J x1 x2 := by
  intro n
  induction n with
  | zero => intro I J x1 x2; rfl
  | succ n ih =>
    intro I J x1 x2
    rw [fX12_day_l30, gX12_day_l30]
    refine bi (fun c => ?_) (fun c => ?_)
    · refine sg (kq114 hS) ?_
      rfl
    · refine sg (kq114 hS) ?_
      refine bc (eX12_oneDay hS) (fun J1 hc2 => ?_)
      try with_reducible refine sg (kq114 hS) ?_
      refine bc (eX12_oneDay hS) (fun J3 hc4 => ?_)
      try with_reducible refine sg (kq114 hS) ?_
      try with_reducible refine sg (kq114 hS) ?_
      try with_reducible refine sg (kq114 hS) ?_
      try with_reducible refine sg (kq114 hS) ?_
      refine bi (fun c => ?_) (fun c => ?_)
      · try with_reducible refine sg (kq114 hS) ?_
        exact ih _ _ _ _
      · try with_reducible refine sg (kq114 hS) ?_
        exact ih _ _ _ _
def gX12_day (σ : Shp) (I : Nat → Nat → Int32) (J : Nat → Nat → Int64) (R : Nat → Nat → Option Nat) (x1 : Int32) : Option ((Nat → Nat → Int32) × (Nat → Nat → Int64) × (Int32)) :=
  if (fX12_in x1 (1 : Int32) (50 : Int32)) = 0 then
    some (I, J, (-2 : Int32))
  else
    if ((I 114 125) + x1) ≤ (10000 : Int32) then
      gX12_day_l30 σ R FUx I J x1 (0 : Int32)
    else
      some (I, J, (-4 : Int32))
theorem eX12_day {σ : Shp} {I : Nat → Nat → Int32} {J : Nat → Nat → Int64} {R : Nat → Nat → Option Nat} {x1 : Int32} (hS : Skel σ R) : fX12_day σ I J R 114 x1 = gX12_day σ I J R x1 := by
  unfold fX12_day gX12_day
  refine bi (fun c => ?_) (fun c => ?_)
  · rfl
  · refine sg (kq114 hS) ?_
    refine bi (fun c => ?_) (fun c => ?_)
    · exact eX12_day_l30 hS _ _ _ _ _
    · rfl
def gX12_spray_l14  (σ : Shp) (R : Nat → Nat → Option Nat) : Nat → (Nat → Nat → Int32) → (Nat → Nat → Int64) → (Int32) → (Int32) → Option ((Nat → Nat → Int32) × (Nat → Nat → Int64) × (Int32))
  | 0, _, _, _, _ => none
  | n + 1, I, J, x1, x2 =>
    if (4 : Int32) ≤ x2 then
      let I1 := u2 I 114 126 (7 : Int32)
      some (I1, J, (1 : Int32))
    else
      if ¬ ((((4 : Int32) * x1) + x2) < 0 ∨ 8 ≤ Int32.toNatClampNeg (((4 : Int32) * x1) + x2)) then
      let J3 := u2 J 195 (Int32.toNatClampNeg (((4 : Int32) * x1) + x2)) ((J 195 (Int32.toNatClampNeg (((4 : Int32) * x1) + x2))) / (4 : Int64))
      let v4 := x2 + (1 : Int32)
      gX12_spray_l14 σ R n I J3 x1 v4
      else none
theorem eX12_spray_l14 {σ : Shp} {R : Nat → Nat → Option Nat} (hS : Skel σ R) : ∀ (n : Nat) (I : Nat → Nat → Int32) (J : Nat → Nat → Int64) (x1 : Int32) (x2 : Int32), fX12_spray_l14 σ R 114 n I J x1 x2 = gX12_spray_l14 σ R n I J x1 x2 := by
  intro n
  induction n with
  | zero => intro I J x1 x2; rfl
  | succ n ih =>
    intro I J x1 x2
    rw [fX12_spray_l14, gX12_spray_l14]
    refine bi (fun c => ?_) (fun c => ?_)
    · refine sg (kq114 hS) ?_
      rfl
    · refine sg (kq114 hS) ?_
      refine sb (rq114_120 hS) ?_
      try with_reducible refine sg (kq114 hS) ?_
      refine sg (kq195 hS) ?_
      refine bgr (by rw [lq195 hS]) (fun g2 => ?_)
      try with_reducible refine sg (kq195 hS) ?_
      try with_reducible refine sg (by rw [lq195 hS]; exact g2) ?_
      exact ih _ _ _ _
def gX12_spray (σ : Shp) (I : Nat → Nat → Int32) (J : Nat → Nat → Int64) (R : Nat → Nat → Option Nat) (x1 : Int32) : Option ((Nat → Nat → Int32) × (Nat → Nat → Int64) × (Int32)) :=
  if (fX12_in x1 (0 : Int32) (1 : Int32)) = 0 then
    some (I, J, (-2 : Int32))
  else
    gX12_spray_l14 σ R FUx I J x1 (0 : Int32)
theorem eX12_spray {σ : Shp} {I : Nat → Nat → Int32} {J : Nat → Nat → Int64} {R : Nat → Nat → Option Nat} {x1 : Int32} (hS : Skel σ R) : fX12_spray σ I J R 114 x1 = gX12_spray σ I J R x1 := by
  unfold fX12_spray gX12_spray
  refine bi (fun c => ?_) (fun c => ?_)
  · rfl
  · exact eX12_spray_l14 hS _ _ _ _ _
def gX12_pest (J : Nat → Nat → Int64) (x1 : Int32) (x2 : Int32) : Option ((Int32)) :=
  if (fX12_isStage x1 x2) = 0 then
    some (-2 : Int32)
  else
    if ¬ ((((4 : Int32) * x1) + x2) < 0 ∨ 8 ≤ Int32.toNatClampNeg (((4 : Int32) * x1) + x2)) then
    some (Int64.toInt32 (J 195 (Int32.toNatClampNeg (((4 : Int32) * x1) + x2))))
    else none
theorem eX12_pest {σ : Shp} {J : Nat → Nat → Int64} {R : Nat → Nat → Option Nat} {x1 : Int32} {x2 : Int32} (hS : Skel σ R) : fX12_pest σ J R 114 x1 x2 = gX12_pest J x1 x2 := by
  unfold fX12_pest gX12_pest
  refine bi (fun c => ?_) (fun c => ?_)
  · rfl
  · refine sg (kq114 hS) ?_
    refine sb (rq114_120 hS) ?_
    refine sg (kq195 hS) ?_
    refine bgr (by rw [lq195 hS]) (fun g1 => ?_)
    rfl
def gX12_wait1 (I : Nat → Nat → Int32) : Option ((Int32)) :=
  some (I 114 126)
theorem eX12_wait1 {σ : Shp} {I : Nat → Nat → Int32} {R : Nat → Nat → Option Nat}  (hS : Skel σ R) : fX12_wait1 σ I 114 = gX12_wait1 I := by
  unfold fX12_wait1 gX12_wait1
  refine sg (kq114 hS) ?_
  rfl
def gX12_sumOf_l4  (σ : Shp) (I : Nat → Nat → Int32) : Nat → (Option Nat) → (Int32) → (Int32) → (Int32) → Option ((Int32))
  | 0, _, _, _, _ => none
  | n + 1, x0, x1, x2, x3 =>
    if (60 : Int32) ≤ x3 then
      some x2
    else
      (x0 : Option Nat).bind fun a1 =>
      if kdx σ a1 = 20 then
      if ¬ ((x1 + x3) < 0 ∨ lnx σ a1 ≤ Int32.toNatClampNeg (x1 + x3)) then
      let v4 := (x2 ^^^ (I a1 (Int32.toNatClampNeg (x1 + x3))))
      let v5 := (((v4 <<< ((11 : Int32) &&& 31)) ||| ((Int32.toUInt32 v4 >>> (Int32.toUInt32 (21 : Int32) &&& Int32.toUInt32 31)).toInt32)) * (-1028477387 : Int32))
      let v6 := x3 + (1 : Int32)
      gX12_sumOf_l4 σ I n x0 x1 v5 v6
      else none
      else none
theorem eX12_sumOf_l4 {σ : Shp} {I : Nat → Nat → Int32} {R : Nat → Nat → Option Nat} (hS : Skel σ R) : ∀ (n : Nat) (x0 : Option Nat) (x1 : Int32) (x2 : Int32) (x3 : Int32), fX12_sumOf_l4 σ I n x0 x1 x2 x3 = gX12_sumOf_l4 σ I n x0 x1 x2 x3 := by
  intro n
  induction n with
  | zero => intro x0 x1 x2 x3; rfl
  | succ n ih =>
    intro x0 x1 x2 x3
    rw [fX12_sumOf_l4, gX12_sumOf_l4]
    refine bi (fun c => ?_) (fun c => ?_)
    · rfl
    · refine bb (fun a1 ha1 => ?_)
      refine bg (fun g2 => ?_)
      refine bg (fun g3 => ?_)
      exact ih _ _ _ _
def gX12_sumOf (σ : Shp) (I : Nat → Nat → Int32) (x0 : Option Nat) (x1 : Int32) : Option ((Int32)) :=
  gX12_sumOf_l4 σ I FUx x0 x1 (0 : Int32) (0 : Int32)
theorem eX12_sumOf {σ : Shp} {I : Nat → Nat → Int32} {R : Nat → Nat → Option Nat} {x0 : Option Nat} {x1 : Int32} (hS : Skel σ R) : fX12_sumOf σ I x0 x1 = gX12_sumOf σ I x0 x1 := by
  unfold fX12_sumOf gX12_sumOf
  exact eX12_sumOf_l4 hS _ _ _ _ _
def gX12_wide_l5  (σ : Shp) (I : Nat → Nat → Int32) : Nat → (Option Nat) → (Int32) → (Int32) → (Int64) → (Int32) → Option ((Int64))
  | 0, _, _, _, _, _ => none
  | n + 1, x0, x1, x2, x3, x5 =>
    if x2 ≤ x5 then
      some x3
    else
      (x0 : Option Nat).bind fun a1 =>
      if kdx σ a1 = 20 then
      if ¬ ((x1 + x5) < 0 ∨ lnx σ a1 ≤ Int32.toNatClampNeg (x1 + x5)) then
      let v4 := ((x3 <<< (Int32.toInt64 (8 : Int32) &&& 63)) ||| (Int32.toInt64 (I a1 (Int32.toNatClampNeg (x1 + x5)))))
      let v5 := x5 + (1 : Int32)
      gX12_wide_l5 σ I n x0 x1 x2 v4 v5
      else none
      else none
theorem eX12_wide_l5 {σ : Shp} {I : Nat → Nat → Int32} {R : Nat → Nat → Option Nat} (hS : Skel σ R) : ∀ (n : Nat) (x0 : Option Nat) (x1 : Int32) (x2 : Int32) (x3 : Int64) (x5 : Int32), fX12_wide_l5 σ I n x0 x1 x2 x3 x5 = gX12_wide_l5 σ I n x0 x1 x2 x3 x5 := by
  intro n
  induction n with
  | zero => intro x0 x1 x2 x3 x5; rfl
  | succ n ih =>
    intro x0 x1 x2 x3 x5
    rw [fX12_wide_l5, gX12_wide_l5]
    refine bi (fun c => ?_) (fun c => ?_)
    · rfl
    · refine bb (fun a1 ha1 => ?_)
      refine bg (fun g2 => ?_)
      refine bg (fun g3 => ?_)
      exact ih _ _ _ _ _
def gX12_wide (σ : Shp) (I : Nat → Nat → Int32) (x0 : Option Nat) (x1 : Int32) (x2 : Int32) : Option ((Int64)) :=
  gX12_wide_l5 σ I FUx x0 x1 x2 (0 : Int64) (0 : Int32)
theorem eX12_wide {σ : Shp} {I : Nat → Nat → Int32} {R : Nat → Nat → Option Nat} {x0 : Option Nat} {x1 : Int32} {x2 : Int32} (hS : Skel σ R) : fX12_wide σ I x0 x1 x2 = gX12_wide σ I x0 x1 x2 := by
  unfold fX12_wide gX12_wide
  exact eX12_wide_l5 hS _ _ _ _ _ _
def gX12_layWide_l3  (σ : Shp) (R : Nat → Nat → Option Nat) : Nat → (Nat → Nat → Int32) → (Int32) → (Int32) → (Int64) → (Int32) → Option ((Nat → Nat → Int32))
  | 0, _, _, _, _, _ => none
  | n + 1, I, x1, x2, x3, x5 =>
    if x2 ≤ x5 then
      some I
    else
      if ¬ ((x1 + x5) < 0 ∨ 64 ≤ Int32.toNatClampNeg (x1 + x5)) then
      let I2 := u2 I 201 (Int32.toNatClampNeg (x1 + x5)) (Int64.toInt32 ((x3 >>> (Int32.toInt64 ((8 : Int32) * ((x2 - (1 : Int32)) - x5)) &&& 63)) &&& (255 : Int64)))
      let v3 := x5 + (1 : Int32)
      gX12_layWide_l3 σ R n I2 x1 x2 x3 v3
      else none
theorem eX12_layWide_l3 {σ : Shp} {R : Nat → Nat → Option Nat} (hS : Skel σ R) : ∀ (n : Nat) (I : Nat → Nat → Int32) (x1 : Int32) (x2 : Int32) (x3 : Int64) (x5 : Int32), fX12_layWide_l3 σ R 114 n I x1 x2 x3 x5 = gX12_layWide_l3 σ R n I x1 x2 x3 x5 := by
  intro n
  induction n with
  | zero => intro I x1 x2 x3 x5; rfl
  | succ n ih =>
    intro I x1 x2 x3 x5
    rw [fX12_layWide_l3, gX12_layWide_l3]
    refine bi (fun c => ?_) (fun c => ?_)
    · rfl
    · refine sg (kq114 hS) ?_
      refine sb (rq114_128 hS) ?_
      refine sg (kq201 hS) ?_
      refine bgr (by rw [lq201 hS]) (fun g1 => ?_)
      exact ih _ _ _ _ _
def gX12_layWide (σ : Shp) (I : Nat → Nat → Int32) (R : Nat → Nat → Option Nat) (x1 : Int32) (x2 : Int32) (x3 : Int64) : Option ((Nat → Nat → Int32)) :=
  gX12_layWide_l3 σ R FUx I x1 x2 x3 (0 : Int32)
theorem eX12_layWide {σ : Shp} {I : Nat → Nat → Int32} {R : Nat → Nat → Option Nat} {x1 : Int32} {x2 : Int32} {x3 : Int64} (hS : Skel σ R) : fX12_layWide σ I R 114 x1 x2 x3 = gX12_layWide σ I R x1 x2 x3 := by
  unfold fX12_layWide gX12_layWide
  exact eX12_layWide_l3 hS _ _ _ _ _ _
def gX12_write_b282 (q219 : (Nat → Nat → Int32) → (Int32) → (Int32) → (Option ((Nat → Nat → Int32) × (Int32)))) (σ : Shp) (J : Nat → Nat → Int64) (R : Nat → Nat → Option Nat) (I : Nat → Nat → Int32) (x3 : Int32) (x4 : Int32) (s0 : Option Nat) (s1 : Int32) (s2 : Int32) : Option ((Nat → Nat → Int32) × (Int32)) :=
  (s0 : Option Nat).bind fun a27 =>
  if kdx σ a27 = 13 then
  let I29 := u2 I a27 132 (s1 - s2)
  if ¬ (x4 < 0 ∨ 64 ≤ Int32.toNatClampNeg x4) then
  if ¬ ((x3 + x4) < 0 ∨ 1280 ≤ Int32.toNatClampNeg (x3 + x4)) then
  let I32 := u2 I29 200 (Int32.toNatClampNeg (x3 + x4)) (I29 201 (Int32.toNatClampNeg x4))
  let v33 := x4 + (1 : Int32)
  q219 I32 x3 v33
  else none
  else none
  else none
theorem eX12_write_b282 {σ : Shp} {I : Nat → Nat → Int32} {J : Nat → Nat → Int64} {R : Nat → Nat → Option Nat} {x3 : Int32} {x4 : Int32} {s0 : Option Nat} {s1 : Int32} {s2 : Int32} (hS : Skel σ R) {qf219 q219 : (Nat → Nat → Int32) → (Int32) → (Int32) → (Option ((Nat → Nat → Int32) × (Int32)))} (hq219 : ∀ (I : Nat → Nat → Int32) (x3 : Int32) (x4 : Int32), qf219 I x3 x4 = q219 I x3 x4) : fX12_write_b282 qf219 σ J R 114 I x3 x4 s0 s1 s2 = gX12_write_b282 q219 σ J R I x3 x4 s0 s1 s2 := by
  unfold fX12_write_b282 gX12_write_b282
  refine bb (fun a27 ha27 => ?_)
  refine bg (fun g28 => ?_)
  refine sg (kq114 hS) ?_
  refine sb (rq114_127 hS) ?_
  try with_reducible refine sg (kq114 hS) ?_
  refine sb (rq114_128 hS) ?_
  refine sg (kq201 hS) ?_
  refine bgr (by rw [lq201 hS]) (fun g30 => ?_)
  refine sg (kq200 hS) ?_
  refine bgr (by rw [lq200 hS]) (fun g31 => ?_)
  exact hq219 _ _ _
def gX12_write_l219  (σ : Shp) (J : Nat → Nat → Int64) (R : Nat → Nat → Option Nat) : Nat → (Nat → Nat → Int32) → (Int32) → (Int32) → Option ((Nat → Nat → Int32) × (Int32))
  | 0, _, _, _ => none
  | n + 1, I, x3, x4 =>
    if (64 : Int32) ≤ x4 then
      let I25 := u2 I 114 130 ((I 114 130) + (1 : Int32))
      let I26 := u2 I25 114 129 ((I25 114 129) + (1 : Int32))
      some (I26, (I26 114 129))
    else
      if (I 114 132) = 0 then
        let I34 := u2 I 114 131 (1 : Int32)
        let I35 := u2 I34 114 132 (-1 : Int32)
        if x4 ≤ 0 then
          let I36 := u2 I35 114 130 ((I35 114 130) + (0 : Int32))
          some (I36, (-3 : Int32))
        else
          let I37 := u2 I35 114 130 ((I35 114 130) + (1 : Int32))
          some (I37, (-3 : Int32))
      else
        if (I 114 132) ≤ 0 then
          gX12_write_b282 (gX12_write_l219 σ J R n) σ J R I x3 x4 (some 114) (I 114 132) (0 : Int32)
        else
          gX12_write_b282 (gX12_write_l219 σ J R n) σ J R I x3 x4 (some 114) (I 114 132) (1 : Int32)
theorem eX12_write_l219 {σ : Shp} {J : Nat → Nat → Int64} {R : Nat → Nat → Option Nat} (hS : Skel σ R) : ∀ (n : Nat) (I : Nat → Nat → Int32) (x3 : Int32) (x4 : Int32), fX12_write_l219 σ J R 114 n I x3 x4 = gX12_write_l219 σ J R n I x3 x4 := by
  intro n
  induction n with
  | zero => intro I x3 x4; rfl
  | succ n ih =>
    intro I x3 x4
    rw [fX12_write_l219, gX12_write_l219]
    refine bi (fun c => ?_) (fun c => ?_)
    · refine sg (kq114 hS) ?_
      try with_reducible refine sg (kq114 hS) ?_
      try with_reducible refine sg (kq114 hS) ?_
      try with_reducible refine sg (kq114 hS) ?_
      try with_reducible refine sg (kq114 hS) ?_
      rfl
    · refine sg (kq114 hS) ?_
      refine bi (fun c => ?_) (fun c => ?_)
      · try with_reducible refine sg (kq114 hS) ?_
        try with_reducible refine sg (kq114 hS) ?_
        try with_reducible refine sg (kq114 hS) ?_
        refine bi (fun c => ?_) (fun c => ?_)
        · try with_reducible refine sg (kq114 hS) ?_
          rfl
        · try with_reducible refine sg (kq114 hS) ?_
          rfl
      · try with_reducible refine sg (kq114 hS) ?_
        try with_reducible refine sg (kq114 hS) ?_
        refine bi (fun c => ?_) (fun c => ?_)
        · exact eX12_write_b282 hS ih
        · exact eX12_write_b282 hS ih
def gX12_write_l150  (σ : Shp) (J : Nat → Nat → Int64) (R : Nat → Nat → Option Nat) : Nat → (Nat → Nat → Int32) → (Int32) → (Int32) → Option ((Nat → Nat → Int32) × (Int32))
  | 0, _, _, _ => none
  | n + 1, I, x2, x3 =>
    if ¬ (x2 < 0 ∨ 4100 ≤ Int32.toNatClampNeg x2) then
    if (I 117 (Int32.toNatClampNeg x2)) ≤ x3 then
      (gX12_sumOf σ I (some 201) (0 : Int32)).bind fun r20 =>
      (gX12_layWide σ I R (60 : Int32) (4 : Int32) (Int32.toInt64 r20)).bind fun I22 =>
      let v24 := ((64 : Int32) * (I22 114 130))
      gX12_write_l219 σ J R FUx I22 v24 (0 : Int32)
    else
      if ¬ (x2 < 0 ∨ 4100 ≤ Int32.toNatClampNeg x2) then
      if ¬ (((I 118 (Int32.toNatClampNeg x2)) + x3) < 0 ∨ 164000 ≤ Int32.toNatClampNeg ((I 118 (Int32.toNatClampNeg x2)) + x3)) then
      (gX12_layWide σ I R ((12 : Int32) + ((8 : Int32) * x3)) (8 : Int32) (J 119 (Int32.toNatClampNeg ((I 118 (Int32.toNatClampNeg x2)) + x3)))).bind fun I40 =>
      let v42 := x3 + (1 : Int32)
      gX12_write_l150 σ J R n I40 x2 v42
      else none
      else none
    else none
theorem eX12_write_l150 {σ : Shp} {J : Nat → Nat → Int64} {R : Nat → Nat → Option Nat} (hS : Skel σ R) : ∀ (n : Nat) (I : Nat → Nat → Int32) (x2 : Int32) (x3 : Int32), fX12_write_l150 σ J R 114 n I x2 x3 = gX12_write_l150 σ J R n I x2 x3 := by
  intro n
  induction n with
  | zero => intro I x2 x3; rfl
  | succ n ih =>
    intro I x2 x3
    rw [fX12_write_l150, gX12_write_l150]
    refine sg (kq114 hS) ?_
    refine sb (rq114_5 hS) ?_
    refine sg (kq117 hS) ?_
    refine bgr (by rw [lq117 hS]) (fun g19 => ?_)
    refine bi (fun c => ?_) (fun c => ?_)
    · try with_reducible refine sg (kq114 hS) ?_
      refine sb (rq114_128 hS) ?_
      refine bc (eX12_sumOf hS) (fun r20 hc21 => ?_)
      try with_reducible refine sg (kq114 hS) ?_
      refine bc (eX12_layWide hS) (fun I22 hc23 => ?_)
      try with_reducible refine sg (kq114 hS) ?_
      exact eX12_write_l219 hS _ _ _ _
    · try with_reducible refine sg (kq114 hS) ?_
      refine sb (rq114_8 hS) ?_
      try with_reducible refine sg (kq114 hS) ?_
      refine sb (rq114_6 hS) ?_
      refine sg (kq118 hS) ?_
      refine bgr (by rw [lq118 hS]) (fun g38 => ?_)
      refine sg (kq119 hS) ?_
      refine bgr (by rw [lq119 hS]) (fun g39 => ?_)
      try with_reducible refine sg (kq114 hS) ?_
      refine bc (eX12_layWide hS) (fun I40 hc41 => ?_)
      exact ih _ _ _
def gX12_write_l92  (σ : Shp) (J : Nat → Nat → Int64) (R : Nat → Nat → Option Nat) : Nat → (Nat → Nat → Int32) → (Int32) → (Int32) → Option ((Nat → Nat → Int32) × (Int32))
  | 0, _, _, _ => none
  | n + 1, I, x2, x3 =>
    if (64 : Int32) ≤ x3 then
      (gX12_layWide σ I R (0 : Int32) (4 : Int32) (Int32.toInt64 ((I 114 129) + (1 : Int32)))).bind fun I11 =>
      if ¬ (x2 < 0 ∨ 4100 ≤ Int32.toNatClampNeg x2) then
      if ¬ ((4 : Int32) < 0 ∨ 64 ≤ Int32.toNatClampNeg (4 : Int32)) then
      let I15 := u2 I11 201 (Int32.toNatClampNeg (4 : Int32)) (I11 116 (Int32.toNatClampNeg x2))
      if ¬ (x2 < 0 ∨ 4100 ≤ Int32.toNatClampNeg x2) then
      if ¬ ((5 : Int32) < 0 ∨ 64 ≤ Int32.toNatClampNeg (5 : Int32)) then
      let I18 := u2 I15 201 (Int32.toNatClampNeg (5 : Int32)) (I15 117 (Int32.toNatClampNeg x2))
      gX12_write_l150 σ J R FUx I18 x2 (0 : Int32)
      else none
      else none
      else none
      else none
    else
      if ¬ (x3 < 0 ∨ 64 ≤ Int32.toNatClampNeg x3) then
      let I44 := u2 I 201 (Int32.toNatClampNeg x3) (0 : Int32)
      let v45 := x3 + (1 : Int32)
      gX12_write_l92 σ J R n I44 x2 v45
      else none
theorem eX12_write_l92 {σ : Shp} {J : Nat → Nat → Int64} {R : Nat → Nat → Option Nat} (hS : Skel σ R) : ∀ (n : Nat) (I : Nat → Nat → Int32) (x2 : Int32) (x3 : Int32), fX12_write_l92 σ J R 114 n I x2 x3 = gX12_write_l92 σ J R n I x2 x3 := by
  intro n
  induction n with
  | zero => intro I x2 x3; rfl
  | succ n ih =>
    intro I x2 x3
    rw [fX12_write_l92, gX12_write_l92]
    refine bi (fun c => ?_) (fun c => ?_)
    · refine sg (kq114 hS) ?_
      try with_reducible refine sg (kq114 hS) ?_
      refine bc (eX12_layWide hS) (fun I11 hc12 => ?_)
      try with_reducible refine sg (kq114 hS) ?_
      refine sb (rq114_128 hS) ?_
      try with_reducible refine sg (kq114 hS) ?_
      refine sb (rq114_4 hS) ?_
      refine sg (kq116 hS) ?_
      refine bgr (by rw [lq116 hS]) (fun g13 => ?_)
      refine sg (kq201 hS) ?_
      refine bgr (by rw [lq201 hS]) (fun g14 => ?_)
      try with_reducible refine sg (kq114 hS) ?_
      try with_reducible refine sg (kq114 hS) ?_
      refine sb (rq114_5 hS) ?_
      refine sg (kq117 hS) ?_
      refine bgr (by rw [lq117 hS]) (fun g16 => ?_)
      try with_reducible refine sg (kq201 hS) ?_
      refine bgr (by rw [lq201 hS]) (fun g17 => ?_)
      exact eX12_write_l150 hS _ _ _ _
    · refine sg (kq114 hS) ?_
      refine sb (rq114_128 hS) ?_
      refine sg (kq201 hS) ?_
      refine bgr (by rw [lq201 hS]) (fun g43 => ?_)
      exact ih _ _ _
def gX12_write (σ : Shp) (I : Nat → Nat → Int32) (J : Nat → Nat → Int64) (R : Nat → Nat → Option Nat) (x1 : Int32) : Option ((Nat → Nat → Int32) × (Int32)) :=
  if (fX12_isBin x1) = 0 then
    some (I, (-2 : Int32))
  else
    if ¬ (x1 < 0 ∨ 16 ≤ Int32.toNatClampNeg x1) then
    let v2 := (I 115 (Int32.toNatClampNeg x1))
    if v2 = 0 then
      if v2 = 0 then
        (gX12_no I (1 : Int32)).bind fun (I6, r7) =>
        some (I6, r7)
      else
        (gX12_no I (4 : Int32)).bind fun (I3, r4) =>
        some (I3, r4)
    else
      if ¬ (v2 < 0 ∨ 4100 ≤ Int32.toNatClampNeg v2) then
      if (fX12_isPageLane (I 116 (Int32.toNatClampNeg v2))) = 0 then
        if v2 = 0 then
          (gX12_no I (1 : Int32)).bind fun (I49, r50) =>
          some (I49, r50)
        else
          (gX12_no I (4 : Int32)).bind fun (I46, r47) =>
          some (I46, r47)
      else
        if (I 114 131) = 0 then
          if ¬ (v2 < 0 ∨ 4100 ≤ Int32.toNatClampNeg v2) then
          if (6 : Int32) < (I 117 (Int32.toNatClampNeg v2)) then
            some (I, (-4 : Int32))
          else
            if (I 114 130) = (20 : Int32) then
              some (I, (-4 : Int32))
            else
              if (I 114 129) = (2147483647 : Int32) then
                some (I, (-4 : Int32))
              else
                gX12_write_l92 σ J R FUx I v2 (0 : Int32)
          else none
        else
          some (I, (-3 : Int32))
      else none
    else none
theorem eX12_write {σ : Shp} {I : Nat → Nat → Int32} {J : Nat → Nat → Int64} {R : Nat → Nat → Option Nat} {x1 : Int32} (hS : Skel σ R) : fX12_write σ I J R 114 x1 = gX12_write σ I J R x1 := by
  unfold fX12_write gX12_write
  refine bi (fun c => ?_) (fun c => ?_)
  · rfl
  · refine sg (kq114 hS) ?_
    refine sb (rq114_3 hS) ?_
    refine sg (kq115 hS) ?_
    refine bgr (by rw [lq115 hS]) (fun g1 => ?_)
    refine bi (fun c => ?_) (fun c => ?_)
    · refine bi (fun c => ?_) (fun c => ?_)
      · try with_reducible refine sg (kq114 hS) ?_
        refine bc (eX12_no hS) (fun pp hc8 => ?_)
        obtain ⟨I6, r7⟩ := pp
        rfl
      · try with_reducible refine sg (kq114 hS) ?_
        refine bc (eX12_no hS) (fun pp hc5 => ?_)
        obtain ⟨I3, r4⟩ := pp
        rfl
    · try with_reducible refine sg (kq114 hS) ?_
      refine sb (rq114_4 hS) ?_
      refine sg (kq116 hS) ?_
      refine bgr (by rw [lq116 hS]) (fun g9 => ?_)
      refine bi (fun c => ?_) (fun c => ?_)
      · refine bi (fun c => ?_) (fun c => ?_)
        · try with_reducible refine sg (kq114 hS) ?_
          refine bc (eX12_no hS) (fun pp hc51 => ?_)
          obtain ⟨I49, r50⟩ := pp
          rfl
        · try with_reducible refine sg (kq114 hS) ?_
          refine bc (eX12_no hS) (fun pp hc48 => ?_)
          obtain ⟨I46, r47⟩ := pp
          rfl
      · try with_reducible refine sg (kq114 hS) ?_
        refine bi (fun c => ?_) (fun c => ?_)
        · try with_reducible refine sg (kq114 hS) ?_
          refine sb (rq114_5 hS) ?_
          refine sg (kq117 hS) ?_
          refine bgr (by rw [lq117 hS]) (fun g10 => ?_)
          refine bi (fun c => ?_) (fun c => ?_)
          · rfl
          · try with_reducible refine sg (kq114 hS) ?_
            refine bi (fun c => ?_) (fun c => ?_)
            · rfl
            · try with_reducible refine sg (kq114 hS) ?_
              refine bi (fun c => ?_) (fun c => ?_)
              · rfl
              · exact eX12_write_l92 hS _ _ _ _
        · rfl
def gX12_power (I : Nat → Nat → Int32) (x1 : Int32) : Option ((Nat → Nat → Int32) × (Int32)) :=
  if (fX12_in x1 (-1 : Int32) (200 : Int32)) = 0 then
    some (I, (-2 : Int32))
  else
    if (I 114 131) = 0 then
      let I1 := u2 I 114 132 x1
      some (I1, (1 : Int32))
    else
      some (I, (-3 : Int32))
theorem eX12_power {σ : Shp} {I : Nat → Nat → Int32} {R : Nat → Nat → Option Nat} {x1 : Int32} (hS : Skel σ R) : fX12_power σ I 114 x1 = gX12_power I x1 := by
  unfold fX12_power gX12_power
  refine bi (fun c => ?_) (fun c => ?_)
  · rfl
  · refine sg (kq114 hS) ?_
    refine bi (fun c => ?_) (fun c => ?_)
    · try with_reducible refine sg (kq114 hS) ?_
      rfl
    · rfl
def gX12_numberOf (σ : Shp) (I : Nat → Nat → Int32) (x1 : Int32) : Option ((Int32)) :=
  (gX12_wide σ I (some 200) ((64 : Int32) * x1) (4 : Int32)).bind fun r1 =>
  some (Int64.toInt32 r1)
theorem eX12_numberOf {σ : Shp} {I : Nat → Nat → Int32} {R : Nat → Nat → Option Nat} {x1 : Int32} (hS : Skel σ R) : fX12_numberOf σ I R 114 x1 = gX12_numberOf σ I x1 := by
  unfold fX12_numberOf gX12_numberOf
  refine sg (kq114 hS) ?_
  refine sb (rq114_127 hS) ?_
  refine bc (eX12_wide hS) (fun r1 hc2 => ?_)
  rfl
def gX12_isWhole_l140  (σ : Shp) (I : Nat → Nat → Int32) (R : Nat → Nat → Option Nat) : Nat → (Int32) → (Int32) → (Int32) → (Int32) → (Int32) → Option ((Int32))
  | 0, _, _, _, _, _ => none
  | n + 1, x2, x3, x4, x5, x6 =>
    if x4 ≤ x6 then
      if x5 = 0 ∨ x5 = 1 then
      some x5
      else none
    else
      (gX12_wide σ I (some 200) ((x2 + (12 : Int32)) + ((8 : Int32) * x6)) (8 : Int32)).bind fun r13 =>
      if x5 = 0 then
        let v15 := x6 + (1 : Int32)
        gX12_isWhole_l140 σ I R n x2 x3 x4 (0 : Int32) v15
      else
        if (fX12_fitted x3 r13) = r13 then
          let v17 := x6 + (1 : Int32)
          gX12_isWhole_l140 σ I R n x2 x3 x4 (1 : Int32) v17
        else
          let v16 := x6 + (1 : Int32)
          gX12_isWhole_l140 σ I R n x2 x3 x4 (0 : Int32) v16
theorem eX12_isWhole_l140 {σ : Shp} {I : Nat → Nat → Int32} {R : Nat → Nat → Option Nat} (hS : Skel σ R) : ∀ (n : Nat) (x2 : Int32) (x3 : Int32) (x4 : Int32) (x5 : Int32) (x6 : Int32), fX12_isWhole_l140 σ I R 114 n x2 x3 x4 x5 x6 = gX12_isWhole_l140 σ I R n x2 x3 x4 x5 x6 := by
  intro n
  induction n with
  | zero => intro x2 x3 x4 x5 x6; rfl
  | succ n ih =>
    intro x2 x3 x4 x5 x6
    rw [fX12_isWhole_l140, gX12_isWhole_l140]
    refine bi (fun c => ?_) (fun c => ?_)
    · refine bg (fun g12 => ?_)
      rfl
    · refine sg (kq114 hS) ?_
      refine sb (rq114_127 hS) ?_
      refine bc (eX12_wide hS) (fun r13 hc14 => ?_)
      refine bi (fun c => ?_) (fun c => ?_)
      · exact ih _ _ _ _ _
      · refine bi (fun c => ?_) (fun c => ?_)
        · exact ih _ _ _ _ _
        · exact ih _ _ _ _ _
def gX12_isWhole_l80  (σ : Shp) (I : Nat → Nat → Int32) (R : Nat → Nat → Option Nat) : Nat → (Int32) → (Int32) → (Int32) → (Int32) → (Int32) → Option ((Int32))
  | 0, _, _, _, _, _ => none
  | n + 1, x2, x3, x4, x5, x6 =>
    if (60 : Int32) ≤ x6 then
      gX12_isWhole_l140 σ I R FUx x2 x3 x4 x5 (0 : Int32)
    else
      if x5 = 0 then
        let v18 := x6 + (1 : Int32)
        gX12_isWhole_l80 σ I R n x2 x3 x4 (0 : Int32) v18
      else
        if ¬ ((x2 + x6) < 0 ∨ 1280 ≤ Int32.toNatClampNeg (x2 + x6)) then
        if (I 200 (Int32.toNatClampNeg (x2 + x6))) = 0 then
          let v20 := x6 + (1 : Int32)
          gX12_isWhole_l80 σ I R n x2 x3 x4 (1 : Int32) v20
        else
          if x6 < (12 : Int32) then
            let v21 := x6 + (1 : Int32)
            gX12_isWhole_l80 σ I R n x2 x3 x4 (0 : Int32) v21
          else
            if ((12 : Int32) + ((8 : Int32) * x4)) ≤ x6 then
              let v22 := x6 + (1 : Int32)
              gX12_isWhole_l80 σ I R n x2 x3 x4 (0 : Int32) v22
            else
              let v23 := x6 + (1 : Int32)
              gX12_isWhole_l80 σ I R n x2 x3 x4 (1 : Int32) v23
        else none
theorem eX12_isWhole_l80 {σ : Shp} {I : Nat → Nat → Int32} {R : Nat → Nat → Option Nat} (hS : Skel σ R) : ∀ (n : Nat) (x2 : Int32) (x3 : Int32) (x4 : Int32) (x5 : Int32) (x6 : Int32), fX12_isWhole_l80 σ I R 114 n x2 x3 x4 x5 x6 = gX12_isWhole_l80 σ I R n x2 x3 x4 x5 x6 := by
  intro n
  induction n with
  | zero => intro x2 x3 x4 x5 x6; rfl
  | succ n ih =>
    intro x2 x3 x4 x5 x6
    rw [fX12_isWhole_l80, gX12_isWhole_l80]
    refine bi (fun c => ?_) (fun c => ?_)
    · exact eX12_isWhole_l140 hS _ _ _ _ _ _
    · refine bi (fun c => ?_) (fun c => ?_)
      · exact ih _ _ _ _ _
      · refine sg (kq114 hS) ?_
        refine sb (rq114_127 hS) ?_
        refine sg (kq200 hS) ?_
        refine bgr (by rw [lq200 hS]) (fun g19 => ?_)
        refine bi (fun c => ?_) (fun c => ?_)
        · exact ih _ _ _ _ _
        · refine bi (fun c => ?_) (fun c => ?_)
          · exact ih _ _ _ _ _
          · refine bi (fun c => ?_) (fun c => ?_)
            · exact ih _ _ _ _ _
            · exact ih _ _ _ _ _
def gX12_isWhole (σ : Shp) (I : Nat → Nat → Int32) (R : Nat → Nat → Option Nat) (x1 : Int32) : Option ((Int32)) :=
  let v1 := ((64 : Int32) * x1)
  if ¬ ((v1 + (4 : Int32)) < 0 ∨ 1280 ≤ Int32.toNatClampNeg (v1 + (4 : Int32))) then
  let v3 := (I 200 (Int32.toNatClampNeg (v1 + (4 : Int32))))
  if ¬ ((v1 + (5 : Int32)) < 0 ∨ 1280 ≤ Int32.toNatClampNeg (v1 + (5 : Int32))) then
  let v5 := (I 200 (Int32.toNatClampNeg (v1 + (5 : Int32))))
  (gX12_numberOf σ I x1).bind fun r6 =>
  if r6 < (1 : Int32) then
    some (0 : Int32)
  else
    if (fX12_isPageLane v3) = 0 then
      some (0 : Int32)
    else
      if (6 : Int32) < v5 then
        some (0 : Int32)
      else
        (gX12_wide σ I (some 200) (v1 + (60 : Int32)) (4 : Int32)).bind fun r8 =>
        (gX12_sumOf σ I (some 200) v1).bind fun r10 =>
        if (Int64.toInt32 r8) = r10 then
          gX12_isWhole_l80 σ I R FUx v1 v3 v5 (1 : Int32) (6 : Int32)
        else
          some (0 : Int32)
  else none
  else none
theorem eX12_isWhole {σ : Shp} {I : Nat → Nat → Int32} {R : Nat → Nat → Option Nat} {x1 : Int32} (hS : Skel σ R) : fX12_isWhole σ I R 114 x1 = gX12_isWhole σ I R x1 := by
  unfold fX12_isWhole gX12_isWhole
  refine sg (kq114 hS) ?_
  refine sb (rq114_127 hS) ?_
  refine sg (kq200 hS) ?_
  refine bgr (by rw [lq200 hS]) (fun g2 => ?_)
  try with_reducible refine sg (kq114 hS) ?_
  try with_reducible refine sg (kq200 hS) ?_
  refine bgr (by rw [lq200 hS]) (fun g4 => ?_)
  try with_reducible refine sg (kq114 hS) ?_
  refine bc (eX12_numberOf hS) (fun r6 hc7 => ?_)
  refine bi (fun c => ?_) (fun c => ?_)
  · rfl
  · refine bi (fun c => ?_) (fun c => ?_)
    · rfl
    · refine bi (fun c => ?_) (fun c => ?_)
      · rfl
      · try with_reducible refine sg (kq114 hS) ?_
        refine bc (eX12_wide hS) (fun r8 hc9 => ?_)
        try with_reducible refine sg (kq114 hS) ?_
        refine bc (eX12_sumOf hS) (fun r10 hc11 => ?_)
        refine bi (fun c => ?_) (fun c => ?_)
        · exact eX12_isWhole_l80 hS _ _ _ _ _ _
        · rfl
def gX12_pageOf_l2  (σ : Shp) (I : Nat → Nat → Int32) (R : Nat → Nat → Option Nat) : Nat → (Int32) → (Int32) → Option ((Int32))
  | 0, _, _ => none
  | n + 1, x1, x2 =>
    if (20 : Int32) ≤ x2 then
      some (-1 : Int32)
    else
      (gX12_isWhole σ I R x2).bind fun r1 =>
      if r1 = 0 then
        let v3 := x2 + (1 : Int32)
        gX12_pageOf_l2 σ I R n x1 v3
      else
        (gX12_numberOf σ I x2).bind fun r4 =>
        if r4 = x1 then
          some x2
        else
          let v6 := x2 + (1 : Int32)
          gX12_pageOf_l2 σ I R n x1 v6
theorem eX12_pageOf_l2 {σ : Shp} {I : Nat → Nat → Int32} {R : Nat → Nat → Option Nat} (hS : Skel σ R) : ∀ (n : Nat) (x1 : Int32) (x2 : Int32), fX12_pageOf_l2 σ I R 114 n x1 x2 = gX12_pageOf_l2 σ I R n x1 x2 := by
  intro n
  induction n with
  | zero => intro x1 x2; rfl
  | succ n ih =>
    intro x1 x2
    rw [fX12_pageOf_l2, gX12_pageOf_l2]
    refine bi (fun c => ?_) (fun c => ?_)
    · rfl
    · refine sg (kq114 hS) ?_
      refine bc (eX12_isWhole hS) (fun r1 hc2 => ?_)
      refine bi (fun c => ?_) (fun c => ?_)
      · exact ih _ _
      · try with_reducible refine sg (kq114 hS) ?_
        refine bc (eX12_numberOf hS) (fun r4 hc5 => ?_)
        refine bi (fun c => ?_) (fun c => ?_)
        · rfl
        · exact ih _ _
def gX12_pageOf (σ : Shp) (I : Nat → Nat → Int32) (R : Nat → Nat → Option Nat) (x1 : Int32) : Option ((Int32)) :=
  gX12_pageOf_l2 σ I R FUx x1 (0 : Int32)
theorem eX12_pageOf {σ : Shp} {I : Nat → Nat → Int32} {R : Nat → Nat → Option Nat} {x1 : Int32} (hS : Skel σ R) : fX12_pageOf σ I R 114 x1 = gX12_pageOf σ I R x1 := by
  unfold fX12_pageOf gX12_pageOf
  exact eX12_pageOf_l2 hS _ _ _
def gX12_above_b27 (q4 : (Int32) → (Int32) → (Int32) → (Option ((Int32)))) (σ : Shp) (I : Nat → Nat → Int32) (R : Nat → Nat → Option Nat) (x1 : Int32) (x2 : Int32) (x3 : Int32) (s0 : Int32) : Option ((Int32)) :=
  if s0 ≤ x1 then
    let v3 := x3 + (1 : Int32)
    q4 x1 x2 v3
  else
    if x2 = 0 then
      let v4 := x3 + (1 : Int32)
      q4 x1 s0 v4
    else
      if x2 ≤ s0 then
        let v5 := x3 + (1 : Int32)
        q4 x1 x2 v5
      else
        let v6 := x3 + (1 : Int32)
        q4 x1 s0 v6
theorem eX12_above_b27 {σ : Shp} {I : Nat → Nat → Int32} {R : Nat → Nat → Option Nat} {x1 : Int32} {x2 : Int32} {x3 : Int32} {s0 : Int32} (hS : Skel σ R) {qf4 q4 : (Int32) → (Int32) → (Int32) → (Option ((Int32)))} (hq4 : ∀ (x1 : Int32) (x2 : Int32) (x3 : Int32), qf4 x1 x2 x3 = q4 x1 x2 x3) : fX12_above_b27 qf4 σ I R 114 x1 x2 x3 s0 = gX12_above_b27 q4 σ I R x1 x2 x3 s0 := by
  unfold fX12_above_b27 gX12_above_b27
  refine bi (fun c => ?_) (fun c => ?_)
  · exact hq4 _ _ _
  · refine bi (fun c => ?_) (fun c => ?_)
    · exact hq4 _ _ _
    · refine bi (fun c => ?_) (fun c => ?_)
      · exact hq4 _ _ _
      · exact hq4 _ _ _
def gX12_above_l4  (σ : Shp) (I : Nat → Nat → Int32) (R : Nat → Nat → Option Nat) : Nat → (Int32) → (Int32) → (Int32) → Option ((Int32))
  | 0, _, _, _ => none
  | n + 1, x1, x2, x3 =>
    if (20 : Int32) ≤ x3 then
      some x2
    else
      (gX12_isWhole σ I R x3).bind fun r1 =>
      if r1 = 0 then
        gX12_above_b27 (gX12_above_l4 σ I R n) σ I R x1 x2 x3 (0 : Int32)
      else
        (gX12_numberOf σ I x3).bind fun r7 =>
        gX12_above_b27 (gX12_above_l4 σ I R n) σ I R x1 x2 x3 r7
theorem eX12_above_l4 {σ : Shp} {I : Nat → Nat → Int32} {R : Nat → Nat → Option Nat} (hS : Skel σ R) : ∀ (n : Nat) (x1 : Int32) (x2 : Int32) (x3 : Int32), fX12_above_l4 σ I R 114 n x1 x2 x3 = gX12_above_l4 σ I R n x1 x2 x3 := by
  intro n
  induction n with
  | zero => intro x1 x2 x3; rfl
  | succ n ih =>
    intro x1 x2 x3
    rw [fX12_above_l4, gX12_above_l4]
    refine bi (fun c => ?_) (fun c => ?_)
    · rfl
    · refine sg (kq114 hS) ?_
      refine bc (eX12_isWhole hS) (fun r1 hc2 => ?_)
      refine bi (fun c => ?_) (fun c => ?_)
      · exact eX12_above_b27 hS ih
      · try with_reducible refine sg (kq114 hS) ?_
        refine bc (eX12_numberOf hS) (fun r7 hc8 => ?_)
        exact eX12_above_b27 hS ih
def gX12_above (σ : Shp) (I : Nat → Nat → Int32) (R : Nat → Nat → Option Nat) (x1 : Int32) : Option ((Int32)) :=
  gX12_above_l4 σ I R FUx x1 (0 : Int32) (0 : Int32)
theorem eX12_above {σ : Shp} {I : Nat → Nat → Int32} {R : Nat → Nat → Option Nat} {x1 : Int32} (hS : Skel σ R) : fX12_above σ I R 114 x1 = gX12_above σ I R x1 := by
  unfold fX12_above gX12_above
  exact eX12_above_l4 hS _ _ _ _
def gX12_readMany_l8  (σ : Shp) (I : Nat → Nat → Int32) (R : Nat → Nat → Option Nat) : Nat → (Int32) → (Int32) → Option ((Int32))
  | 0, _, _ => none
  | n + 1, x1, x2 =>
    if x2 ≤ 0 then
      some x1
    else
      let v3 := x1 + (1 : Int32)
      (gX12_above σ I R x2).bind fun r4 =>
      gX12_readMany_l8 σ I R n v3 r4
theorem eX12_readMany_l8 {σ : Shp} {I : Nat → Nat → Int32} {R : Nat → Nat → Option Nat} (hS : Skel σ R) : ∀ (n : Nat) (x1 : Int32) (x2 : Int32), fX12_readMany_l8 σ I R 114 n x1 x2 = gX12_readMany_l8 σ I R n x1 x2 := by
  intro n
  induction n with
  | zero => intro x1 x2; rfl
  | succ n ih =>
    intro x1 x2
    rw [fX12_readMany_l8, gX12_readMany_l8]
    refine bi (fun c => ?_) (fun c => ?_)
    · rfl
    · refine sg (kq114 hS) ?_
      refine bc (eX12_above hS) (fun r4 hc5 => ?_)
      exact ih _ _
def gX12_readMany (σ : Shp) (I : Nat → Nat → Int32) (R : Nat → Nat → Option Nat) : Option ((Int32)) :=
  (gX12_above σ I R (0 : Int32)).bind fun r1 =>
  gX12_readMany_l8 σ I R FUx (0 : Int32) r1
theorem eX12_readMany {σ : Shp} {I : Nat → Nat → Int32} {R : Nat → Nat → Option Nat}  (hS : Skel σ R) : fX12_readMany σ I R 114 = gX12_readMany σ I R := by
  unfold fX12_readMany gX12_readMany
  refine sg (kq114 hS) ?_
  refine bc (eX12_above hS) (fun r1 hc2 => ?_)
  exact eX12_readMany_l8 hS _ _ _
def gX12_open1_b83 (q22 : (Nat → Nat → Int32) → (Int32) → (Option ((Nat → Nat → Int32) × (Int32)))) (σ : Shp) (R : Nat → Nat → Option Nat) (I : Nat → Nat → Int32) (x1 : Int32) (s0 : Option Nat) (s1 : Int32) : Option ((Nat → Nat → Int32) × (Int32)) :=
  (s0 : Option Nat).bind fun a7 =>
  if kdx σ a7 = 13 then
  let I9 := u2 I a7 130 s1
  (gX12_isWhole σ I9 R x1).bind fun r10 =>
  if r10 = 0 then
    let I12 := u2 I9 114 129 (I9 114 129)
    let v13 := x1 + (1 : Int32)
    q22 I12 v13
  else
    (gX12_numberOf σ I9 x1).bind fun r14 =>
    if r14 ≤ (I9 114 129) then
      let I16 := u2 I9 114 129 (I9 114 129)
      let v17 := x1 + (1 : Int32)
      q22 I16 v17
    else
      (gX12_numberOf σ I9 x1).bind fun r18 =>
      let I20 := u2 I9 114 129 r18
      let v21 := x1 + (1 : Int32)
      q22 I20 v21
  else none
theorem eX12_open1_b83 {σ : Shp} {I : Nat → Nat → Int32} {R : Nat → Nat → Option Nat} {x1 : Int32} {s0 : Option Nat} {s1 : Int32} (hS : Skel σ R) {qf22 q22 : (Nat → Nat → Int32) → (Int32) → (Option ((Nat → Nat → Int32) × (Int32)))} (hq22 : ∀ (I : Nat → Nat → Int32) (x1 : Int32), qf22 I x1 = q22 I x1) : fX12_open1_b83 qf22 σ R 114 I x1 s0 s1 = gX12_open1_b83 q22 σ R I x1 s0 s1 := by
  unfold fX12_open1_b83 gX12_open1_b83
  refine bb (fun a7 ha7 => ?_)
  refine bg (fun g8 => ?_)
  refine sg (kq114 hS) ?_
  refine bc (eX12_isWhole hS) (fun r10 hc11 => ?_)
  refine bi (fun c => ?_) (fun c => ?_)
  · try with_reducible refine sg (kq114 hS) ?_
    try with_reducible refine sg (kq114 hS) ?_
    exact hq22 _ _
  · try with_reducible refine sg (kq114 hS) ?_
    refine bc (eX12_numberOf hS) (fun r14 hc15 => ?_)
    try with_reducible refine sg (kq114 hS) ?_
    refine bi (fun c => ?_) (fun c => ?_)
    · try with_reducible refine sg (kq114 hS) ?_
      try with_reducible refine sg (kq114 hS) ?_
      exact hq22 _ _
    · try with_reducible refine sg (kq114 hS) ?_
      refine bc (eX12_numberOf hS) (fun r18 hc19 => ?_)
      try with_reducible refine sg (kq114 hS) ?_
      exact hq22 _ _
def gX12_open1_l32 (q22 : (Nat → Nat → Int32) → (Int32) → (Option ((Nat → Nat → Int32) × (Int32)))) (σ : Shp) (R : Nat → Nat → Option Nat) : Nat → (Nat → Nat → Int32) → (Int32) → (Int32) → (Int32) → Option ((Nat → Nat → Int32) × (Int32))
  | 0, _, _, _, _ => none
  | n + 1, I, x1, x2, x3 =>
    if (64 : Int32) ≤ x3 then
      if x2 = 0 then
        gX12_open1_b83 q22 σ R I x1 (some 114) (I 114 130)
      else
        gX12_open1_b83 q22 σ R I x1 (some 114) (x1 + (1 : Int32))
    else
      if x2 = 0 then
        if ¬ ((((64 : Int32) * x1) + x3) < 0 ∨ 1280 ≤ Int32.toNatClampNeg (((64 : Int32) * x1) + x3)) then
        if (I 200 (Int32.toNatClampNeg (((64 : Int32) * x1) + x3))) = 0 then
          let v24 := x3 + (1 : Int32)
          gX12_open1_l32 q22 σ R n I x1 (0 : Int32) v24
        else
          let v25 := x3 + (1 : Int32)
          gX12_open1_l32 q22 σ R n I x1 (1 : Int32) v25
        else none
      else
        let v22 := x3 + (1 : Int32)
        gX12_open1_l32 q22 σ R n I x1 (1 : Int32) v22
theorem eX12_open1_l32 {σ : Shp} {R : Nat → Nat → Option Nat} (hS : Skel σ R) {qf22 q22 : (Nat → Nat → Int32) → (Int32) → (Option ((Nat → Nat → Int32) × (Int32)))} (hq22 : ∀ (I : Nat → Nat → Int32) (x1 : Int32), qf22 I x1 = q22 I x1) : ∀ (n : Nat) (I : Nat → Nat → Int32) (x1 : Int32) (x2 : Int32) (x3 : Int32), fX12_open1_l32 qf22 σ R 114 n I x1 x2 x3 = gX12_open1_l32 q22 σ R n I x1 x2 x3 := by
  intro n
  induction n with
  | zero => intro I x1 x2 x3; rfl
  | succ n ih =>
    intro I x1 x2 x3
    rw [fX12_open1_l32, gX12_open1_l32]
    refine bi (fun c => ?_) (fun c => ?_)
    · refine bi (fun c => ?_) (fun c => ?_)
      · refine sg (kq114 hS) ?_
        exact eX12_open1_b83 hS hq22
      · exact eX12_open1_b83 hS hq22
    · refine bi (fun c => ?_) (fun c => ?_)
      · refine sg (kq114 hS) ?_
        refine sb (rq114_127 hS) ?_
        refine sg (kq200 hS) ?_
        refine bgr (by rw [lq200 hS]) (fun g23 => ?_)
        refine bi (fun c => ?_) (fun c => ?_)
        · exact ih _ _ _ _
        · exact ih _ _ _ _
      · exact ih _ _ _ _
def gX12_open1_l22  (σ : Shp) (R : Nat → Nat → Option Nat) : Nat → (Nat → Nat → Int32) → (Int32) → Option ((Nat → Nat → Int32) × (Int32))
  | 0, _, _ => none
  | n + 1, I, x1 =>
    if (20 : Int32) ≤ x1 then
      (gX12_readMany σ I R).bind fun r5 =>
      some (I, r5)
    else
      gX12_open1_l32 (gX12_open1_l22 σ R n) σ R FUx I x1 (0 : Int32) (0 : Int32)
theorem eX12_open1_l22 {σ : Shp} {R : Nat → Nat → Option Nat} (hS : Skel σ R) : ∀ (n : Nat) (I : Nat → Nat → Int32) (x1 : Int32), fX12_open1_l22 σ R 114 n I x1 = gX12_open1_l22 σ R n I x1 := by
  intro n
  induction n with
  | zero => intro I x1; rfl
  | succ n ih =>
    intro I x1
    rw [fX12_open1_l22, gX12_open1_l22]
    refine bi (fun c => ?_) (fun c => ?_)
    · refine sg (kq114 hS) ?_
      refine bc (eX12_readMany hS) (fun r5 hc6 => ?_)
      rfl
    · exact eX12_open1_l32 hS ih _ _ _ _ _
def gX12_open1 (σ : Shp) (I : Nat → Nat → Int32) (R : Nat → Nat → Option Nat) : Option ((Nat → Nat → Int32) × (Int32)) :=
  let I1 := u2 I 114 131 (0 : Int32)
  let I2 := u2 I1 114 132 (-1 : Int32)
  let I3 := u2 I2 114 129 (0 : Int32)
  let I4 := u2 I3 114 130 (0 : Int32)
  gX12_open1_l22 σ R FUx I4 (0 : Int32)
theorem eX12_open1 {σ : Shp} {I : Nat → Nat → Int32} {R : Nat → Nat → Option Nat}  (hS : Skel σ R) : fX12_open1 σ I R 114 = gX12_open1 σ I R := by
  unfold fX12_open1 gX12_open1
  refine sg (kq114 hS) ?_
  try with_reducible refine sg (kq114 hS) ?_
  try with_reducible refine sg (kq114 hS) ?_
  try with_reducible refine sg (kq114 hS) ?_
  exact eX12_open1_l22 hS _ _ _
def gX12_page_b109  (σ : Shp) (I : Nat → Nat → Int32) (R : Nat → Nat → Option Nat) (x2 : Int32) (x3 : Int32) (x4 : Int32) (x5 : Int32) : Option ((Int64)) :=
  if x2 = 0 then
    some (Int32.toInt64 x4)
  else
    if x2 = (1 : Int32) then
      some (Int32.toInt64 x3)
    else
      if x2 = (2 : Int32) then
        if ¬ ((((64 : Int32) * x4) + (4 : Int32)) < 0 ∨ 1280 ≤ Int32.toNatClampNeg (((64 : Int32) * x4) + (4 : Int32))) then
        some (Int32.toInt64 (I 200 (Int32.toNatClampNeg (((64 : Int32) * x4) + (4 : Int32)))))
        else none
      else
        if x2 = (3 : Int32) then
          some (Int32.toInt64 x5)
        else
          some (-1 : Int64)
theorem eX12_page_b109 {σ : Shp} {I : Nat → Nat → Int32} {R : Nat → Nat → Option Nat} {x2 : Int32} {x3 : Int32} {x4 : Int32} {x5 : Int32} (hS : Skel σ R) : fX12_page_b109 σ I R 114 x2 x3 x4 x5 = gX12_page_b109 σ I R x2 x3 x4 x5 := by
  unfold fX12_page_b109 gX12_page_b109
  refine bi (fun c => ?_) (fun c => ?_)
  · rfl
  · refine bi (fun c => ?_) (fun c => ?_)
    · rfl
    · refine bi (fun c => ?_) (fun c => ?_)
      · refine sg (kq114 hS) ?_
        refine sb (rq114_127 hS) ?_
        refine sg (kq200 hS) ?_
        refine bgr (by rw [lq200 hS]) (fun g7 => ?_)
        rfl
      · refine bi (fun c => ?_) (fun c => ?_)
        · rfl
        · rfl
def gX12_page_b39  (σ : Shp) (I : Nat → Nat → Int32) (R : Nat → Nat → Option Nat) (x2 : Int32) (x3 : Int32) : Option ((Int64)) :=
  if x3 = 0 then
    some (-1 : Int64)
  else
    (gX12_pageOf σ I R x3).bind fun r3 =>
    if ¬ ((((64 : Int32) * r3) + (5 : Int32)) < 0 ∨ 1280 ≤ Int32.toNatClampNeg (((64 : Int32) * r3) + (5 : Int32))) then
    let v6 := (I 200 (Int32.toNatClampNeg (((64 : Int32) * r3) + (5 : Int32))))
    if x2 < (10 : Int32) then
      gX12_page_b109 σ I R x2 x3 r3 v6
    else
      if v6 ≤ (x2 - (10 : Int32)) then
        gX12_page_b109 σ I R x2 x3 r3 v6
      else
        (gX12_wide σ I (some 200) ((((64 : Int32) * r3) + (12 : Int32)) + ((8 : Int32) * (x2 - (10 : Int32)))) (8 : Int32)).bind fun r8 =>
        some r8
    else none
theorem eX12_page_b39 {σ : Shp} {I : Nat → Nat → Int32} {R : Nat → Nat → Option Nat} {x2 : Int32} {x3 : Int32} (hS : Skel σ R) : fX12_page_b39 σ I R 114 x2 x3 = gX12_page_b39 σ I R x2 x3 := by
  unfold fX12_page_b39 gX12_page_b39
  refine bi (fun c => ?_) (fun c => ?_)
  · rfl
  · refine sg (kq114 hS) ?_
    refine bc (eX12_pageOf hS) (fun r3 hc4 => ?_)
    try with_reducible refine sg (kq114 hS) ?_
    refine sb (rq114_127 hS) ?_
    refine sg (kq200 hS) ?_
    refine bgr (by rw [lq200 hS]) (fun g5 => ?_)
    refine bi (fun c => ?_) (fun c => ?_)
    · exact eX12_page_b109 hS
    · refine bi (fun c => ?_) (fun c => ?_)
      · exact eX12_page_b109 hS
      · try with_reducible refine sg (kq114 hS) ?_
        refine bc (eX12_wide hS) (fun r8 hc9 => ?_)
        rfl
def gX12_page_l17  (σ : Shp) (I : Nat → Nat → Int32) (R : Nat → Nat → Option Nat) : Nat → (Int32) → (Int32) → (Int32) → (Int32) → Option ((Int64))
  | 0, _, _, _, _ => none
  | n + 1, x1, x2, x3, x4 =>
    if x1 ≤ x4 then
      gX12_page_b39 σ I R x2 x3
    else
      if x3 ≤ 0 then
        gX12_page_b39 σ I R x2 x3
      else
        (gX12_above σ I R x3).bind fun r10 =>
        let v12 := x4 + (1 : Int32)
        gX12_page_l17 σ I R n x1 x2 r10 v12
theorem eX12_page_l17 {σ : Shp} {I : Nat → Nat → Int32} {R : Nat → Nat → Option Nat} (hS : Skel σ R) : ∀ (n : Nat) (x1 : Int32) (x2 : Int32) (x3 : Int32) (x4 : Int32), fX12_page_l17 σ I R 114 n x1 x2 x3 x4 = gX12_page_l17 σ I R n x1 x2 x3 x4 := by
  intro n
  induction n with
  | zero => intro x1 x2 x3 x4; rfl
  | succ n ih =>
    intro x1 x2 x3 x4
    rw [fX12_page_l17, gX12_page_l17]
    refine bi (fun c => ?_) (fun c => ?_)
    · exact eX12_page_b39 hS
    · refine bi (fun c => ?_) (fun c => ?_)
      · exact eX12_page_b39 hS
      · refine sg (kq114 hS) ?_
        refine bc (eX12_above hS) (fun r10 hc11 => ?_)
        exact ih _ _ _ _
def gX12_page (σ : Shp) (I : Nat → Nat → Int32) (R : Nat → Nat → Option Nat) (x1 : Int32) (x2 : Int32) : Option ((Int64)) :=
  if 0 ≤ x1 then
    (gX12_above σ I R (0 : Int32)).bind fun r1 =>
    gX12_page_l17 σ I R FUx x1 x2 r1 (0 : Int32)
  else
    some (-1 : Int64)
theorem eX12_page {σ : Shp} {I : Nat → Nat → Int32} {R : Nat → Nat → Option Nat} {x1 : Int32} {x2 : Int32} (hS : Skel σ R) : fX12_page σ I R 114 x1 x2 = gX12_page σ I R x1 x2 := by
  unfold fX12_page gX12_page
  refine bi (fun c => ?_) (fun c => ?_)
  · refine sg (kq114 hS) ?_
    refine bc (eX12_above hS) (fun r1 hc2 => ?_)
    exact eX12_page_l17 hS _ _ _ _ _
  · rfl
def gX12_clash_l34 (q4 : (Int32) → (Int32) → (Option ((Int32)))) (σ : Shp) (I : Nat → Nat → Int32) (R : Nat → Nat → Option Nat) : Nat → (Int32) → (Int32) → (Int32) → (Int32) → (Int32) → Option ((Int32))
  | 0, _, _, _, _, _ => none
  | n + 1, x1, x2, x3, x4, x5 =>
    if (64 : Int32) ≤ x5 then
      if x4 = 0 then
        let v8 := (x1 + (0 : Int32))
        let v9 := x2 + (1 : Int32)
        q4 v8 v9
      else
        let v10 := (x1 + (1 : Int32))
        let v11 := x2 + (1 : Int32)
        q4 v10 v11
    else
      if x4 = 0 then
        if ¬ ((((64 : Int32) * x2) + x5) < 0 ∨ 1280 ≤ Int32.toNatClampNeg (((64 : Int32) * x2) + x5)) then
        if ¬ ((((64 : Int32) * x3) + x5) < 0 ∨ 1280 ≤ Int32.toNatClampNeg (((64 : Int32) * x3) + x5)) then
        if (I 200 (Int32.toNatClampNeg (((64 : Int32) * x2) + x5))) = (I 200 (Int32.toNatClampNeg (((64 : Int32) * x3) + x5))) then
          let v15 := x5 + (1 : Int32)
          gX12_clash_l34 q4 σ I R n x1 x2 x3 (0 : Int32) v15
        else
          let v16 := x5 + (1 : Int32)
          gX12_clash_l34 q4 σ I R n x1 x2 x3 (1 : Int32) v16
        else none
        else none
      else
        let v12 := x5 + (1 : Int32)
        gX12_clash_l34 q4 σ I R n x1 x2 x3 (1 : Int32) v12
theorem eX12_clash_l34 {σ : Shp} {I : Nat → Nat → Int32} {R : Nat → Nat → Option Nat} (hS : Skel σ R) {qf4 q4 : (Int32) → (Int32) → (Option ((Int32)))} (hq4 : ∀ (x1 : Int32) (x2 : Int32), qf4 x1 x2 = q4 x1 x2) : ∀ (n : Nat) (x1 : Int32) (x2 : Int32) (x3 : Int32) (x4 : Int32) (x5 : Int32), fX12_clash_l34 qf4 σ I R 114 n x1 x2 x3 x4 x5 = gX12_clash_l34 q4 σ I R n x1 x2 x3 x4 x5 := by
  intro n
  induction n with
  | zero => intro x1 x2 x3 x4 x5; rfl
  | succ n ih =>
    intro x1 x2 x3 x4 x5
    rw [fX12_clash_l34, gX12_clash_l34]
    refine bi (fun c => ?_) (fun c => ?_)
    · refine bi (fun c => ?_) (fun c => ?_)
      · exact hq4 _ _
      · exact hq4 _ _
    · refine bi (fun c => ?_) (fun c => ?_)
      · refine sg (kq114 hS) ?_
        refine sb (rq114_127 hS) ?_
        refine sg (kq200 hS) ?_
        refine bgr (by rw [lq200 hS]) (fun g13 => ?_)
        try with_reducible refine sg (kq114 hS) ?_
        try with_reducible refine sg (kq200 hS) ?_
        refine bgr (by rw [lq200 hS]) (fun g14 => ?_)
        refine bi (fun c => ?_) (fun c => ?_)
        · exact ih _ _ _ _ _
        · exact ih _ _ _ _ _
      · exact ih _ _ _ _ _
def gX12_clash_l4  (σ : Shp) (I : Nat → Nat → Int32) (R : Nat → Nat → Option Nat) : Nat → (Int32) → (Int32) → Option ((Int32))
  | 0, _, _ => none
  | n + 1, x1, x2 =>
    if (20 : Int32) ≤ x2 then
      some x1
    else
      (gX12_isWhole σ I R x2).bind fun r1 =>
      if r1 = 0 then
        let v3 := x2 + (1 : Int32)
        gX12_clash_l4 σ I R n x1 v3
      else
        (gX12_numberOf σ I x2).bind fun r4 =>
        (gX12_pageOf σ I R r4).bind fun r6 =>
        gX12_clash_l34 (gX12_clash_l4 σ I R n) σ I R FUx x1 x2 r6 (0 : Int32) (0 : Int32)
theorem eX12_clash_l4 {σ : Shp} {I : Nat → Nat → Int32} {R : Nat → Nat → Option Nat} (hS : Skel σ R) : ∀ (n : Nat) (x1 : Int32) (x2 : Int32), fX12_clash_l4 σ I R 114 n x1 x2 = gX12_clash_l4 σ I R n x1 x2 := by
  intro n
  induction n with
  | zero => intro x1 x2; rfl
  | succ n ih =>
    intro x1 x2
    rw [fX12_clash_l4, gX12_clash_l4]
    refine bi (fun c => ?_) (fun c => ?_)
    · rfl
    · refine sg (kq114 hS) ?_
      refine bc (eX12_isWhole hS) (fun r1 hc2 => ?_)
      refine bi (fun c => ?_) (fun c => ?_)
      · exact ih _ _
      · try with_reducible refine sg (kq114 hS) ?_
        refine bc (eX12_numberOf hS) (fun r4 hc5 => ?_)
        try with_reducible refine sg (kq114 hS) ?_
        refine bc (eX12_pageOf hS) (fun r6 hc7 => ?_)
        exact eX12_clash_l34 hS ih _ _ _ _ _ _
def gX12_clash (σ : Shp) (I : Nat → Nat → Int32) (R : Nat → Nat → Option Nat) : Option ((Int32)) :=
  gX12_clash_l4 σ I R FUx (0 : Int32) (0 : Int32)
theorem eX12_clash {σ : Shp} {I : Nat → Nat → Int32} {R : Nat → Nat → Option Nat}  (hS : Skel σ R) : fX12_clash σ I R 114 = gX12_clash σ I R := by
  unfold fX12_clash gX12_clash
  exact eX12_clash_l4 hS _ _ _
def gX12_octet (I : Nat → Nat → Int32) (x1 : Int32) (x2 : Int32) : Option ((Int32)) :=
  if (fX12_in x1 (0 : Int32) (19 : Int32)) = 0 then
    some (-2 : Int32)
  else
    if (fX12_in x2 (0 : Int32) (63 : Int32)) = 0 then
      some (-2 : Int32)
    else
      if ¬ ((((64 : Int32) * x1) + x2) < 0 ∨ 1280 ≤ Int32.toNatClampNeg (((64 : Int32) * x1) + x2)) then
      some (I 200 (Int32.toNatClampNeg (((64 : Int32) * x1) + x2)))
      else none
theorem eX12_octet {σ : Shp} {I : Nat → Nat → Int32} {R : Nat → Nat → Option Nat} {x1 : Int32} {x2 : Int32} (hS : Skel σ R) : fX12_octet σ I R 114 x1 x2 = gX12_octet I x1 x2 := by
  unfold fX12_octet gX12_octet
  refine bi (fun c => ?_) (fun c => ?_)
  · rfl
  · refine bi (fun c => ?_) (fun c => ?_)
    · rfl
    · refine sg (kq114 hS) ?_
      refine sb (rq114_127 hS) ?_
      refine sg (kq200 hS) ?_
      refine bgr (by rw [lq200 hS]) (fun g1 => ?_)
      rfl
def gX12_damage (I : Nat → Nat → Int32) (x1 : Int32) (x2 : Int32) (x3 : Int32) : Option ((Nat → Nat → Int32) × (Int32)) :=
  if (fX12_in x1 (0 : Int32) (19 : Int32)) = 0 then
    some (I, (-2 : Int32))
  else
    if (fX12_in x2 (0 : Int32) (63 : Int32)) = 0 then
      some (I, (-2 : Int32))
    else
      if (fX12_in x3 (0 : Int32) (255 : Int32)) = 0 then
        some (I, (-2 : Int32))
      else
        if ¬ ((((64 : Int32) * x1) + x2) < 0 ∨ 1280 ≤ Int32.toNatClampNeg (((64 : Int32) * x1) + x2)) then
        let I2 := u2 I 200 (Int32.toNatClampNeg (((64 : Int32) * x1) + x2)) ((I 200 (Int32.toNatClampNeg (((64 : Int32) * x1) + x2))) ^^^ x3)
        some (I2, (I2 200 (Int32.toNatClampNeg (((64 : Int32) * x1) + x2))))
        else none
theorem eX12_damage {σ : Shp} {I : Nat → Nat → Int32} {R : Nat → Nat → Option Nat} {x1 : Int32} {x2 : Int32} {x3 : Int32} (hS : Skel σ R) : fX12_damage σ I R 114 x1 x2 x3 = gX12_damage I x1 x2 x3 := by
  unfold fX12_damage gX12_damage
  refine bi (fun c => ?_) (fun c => ?_)
  · rfl
  · refine bi (fun c => ?_) (fun c => ?_)
    · rfl
    · refine bi (fun c => ?_) (fun c => ?_)
      · rfl
      · refine sg (kq114 hS) ?_
        refine sb (rq114_127 hS) ?_
        try with_reducible refine sg (kq114 hS) ?_
        refine sg (kq200 hS) ?_
        refine bgr (by rw [lq200 hS]) (fun g1 => ?_)
        try with_reducible refine sg (kq200 hS) ?_
        try with_reducible refine sg (by rw [lq200 hS]; exact g1) ?_
        try with_reducible refine sg (kq114 hS) ?_
        try with_reducible refine sg (kq200 hS) ?_
        try with_reducible refine sg (by rw [lq200 hS]; exact g1) ?_
        rfl
def gX12_told (σ : Shp) (I : Nat → Nat → Int32) (R : Nat → Nat → Option Nat) (x1 : Int32) : Option ((Int32)) :=
  if x1 = (0 : Int32) then
    some (I 114 85)
  else
  if x1 = (1 : Int32) then
    some (I 114 0)
  else
  if x1 = (2 : Int32) then
    some (I 114 1)
  else
  if x1 = (3 : Int32) then
    some (I 114 129)
  else
  if x1 = (4 : Int32) then
    some (I 114 130)
  else
  if x1 = (5 : Int32) then
    if (I 114 131) = 0 then
      some (0 : Int32)
    else
      some (1 : Int32)
  else
  if x1 = (6 : Int32) then
    (gX12_clash σ I R).bind fun r18 =>
    some r18
  else
  if x1 = (7 : Int32) then
    some (I 114 125)
  else
  if x1 = (8 : Int32) then
    (gX12_readMany σ I R).bind fun r16 =>
    some r16
  else
  if x1 = (9 : Int32) then
    if ¬ ((0 : Int32) < 0 ∨ 4 ≤ Int32.toNatClampNeg (0 : Int32)) then
    if ¬ ((1 : Int32) < 0 ∨ 4 ≤ Int32.toNatClampNeg (1 : Int32)) then
    if ¬ ((2 : Int32) < 0 ∨ 4 ≤ Int32.toNatClampNeg (2 : Int32)) then
    if ¬ ((3 : Int32) < 0 ∨ 4 ≤ Int32.toNatClampNeg (3 : Int32)) then
    some ((((I 134 (Int32.toNatClampNeg (0 : Int32))) + (I 134 (Int32.toNatClampNeg (1 : Int32)))) + (I 134 (Int32.toNatClampNeg (2 : Int32)))) + (I 134 (Int32.toNatClampNeg (3 : Int32))))
    else none
    else none
    else none
    else none
  else
  if x1 = (10 : Int32) then
    some (I 114 83)
  else
  some (-2 : Int32)
theorem eX12_told {σ : Shp} {I : Nat → Nat → Int32} {R : Nat → Nat → Option Nat} {x1 : Int32} (hS : Skel σ R) : fX12_told σ I R 114 x1 = gX12_told σ I R x1 := by
  unfold fX12_told gX12_told
  refine bi (fun c => ?_) (fun c => ?_)
  · refine sg (kq114 hS) ?_
    rfl
  · refine bi (fun c => ?_) (fun c => ?_)
    · refine sg (kq114 hS) ?_
      rfl
    · refine bi (fun c => ?_) (fun c => ?_)
      · refine sg (kq114 hS) ?_
        rfl
      · refine bi (fun c => ?_) (fun c => ?_)
        · refine sg (kq114 hS) ?_
          rfl
        · refine bi (fun c => ?_) (fun c => ?_)
          · refine sg (kq114 hS) ?_
            rfl
          · refine bi (fun c => ?_) (fun c => ?_)
            · refine sg (kq114 hS) ?_
              refine bi (fun c => ?_) (fun c => ?_)
              · rfl
              · rfl
            · refine bi (fun c => ?_) (fun c => ?_)
              · refine sg (kq114 hS) ?_
                refine bc (eX12_clash hS) (fun r18 hc19 => ?_)
                rfl
              · refine bi (fun c => ?_) (fun c => ?_)
                · refine sg (kq114 hS) ?_
                  rfl
                · refine bi (fun c => ?_) (fun c => ?_)
                  · refine sg (kq114 hS) ?_
                    refine bc (eX12_readMany hS) (fun r16 hc17 => ?_)
                    rfl
                  · refine bi (fun c => ?_) (fun c => ?_)
                    · refine sg (kq114 hS) ?_
                      refine sb (rq114_33 hS) ?_
                      refine sg (kq134 hS) ?_
                      refine bgr (by rw [lq134 hS]) (fun g12 => ?_)
                      try with_reducible refine sg (kq114 hS) ?_
                      try with_reducible refine sg (kq134 hS) ?_
                      refine bgr (by rw [lq134 hS]) (fun g13 => ?_)
                      try with_reducible refine sg (kq114 hS) ?_
                      try with_reducible refine sg (kq134 hS) ?_
                      refine bgr (by rw [lq134 hS]) (fun g14 => ?_)
                      try with_reducible refine sg (kq114 hS) ?_
                      try with_reducible refine sg (kq134 hS) ?_
                      refine bgr (by rw [lq134 hS]) (fun g15 => ?_)
                      rfl
                    · refine bi (fun c => ?_) (fun c => ?_)
                      · refine sg (kq114 hS) ?_
                        rfl
                      · rfl
def gX12_fault (I : Nat → Nat → Int32) : Option ((Int32)) :=
  some (I 114 2)
theorem eX12_fault {σ : Shp} {I : Nat → Nat → Int32} {R : Nat → Nat → Option Nat}  (hS : Skel σ R) : fX12_fault σ I 114 = gX12_fault I := by
  unfold fX12_fault gX12_fault
  refine sg (kq114 hS) ?_
  rfl
