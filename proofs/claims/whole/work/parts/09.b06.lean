def gX12_value (σ : Shp) (I : Nat → Nat → Int32) (R : Nat → Nat → Option Nat) (x1 : Int32) (x2 : Int32) : Option ((Nat → Nat → Int32) × (Int32)) :=
  if (fX12_isTable x1) = 0 then
    some (I, (0 : Int32))
  else
    (gX12_valueOf σ I R x1 x2).bind fun (I1, r2) =>
    some (I1, r2)
theorem eX12_value {σ : Shp} {I : Nat → Nat → Int32} {R : Nat → Nat → Option Nat} {x1 : Int32} {x2 : Int32} (hS : Skel σ R) : fX12_value σ I R 114 x1 x2 = gX12_value σ I R x1 x2 := by
  unfold fX12_value gX12_value
  refine bi (fun c => ?_) (fun c => ?_)
  · rfl
  · refine sg (kq114 hS) ?_
    refine bc (eX12_valueOf hS) (fun pp hc3 => ?_)
    obtain ⟨I1, r2⟩ := pp
    rfl
def gX12_laid (I : Nat → Nat → Int32) (x1 : Int32) : Option ((Int32)) :=
  if (fX12_in x1 (0 : Int32) ((I 114 83) - (1 : Int32))) = 0 then
    some (-1 : Int32)
  else
    if ¬ (x1 < 0 ∨ 3 ≤ Int32.toNatClampNeg x1) then
    some (I 163 (Int32.toNatClampNeg x1))
    else none
theorem eX12_laid {σ : Shp} {I : Nat → Nat → Int32} {R : Nat → Nat → Option Nat} {x1 : Int32} (hS : Skel σ R) : fX12_laid σ I R 114 x1 = gX12_laid I x1 := by
  unfold fX12_laid gX12_laid
  refine sg (kq114 hS) ?_
  refine bi (fun c => ?_) (fun c => ?_)
  · rfl
  · try with_reducible refine sg (kq114 hS) ?_
    refine sb (rq114_82 hS) ?_
    refine sg (kq163 hS) ?_
    refine bgr (by rw [lq163 hS]) (fun g1 => ?_)
    rfl
def gX12_read (J : Nat → Nat → Int64) (x1 : Int32) (x2 : Int64) : Option ((Nat → Nat → Int64) × (Int32)) :=
  if (fX12_in x1 (0 : Int32) (8 : Int32)) = 0 then
    some (J, (-2 : Int32))
  else
    if ¬ (x1 < 0 ∨ 9 ≤ Int32.toNatClampNeg x1) then
    let J2 := u2 J 165 (Int32.toNatClampNeg x1) (fX12_fitted (7 : Int32) x2)
    some (J2, (1 : Int32))
    else none
theorem eX12_read {σ : Shp} {J : Nat → Nat → Int64} {R : Nat → Nat → Option Nat} {x1 : Int32} {x2 : Int64} (hS : Skel σ R) : fX12_read σ J R 114 x1 x2 = gX12_read J x1 x2 := by
  unfold fX12_read gX12_read
  refine bi (fun c => ?_) (fun c => ?_)
  · rfl
  · refine sg (kq114 hS) ?_
    refine sb (rq114_86 hS) ?_
    refine sg (kq165 hS) ?_
    refine bgr (by rw [lq165 hS]) (fun g1 => ?_)
    rfl
def gX12_part (D : Nat → Nat → UInt64) (x1 : Int64) : Option ((Nat → Nat → UInt64) × (Int32)) :=
  let v1 := (fX12_fitted (7 : Int32) x1)
  if v1 = (9221120237041090560 : Int64) then
    some (D, (-2 : Int32))
  else
    (fX12_fromBits v1).bind fun r2 =>
    if 0 ≤ (Op.cmpValue (FP.dcmp r2 (FP.dconst0)) .g) then
      (fX12_fromBits v1).bind fun r4 =>
      let D6 := u2 D 114 94 r4
      some (D6, (1 : Int32))
    else
      some (D, (-2 : Int32))
theorem eX12_part {σ : Shp} {D : Nat → Nat → UInt64} {R : Nat → Nat → Option Nat} {x1 : Int64} (hS : Skel σ R) : fX12_part σ D 114 x1 = gX12_part D x1 := by
  unfold fX12_part gX12_part
  refine bi (fun c => ?_) (fun c => ?_)
  · rfl
  · refine bc rfl (fun r2 hc3 => ?_)
    refine bi (fun c => ?_) (fun c => ?_)
    · refine bc rfl (fun r4 hc5 => ?_)
      refine sg (kq114 hS) ?_
      rfl
    · rfl
def gX12_probe (I : Nat → Nat → Int32) (x1 : Int32) (x2 : Int32) : Option ((Int32)) :=
  if (fX12_in x1 (0 : Int32) (8 : Int32)) = 0 then
    some (-2 : Int32)
  else
    if x2 = (0 : Int32) then
      if ¬ (x1 < 0 ∨ 9 ≤ Int32.toNatClampNeg x1) then
      if (I 167 (Int32.toNatClampNeg x1)) = 0 then
        some (1 : Int32)
      else
        some (0 : Int32)
      else none
    else
    if x2 = (1 : Int32) then
      if ¬ (x1 < 0 ∨ 9 ≤ Int32.toNatClampNeg x1) then
      some (I 168 (Int32.toNatClampNeg x1))
      else none
    else
    if x2 = (2 : Int32) then
      if ¬ (x1 < 0 ∨ 9 ≤ Int32.toNatClampNeg x1) then
      some (I 169 (Int32.toNatClampNeg x1))
      else none
    else
    if x2 = (3 : Int32) then
      if ¬ (x1 < 0 ∨ 9 ≤ Int32.toNatClampNeg x1) then
      some (I 170 (Int32.toNatClampNeg x1))
      else none
    else
    if x2 = (4 : Int32) then
      if ¬ (x1 < 0 ∨ 9 ≤ Int32.toNatClampNeg x1) then
      some (I 171 (Int32.toNatClampNeg x1))
      else none
    else
    some (-2 : Int32)
theorem eX12_probe {σ : Shp} {I : Nat → Nat → Int32} {R : Nat → Nat → Option Nat} {x1 : Int32} {x2 : Int32} (hS : Skel σ R) : fX12_probe σ I R 114 x1 x2 = gX12_probe I x1 x2 := by
  unfold fX12_probe gX12_probe
  refine bi (fun c => ?_) (fun c => ?_)
  · rfl
  · refine bi (fun c => ?_) (fun c => ?_)
    · refine sg (kq114 hS) ?_
      refine sb (rq114_88 hS) ?_
      refine sg (kq167 hS) ?_
      refine bgr (by rw [lq167 hS]) (fun g10 => ?_)
      refine bi (fun c => ?_) (fun c => ?_)
      · rfl
      · rfl
    · refine bi (fun c => ?_) (fun c => ?_)
      · refine sg (kq114 hS) ?_
        refine sb (rq114_89 hS) ?_
        refine sg (kq168 hS) ?_
        refine bgr (by rw [lq168 hS]) (fun g9 => ?_)
        rfl
      · refine bi (fun c => ?_) (fun c => ?_)
        · refine sg (kq114 hS) ?_
          refine sb (rq114_90 hS) ?_
          refine sg (kq169 hS) ?_
          refine bgr (by rw [lq169 hS]) (fun g8 => ?_)
          rfl
        · refine bi (fun c => ?_) (fun c => ?_)
          · refine sg (kq114 hS) ?_
            refine sb (rq114_91 hS) ?_
            refine sg (kq170 hS) ?_
            refine bgr (by rw [lq170 hS]) (fun g7 => ?_)
            rfl
          · refine bi (fun c => ?_) (fun c => ?_)
            · refine sg (kq114 hS) ?_
              refine sb (rq114_92 hS) ?_
              refine sg (kq171 hS) ?_
              refine bgr (by rw [lq171 hS]) (fun g6 => ?_)
              rfl
            · rfl
def gX12_voted (J : Nat → Nat → Int64) (x1 : Int32) : Option ((Int64)) :=
  if (fX12_in x1 (0 : Int32) (2 : Int32)) = 0 then
    some (0 : Int64)
  else
    if ¬ (x1 < 0 ∨ 3 ≤ Int32.toNatClampNeg x1) then
    some (J 173 (Int32.toNatClampNeg x1))
    else none
theorem eX12_voted {σ : Shp} {J : Nat → Nat → Int64} {R : Nat → Nat → Option Nat} {x1 : Int32} (hS : Skel σ R) : fX12_voted σ J R 114 x1 = gX12_voted J x1 := by
  unfold fX12_voted gX12_voted
  refine bi (fun c => ?_) (fun c => ?_)
  · rfl
  · refine sg (kq114 hS) ?_
    refine sb (rq114_95 hS) ?_
    refine sg (kq173 hS) ?_
    refine bgr (by rw [lq173 hS]) (fun g1 => ?_)
    rfl
def gX12_reads (J : Nat → Nat → Int64) (x1 : Int32) : Option ((Int32)) :=
  if ¬ (x1 < 0 ∨ 9 ≤ Int32.toNatClampNeg x1) then
  if (J 165 (Int32.toNatClampNeg x1)) = (9221120237041090560 : Int64) then
    some (0 : Int32)
  else
    some (1 : Int32)
  else none
theorem eX12_reads {σ : Shp} {J : Nat → Nat → Int64} {R : Nat → Nat → Option Nat} {x1 : Int32} (hS : Skel σ R) : fX12_reads σ J R 114 x1 = gX12_reads J x1 := by
  unfold fX12_reads gX12_reads
  refine sg (kq114 hS) ?_
  refine sb (rq114_86 hS) ?_
  refine sg (kq165 hS) ?_
  refine bgr (by rw [lq165 hS]) (fun g1 => ?_)
  refine bi (fun c => ?_) (fun c => ?_)
  · rfl
  · rfl
def gX12_find_b122 (q52 : (Nat → Nat → Int64) → (Int32) → (Int32) → (Int32) → (Option ((Nat → Nat → Int64)))) (q68 : (Nat → Nat → Int64) → (Int32) → (Int32) → (Int32) → (Int32) → (Int32) → (Option ((Nat → Nat → Int64)))) (σ : Shp) (I : Nat → Nat → Int32) (R : Nat → Nat → Option Nat) (J : Nat → Nat → Int64) (x1 : Int32) (x2 : Int32) (x3 : Int32) (x4 : Int32) (x5 : Int32) (s0 : Int32) : Option ((Nat → Nat → Int64)) :=
  (gX12_reads J x5).bind fun r15 =>
  if r15 = 0 then
    let v17 := (x4 + (0 : Int32))
    let v18 := x5 + (3 : Int32)
    q68 J x1 x2 x3 v17 v18
  else
    if ¬ (x5 < 0 ∨ 9 ≤ Int32.toNatClampNeg x5) then
    if (I 167 (Int32.toNatClampNeg x5)) = 0 then
      if s0 = 0 then
        let v22 := (x4 + (0 : Int32))
        let v23 := x5 + (3 : Int32)
        q68 J x1 x2 x3 v22 v23
      else
        let v24 := (x4 + (1 : Int32))
        let v25 := x5 + (3 : Int32)
        q68 J x1 x2 x3 v24 v25
    else
      let v20 := (x4 + (0 : Int32))
      let v21 := x5 + (3 : Int32)
      q68 J x1 x2 x3 v20 v21
    else none
theorem eX12_find_b122 {σ : Shp} {I : Nat → Nat → Int32} {J : Nat → Nat → Int64} {R : Nat → Nat → Option Nat} {x1 : Int32} {x2 : Int32} {x3 : Int32} {x4 : Int32} {x5 : Int32} {s0 : Int32} (hS : Skel σ R) {qf52 q52 : (Nat → Nat → Int64) → (Int32) → (Int32) → (Int32) → (Option ((Nat → Nat → Int64)))} (hq52 : ∀ (J : Nat → Nat → Int64) (x1 : Int32) (x2 : Int32) (x3 : Int32), qf52 J x1 x2 x3 = q52 J x1 x2 x3) {qf68 q68 : (Nat → Nat → Int64) → (Int32) → (Int32) → (Int32) → (Int32) → (Int32) → (Option ((Nat → Nat → Int64)))} (hq68 : ∀ (J : Nat → Nat → Int64) (x1 : Int32) (x2 : Int32) (x3 : Int32) (x4 : Int32) (x5 : Int32), qf68 J x1 x2 x3 x4 x5 = q68 J x1 x2 x3 x4 x5) : fX12_find_b122 qf52 qf68 σ I R 114 J x1 x2 x3 x4 x5 s0 = gX12_find_b122 q52 q68 σ I R J x1 x2 x3 x4 x5 s0 := by
  unfold fX12_find_b122 gX12_find_b122
  refine sg (kq114 hS) ?_
  refine bc (eX12_reads hS) (fun r15 hc16 => ?_)
  refine bi (fun c => ?_) (fun c => ?_)
  · exact hq68 _ _ _ _ _ _
  · try with_reducible refine sg (kq114 hS) ?_
    refine sb (rq114_88 hS) ?_
    refine sg (kq167 hS) ?_
    refine bgr (by rw [lq167 hS]) (fun g19 => ?_)
    refine bi (fun c => ?_) (fun c => ?_)
    · refine bi (fun c => ?_) (fun c => ?_)
      · exact hq68 _ _ _ _ _ _
      · exact hq68 _ _ _ _ _ _
    · exact hq68 _ _ _ _ _ _
def gX12_find_l68 (q52 : (Nat → Nat → Int64) → (Int32) → (Int32) → (Int32) → (Option ((Nat → Nat → Int64)))) (σ : Shp) (I : Nat → Nat → Int32) (R : Nat → Nat → Option Nat) : Nat → (Nat → Nat → Int64) → (Int32) → (Int32) → (Int32) → (Int32) → (Int32) → Option ((Nat → Nat → Int64))
  | 0, _, _, _, _, _, _ => none
  | n + 1, J, x1, x2, x3, x4, x5 =>
    if (9 : Int32) ≤ x5 then
      (gX12_reads J x3).bind fun r3 =>
      if r3 = 0 then
        let v5 := x3 + (3 : Int32)
        q52 J x1 x2 v5
      else
        if ¬ (x3 < 0 ∨ 9 ≤ Int32.toNatClampNeg x3) then
        if (I 167 (Int32.toNatClampNeg x3)) = 0 then
          if x4 = ((x2 - (1 : Int32)) / (2 : Int32)) then
            if ¬ (x3 < 0 ∨ 9 ≤ Int32.toNatClampNeg x3) then
            if ¬ (x1 < 0 ∨ 3 ≤ Int32.toNatClampNeg x1) then
            let J11 := u2 J 173 (Int32.toNatClampNeg x1) (J 165 (Int32.toNatClampNeg x3))
            let v12 := x3 + (3 : Int32)
            q52 J11 x1 x2 v12
            else none
            else none
          else
            let v8 := x3 + (3 : Int32)
            q52 J x1 x2 v8
        else
          let v7 := x3 + (3 : Int32)
          q52 J x1 x2 v7
        else none
    else
      if ¬ (x5 < 0 ∨ 9 ≤ Int32.toNatClampNeg x5) then
      if ¬ (x3 < 0 ∨ 9 ≤ Int32.toNatClampNeg x3) then
      if (fX12_isBelow (J 165 (Int32.toNatClampNeg x5)) (J 165 (Int32.toNatClampNeg x3))) = 0 then
        if (J 165 (Int32.toNatClampNeg x5)) = (J 165 (Int32.toNatClampNeg x3)) then
          if x3 ≤ x5 then
            gX12_find_b122 q52 (gX12_find_l68 q52 σ I R n) σ I R J x1 x2 x3 x4 x5 (0 : Int32)
          else
            gX12_find_b122 q52 (gX12_find_l68 q52 σ I R n) σ I R J x1 x2 x3 x4 x5 (1 : Int32)
        else
          gX12_find_b122 q52 (gX12_find_l68 q52 σ I R n) σ I R J x1 x2 x3 x4 x5 (0 : Int32)
      else
        gX12_find_b122 q52 (gX12_find_l68 q52 σ I R n) σ I R J x1 x2 x3 x4 x5 (1 : Int32)
      else none
      else none
theorem eX12_find_l68 {σ : Shp} {I : Nat → Nat → Int32} {R : Nat → Nat → Option Nat} (hS : Skel σ R) {qf52 q52 : (Nat → Nat → Int64) → (Int32) → (Int32) → (Int32) → (Option ((Nat → Nat → Int64)))} (hq52 : ∀ (J : Nat → Nat → Int64) (x1 : Int32) (x2 : Int32) (x3 : Int32), qf52 J x1 x2 x3 = q52 J x1 x2 x3) : ∀ (n : Nat) (J : Nat → Nat → Int64) (x1 : Int32) (x2 : Int32) (x3 : Int32) (x4 : Int32) (x5 : Int32), fX12_find_l68 qf52 σ I R 114 n J x1 x2 x3 x4 x5 = gX12_find_l68 q52 σ I R n J x1 x2 x3 x4 x5 := by
  intro n
  induction n with
  | zero => intro J x1 x2 x3 x4 x5; rfl
  | succ n ih =>
    intro J x1 x2 x3 x4 x5
    rw [fX12_find_l68, gX12_find_l68]
    refine bi (fun c => ?_) (fun c => ?_)
    · refine sg (kq114 hS) ?_
      refine bc (eX12_reads hS) (fun r3 hc4 => ?_)
      refine bi (fun c => ?_) (fun c => ?_)
      · exact hq52 _ _ _ _
      · try with_reducible refine sg (kq114 hS) ?_
        refine sb (rq114_88 hS) ?_
        refine sg (kq167 hS) ?_
        refine bgr (by rw [lq167 hS]) (fun g6 => ?_)
        refine bi (fun c => ?_) (fun c => ?_)
        · refine bi (fun c => ?_) (fun c => ?_)
          · try with_reducible refine sg (kq114 hS) ?_
            refine sb (rq114_95 hS) ?_
            try with_reducible refine sg (kq114 hS) ?_
            refine sb (rq114_86 hS) ?_
            refine sg (kq165 hS) ?_
            refine bgr (by rw [lq165 hS]) (fun g9 => ?_)
            refine sg (kq173 hS) ?_
            refine bgr (by rw [lq173 hS]) (fun g10 => ?_)
            exact hq52 _ _ _ _
          · exact hq52 _ _ _ _
        · exact hq52 _ _ _ _
    · refine sg (kq114 hS) ?_
      refine sb (rq114_86 hS) ?_
      refine sg (kq165 hS) ?_
      refine bgr (by rw [lq165 hS]) (fun g13 => ?_)
      try with_reducible refine sg (kq114 hS) ?_
      try with_reducible refine sg (kq165 hS) ?_
      refine bgr (by rw [lq165 hS]) (fun g14 => ?_)
      refine bi (fun c => ?_) (fun c => ?_)
      · try with_reducible refine sg (kq114 hS) ?_
        try with_reducible refine sg (kq165 hS) ?_
        try with_reducible refine sg (by rw [lq165 hS]; exact g13) ?_
        try with_reducible refine sg (kq114 hS) ?_
        try with_reducible refine sg (kq165 hS) ?_
        try with_reducible refine sg (by rw [lq165 hS]; exact g14) ?_
        refine bi (fun c => ?_) (fun c => ?_)
        · refine bi (fun c => ?_) (fun c => ?_)
          · exact eX12_find_b122 hS hq52 ih
          · exact eX12_find_b122 hS hq52 ih
        · exact eX12_find_b122 hS hq52 ih
      · exact eX12_find_b122 hS hq52 ih
def gX12_find_l52  (σ : Shp) (I : Nat → Nat → Int32) (R : Nat → Nat → Option Nat) : Nat → (Nat → Nat → Int64) → (Int32) → (Int32) → (Int32) → Option ((Nat → Nat → Int64))
  | 0, _, _, _, _ => none
  | n + 1, J, x1, x2, x3 =>
    if (9 : Int32) ≤ x3 then
      some J
    else
      if x2 ≤ 0 then
        some J
      else
        gX12_find_l68 (gX12_find_l52 σ I R n) σ I R FUx J x1 x2 x3 (0 : Int32) x1
theorem eX12_find_l52 {σ : Shp} {I : Nat → Nat → Int32} {R : Nat → Nat → Option Nat} (hS : Skel σ R) : ∀ (n : Nat) (J : Nat → Nat → Int64) (x1 : Int32) (x2 : Int32) (x3 : Int32), fX12_find_l52 σ I R 114 n J x1 x2 x3 = gX12_find_l52 σ I R n J x1 x2 x3 := by
  intro n
  induction n with
  | zero => intro J x1 x2 x3; rfl
  | succ n ih =>
    intro J x1 x2 x3
    rw [fX12_find_l52, gX12_find_l52]
    refine bi (fun c => ?_) (fun c => ?_)
    · rfl
    · refine bi (fun c => ?_) (fun c => ?_)
      · rfl
      · exact eX12_find_l68 hS ih _ _ _ _ _ _ _
def gX12_find_l4  (σ : Shp) (I : Nat → Nat → Int32) (R : Nat → Nat → Option Nat) : Nat → (Nat → Nat → Int64) → (Int32) → (Int32) → (Int32) → Option ((Nat → Nat → Int64))
  | 0, _, _, _, _ => none
  | n + 1, J, x1, x2, x3 =>
    if (9 : Int32) ≤ x3 then
      if ¬ (x1 < 0 ∨ 3 ≤ Int32.toNatClampNeg x1) then
      let J2 := u2 J 173 (Int32.toNatClampNeg x1) (9221120237041090560 : Int64)
      gX12_find_l52 σ I R FUx J2 x1 x2 x1
      else none
    else
      (gX12_reads J x3).bind fun r26 =>
      if r26 = 0 then
        let v28 := (x2 + (0 : Int32))
        let v29 := x3 + (3 : Int32)
        gX12_find_l4 σ I R n J x1 v28 v29
      else
        if ¬ (x3 < 0 ∨ 9 ≤ Int32.toNatClampNeg x3) then
        if (I 167 (Int32.toNatClampNeg x3)) = 0 then
          let v33 := (x2 + (1 : Int32))
          let v34 := x3 + (3 : Int32)
          gX12_find_l4 σ I R n J x1 v33 v34
        else
          let v31 := (x2 + (0 : Int32))
          let v32 := x3 + (3 : Int32)
          gX12_find_l4 σ I R n J x1 v31 v32
        else none
theorem eX12_find_l4 {σ : Shp} {I : Nat → Nat → Int32} {R : Nat → Nat → Option Nat} (hS : Skel σ R) : ∀ (n : Nat) (J : Nat → Nat → Int64) (x1 : Int32) (x2 : Int32) (x3 : Int32), fX12_find_l4 σ I R 114 n J x1 x2 x3 = gX12_find_l4 σ I R n J x1 x2 x3 := by
  intro n
  induction n with
  | zero => intro J x1 x2 x3; rfl
  | succ n ih =>
    intro J x1 x2 x3
    rw [fX12_find_l4, gX12_find_l4]
    refine bi (fun c => ?_) (fun c => ?_)
    · refine sg (kq114 hS) ?_
      refine sb (rq114_95 hS) ?_
      refine sg (kq173 hS) ?_
      refine bgr (by rw [lq173 hS]) (fun g1 => ?_)
      exact eX12_find_l52 hS _ _ _ _ _
    · refine sg (kq114 hS) ?_
      refine bc (eX12_reads hS) (fun r26 hc27 => ?_)
      refine bi (fun c => ?_) (fun c => ?_)
      · exact ih _ _ _ _
      · try with_reducible refine sg (kq114 hS) ?_
        refine sb (rq114_88 hS) ?_
        refine sg (kq167 hS) ?_
        refine bgr (by rw [lq167 hS]) (fun g30 => ?_)
        refine bi (fun c => ?_) (fun c => ?_)
        · exact ih _ _ _ _
        · exact ih _ _ _ _
def gX12_find (σ : Shp) (I : Nat → Nat → Int32) (J : Nat → Nat → Int64) (R : Nat → Nat → Option Nat) (x1 : Int32) : Option ((Nat → Nat → Int64)) :=
  gX12_find_l4 σ I R FUx J x1 (0 : Int32) x1
theorem eX12_find {σ : Shp} {I : Nat → Nat → Int32} {J : Nat → Nat → Int64} {R : Nat → Nat → Option Nat} {x1 : Int32} (hS : Skel σ R) : fX12_find σ I J R 114 x1 = gX12_find σ I J R x1 := by
  unfold fX12_find gX12_find
  exact eX12_find_l4 hS _ _ _ _ _
def gX12_isOff (J : Nat → Nat → Int64) (D : Nat → Nat → UInt64) (x1 : Int32) (x2 : Int32) : Option ((Int32)) :=
  if ¬ (x1 < 0 ∨ 9 ≤ Int32.toNatClampNeg x1) then
  (fX12_fromBits (J 165 (Int32.toNatClampNeg x1))).bind fun r2 =>
  if ¬ (x2 < 0 ∨ 3 ≤ Int32.toNatClampNeg x2) then
  (fX12_fromBits (J 173 (Int32.toNatClampNeg x2))).bind fun r5 =>
  if (J 165 (Int32.toNatClampNeg x1)) = (J 173 (Int32.toNatClampNeg x2)) then
    some (0 : Int32)
  else
    if (Op.cmpValue (FP.dcmp r2 r5) .l) ≤ 0 then
      if (FP.dsub r5 r2) &&& 0x7fffffffffffffff ≤ 0x7ff0000000000000 then
      let v8 := (FP.dsub r5 r2)
      if (Op.cmpValue (FP.dcmp v8 (D 114 94)) .l) ≤ 0 then
        some (0 : Int32)
      else
        some (1 : Int32)
      else none
    else
      if (FP.dsub r2 r5) &&& 0x7fffffffffffffff ≤ 0x7ff0000000000000 then
      let v10 := (FP.dsub r2 r5)
      if (Op.cmpValue (FP.dcmp v10 (D 114 94)) .l) ≤ 0 then
        some (0 : Int32)
      else
        some (1 : Int32)
      else none
  else none
  else none
theorem eX12_isOff {σ : Shp} {J : Nat → Nat → Int64} {D : Nat → Nat → UInt64} {R : Nat → Nat → Option Nat} {x1 : Int32} {x2 : Int32} (hS : Skel σ R) : fX12_isOff σ J D R 114 x1 x2 = gX12_isOff J D x1 x2 := by
  unfold fX12_isOff gX12_isOff
  refine sg (kq114 hS) ?_
  refine sb (rq114_86 hS) ?_
  refine sg (kq165 hS) ?_
  refine bgr (by rw [lq165 hS]) (fun g1 => ?_)
  refine bc rfl (fun r2 hc3 => ?_)
  try with_reducible refine sg (kq114 hS) ?_
  refine sb (rq114_95 hS) ?_
  refine sg (kq173 hS) ?_
  refine bgr (by rw [lq173 hS]) (fun g4 => ?_)
  refine bc rfl (fun r5 hc6 => ?_)
  try with_reducible refine sg (kq114 hS) ?_
  try with_reducible refine sg (kq165 hS) ?_
  try with_reducible refine sg (by rw [lq165 hS]; exact g1) ?_
  try with_reducible refine sg (kq114 hS) ?_
  try with_reducible refine sg (kq173 hS) ?_
  try with_reducible refine sg (by rw [lq173 hS]; exact g4) ?_
  refine bi (fun c => ?_) (fun c => ?_)
  · rfl
  · refine bi (fun c => ?_) (fun c => ?_)
    · refine bg (fun g7 => ?_)
      try with_reducible refine sg (kq114 hS) ?_
      refine bi (fun c => ?_) (fun c => ?_)
      · rfl
      · rfl
    · refine bg (fun g9 => ?_)
      try with_reducible refine sg (kq114 hS) ?_
      refine bi (fun c => ?_) (fun c => ?_)
      · rfl
      · rfl
def gX12_countIn_b186 (q104 : (Nat → Nat → Int32) → (Int32) → (Int32) → (Int32) → (Option ((Nat → Nat → Int32)))) (σ : Shp) (J : Nat → Nat → Int64) (D : Nat → Nat → UInt64) (R : Nat → Nat → Option Nat) (I : Nat → Nat → Int32) (x1 : Int32) (x2 : Int32) (x3 : Int32) (x4 : Int32) (x5 : Int32) (s0 : Option Nat) (s1 : Int32) (s2 : Int32) : Option ((Nat → Nat → Int32)) :=
  (s0 : Option Nat).bind fun a3 =>
  if kdx σ a3 = 20 then
  if ¬ (s1 < 0 ∨ lnx σ a3 ≤ Int32.toNatClampNeg s1) then
  let I6 := u2 I a3 (Int32.toNatClampNeg s1) s2
  if x4 = 0 then
    if ¬ (x3 < 0 ∨ 9 ≤ Int32.toNatClampNeg x3) then
    let I8 := u2 I6 170 (Int32.toNatClampNeg x3) (0 : Int32)
    let v9 := x3 + (3 : Int32)
    q104 I8 x1 x2 v9
    else none
  else
    if x5 = 0 then
      if ¬ (x3 < 0 ∨ 9 ≤ Int32.toNatClampNeg x3) then
      let I14 := u2 I6 170 (Int32.toNatClampNeg x3) ((I6 170 (Int32.toNatClampNeg x3)) + (1 : Int32))
      let v15 := x3 + (3 : Int32)
      q104 I14 x1 x2 v15
      else none
    else
      if ¬ (x3 < 0 ∨ 9 ≤ Int32.toNatClampNeg x3) then
      let I11 := u2 I6 170 (Int32.toNatClampNeg x3) (0 : Int32)
      let v12 := x3 + (3 : Int32)
      q104 I11 x1 x2 v12
      else none
  else none
  else none
theorem eX12_countIn_b186 {σ : Shp} {I : Nat → Nat → Int32} {J : Nat → Nat → Int64} {D : Nat → Nat → UInt64} {R : Nat → Nat → Option Nat} {x1 : Int32} {x2 : Int32} {x3 : Int32} {x4 : Int32} {x5 : Int32} {s0 : Option Nat} {s1 : Int32} {s2 : Int32} (hS : Skel σ R) {qf104 q104 : (Nat → Nat → Int32) → (Int32) → (Int32) → (Int32) → (Option ((Nat → Nat → Int32)))} (hq104 : ∀ (I : Nat → Nat → Int32) (x1 : Int32) (x2 : Int32) (x3 : Int32), qf104 I x1 x2 x3 = q104 I x1 x2 x3) : fX12_countIn_b186 qf104 σ J D R 114 I x1 x2 x3 x4 x5 s0 s1 s2 = gX12_countIn_b186 q104 σ J D R I x1 x2 x3 x4 x5 s0 s1 s2 := by
  unfold fX12_countIn_b186 gX12_countIn_b186
  refine bb (fun a3 ha3 => ?_)
  refine bg (fun g4 => ?_)
  refine bg (fun g5 => ?_)
  refine sg (kq114 hS) ?_
  refine sb (rq114_91 hS) ?_
  refine bi (fun c => ?_) (fun c => ?_)
  · refine sg (kq170 hS) ?_
    refine bgr (by rw [lq170 hS]) (fun g7 => ?_)
    exact hq104 _ _ _ _
  · refine bi (fun c => ?_) (fun c => ?_)
    · try with_reducible refine sg (kq114 hS) ?_
      refine sg (kq170 hS) ?_
      refine bgr (by rw [lq170 hS]) (fun g13 => ?_)
      try with_reducible refine sg (kq170 hS) ?_
      try with_reducible refine sg (by rw [lq170 hS]; exact g13) ?_
      exact hq104 _ _ _ _
    · refine sg (kq170 hS) ?_
      refine bgr (by rw [lq170 hS]) (fun g10 => ?_)
      exact hq104 _ _ _ _
def gX12_countIn_b162 (q104 : (Nat → Nat → Int32) → (Int32) → (Int32) → (Int32) → (Option ((Nat → Nat → Int32)))) (σ : Shp) (J : Nat → Nat → Int64) (D : Nat → Nat → UInt64) (R : Nat → Nat → Option Nat) (I : Nat → Nat → Int32) (x1 : Int32) (x2 : Int32) (x3 : Int32) (x4 : Int32) (s0 : Int32) : Option ((Nat → Nat → Int32)) :=
  if s0 = 0 then
    gX12_countIn_b186 q104 σ J D R I x1 x2 x3 x4 s0 (some 169) x3 (0 : Int32)
  else
    if ¬ (x3 < 0 ∨ 9 ≤ Int32.toNatClampNeg x3) then
    gX12_countIn_b186 q104 σ J D R I x1 x2 x3 x4 s0 (some 169) x3 ((I 169 (Int32.toNatClampNeg x3)) + (1 : Int32))
    else none
theorem eX12_countIn_b162 {σ : Shp} {I : Nat → Nat → Int32} {J : Nat → Nat → Int64} {D : Nat → Nat → UInt64} {R : Nat → Nat → Option Nat} {x1 : Int32} {x2 : Int32} {x3 : Int32} {x4 : Int32} {s0 : Int32} (hS : Skel σ R) {qf104 q104 : (Nat → Nat → Int32) → (Int32) → (Int32) → (Int32) → (Option ((Nat → Nat → Int32)))} (hq104 : ∀ (I : Nat → Nat → Int32) (x1 : Int32) (x2 : Int32) (x3 : Int32), qf104 I x1 x2 x3 = q104 I x1 x2 x3) : fX12_countIn_b162 qf104 σ J D R 114 I x1 x2 x3 x4 s0 = gX12_countIn_b162 q104 σ J D R I x1 x2 x3 x4 s0 := by
  unfold fX12_countIn_b162 gX12_countIn_b162
  refine sg (kq114 hS) ?_
  refine sb (rq114_90 hS) ?_
  refine bi (fun c => ?_) (fun c => ?_)
  · exact eX12_countIn_b186 hS hq104
  · try with_reducible refine sg (kq114 hS) ?_
    refine sg (kq169 hS) ?_
    refine bgr (by rw [lq169 hS]) (fun g16 => ?_)
    exact eX12_countIn_b186 hS hq104
def gX12_countIn_b141 (q104 : (Nat → Nat → Int32) → (Int32) → (Int32) → (Int32) → (Option ((Nat → Nat → Int32)))) (σ : Shp) (J : Nat → Nat → Int64) (D : Nat → Nat → UInt64) (R : Nat → Nat → Option Nat) (I : Nat → Nat → Int32) (x1 : Int32) (x2 : Int32) (x3 : Int32) (s0 : Int32) : Option ((Nat → Nat → Int32)) :=
  if s0 = 0 then
    gX12_countIn_b162 q104 σ J D R I x1 x2 x3 s0 (0 : Int32)
  else
    (gX12_isOff J D x3 x1).bind fun r17 =>
    if r17 = 0 then
      gX12_countIn_b162 q104 σ J D R I x1 x2 x3 s0 (0 : Int32)
    else
      gX12_countIn_b162 q104 σ J D R I x1 x2 x3 s0 (1 : Int32)
theorem eX12_countIn_b141 {σ : Shp} {I : Nat → Nat → Int32} {J : Nat → Nat → Int64} {D : Nat → Nat → UInt64} {R : Nat → Nat → Option Nat} {x1 : Int32} {x2 : Int32} {x3 : Int32} {s0 : Int32} (hS : Skel σ R) {qf104 q104 : (Nat → Nat → Int32) → (Int32) → (Int32) → (Int32) → (Option ((Nat → Nat → Int32)))} (hq104 : ∀ (I : Nat → Nat → Int32) (x1 : Int32) (x2 : Int32) (x3 : Int32), qf104 I x1 x2 x3 = q104 I x1 x2 x3) : fX12_countIn_b141 qf104 σ J D R 114 I x1 x2 x3 s0 = gX12_countIn_b141 q104 σ J D R I x1 x2 x3 s0 := by
  unfold fX12_countIn_b141 gX12_countIn_b141
  refine bi (fun c => ?_) (fun c => ?_)
  · exact eX12_countIn_b162 hS hq104
  · refine sg (kq114 hS) ?_
    refine bc (eX12_isOff hS) (fun r17 hc18 => ?_)
    refine bi (fun c => ?_) (fun c => ?_)
    · exact eX12_countIn_b162 hS hq104
    · exact eX12_countIn_b162 hS hq104
def gX12_countIn_l104  (σ : Shp) (J : Nat → Nat → Int64) (D : Nat → Nat → UInt64) (R : Nat → Nat → Option Nat) : Nat → (Nat → Nat → Int32) → (Int32) → (Int32) → (Int32) → Option ((Nat → Nat → Int32))
  | 0, _, _, _, _ => none
  | n + 1, I, x1, x2, x3 =>
    if (9 : Int32) ≤ x3 then
      some I
    else
      (gX12_reads J x3).bind fun r1 =>
      if r1 = 0 then
        gX12_countIn_b141 (gX12_countIn_l104 σ J D R n) σ J D R I x1 x2 x3 (0 : Int32)
      else
        if x2 = (3 : Int32) then
          if ¬ (x1 < 0 ∨ 3 ≤ Int32.toNatClampNeg x1) then
          if (J 173 (Int32.toNatClampNeg x1)) = (9221120237041090560 : Int64) then
            gX12_countIn_b141 (gX12_countIn_l104 σ J D R n) σ J D R I x1 x2 x3 (0 : Int32)
          else
            gX12_countIn_b141 (gX12_countIn_l104 σ J D R n) σ J D R I x1 x2 x3 (1 : Int32)
          else none
        else
          gX12_countIn_b141 (gX12_countIn_l104 σ J D R n) σ J D R I x1 x2 x3 (0 : Int32)
theorem eX12_countIn_l104 {σ : Shp} {J : Nat → Nat → Int64} {D : Nat → Nat → UInt64} {R : Nat → Nat → Option Nat} (hS : Skel σ R) : ∀ (n : Nat) (I : Nat → Nat → Int32) (x1 : Int32) (x2 : Int32) (x3 : Int32), fX12_countIn_l104 σ J D R 114 n I x1 x2 x3 = gX12_countIn_l104 σ J D R n I x1 x2 x3 := by
  intro n
  induction n with
  | zero => intro I x1 x2 x3; rfl
  | succ n ih =>
    intro I x1 x2 x3
    rw [fX12_countIn_l104, gX12_countIn_l104]
    refine bi (fun c => ?_) (fun c => ?_)
    · rfl
    · refine sg (kq114 hS) ?_
      refine bc (eX12_reads hS) (fun r1 hc2 => ?_)
      refine bi (fun c => ?_) (fun c => ?_)
      · exact eX12_countIn_b141 hS ih
      · refine bi (fun c => ?_) (fun c => ?_)
        · try with_reducible refine sg (kq114 hS) ?_
          refine sb (rq114_95 hS) ?_
          refine sg (kq173 hS) ?_
          refine bgr (by rw [lq173 hS]) (fun g19 => ?_)
          refine bi (fun c => ?_) (fun c => ?_)
          · exact eX12_countIn_b141 hS ih
          · exact eX12_countIn_b141 hS ih
        · exact eX12_countIn_b141 hS ih
def gX12_countIn_b60 (q4 : (Nat → Nat → Int32) → (Int32) → (Int32) → (Int32) → (Option ((Nat → Nat → Int32)))) (σ : Shp) (J : Nat → Nat → Int64) (D : Nat → Nat → UInt64) (R : Nat → Nat → Option Nat) (I : Nat → Nat → Int32) (x1 : Int32) (x2 : Int32) (x3 : Int32) (s0 : Option Nat) (s1 : Int32) (s2 : Int32) : Option ((Nat → Nat → Int32)) :=
  (s0 : Option Nat).bind fun a23 =>
  if kdx σ a23 = 24 then
  if ¬ (s1 < 0 ∨ lnx σ a23 ≤ Int32.toNatClampNeg s1) then
  let I26 := u2 I a23 (Int32.toNatClampNeg s1) (vp_nar .boolean s2)
  if (I26 114 85) ≤ (1 : Int32) then
    if ¬ (x3 < 0 ∨ 9 ≤ Int32.toNatClampNeg x3) then
    let I28 := u2 I26 171 (Int32.toNatClampNeg x3) (1 : Int32)
    let v29 := x3 + (3 : Int32)
    q4 I28 x1 x2 v29
    else none
  else
    if ¬ (x3 < 0 ∨ 9 ≤ Int32.toNatClampNeg x3) then
    if (I26 172 (Int32.toNatClampNeg x3)) = 0 then
      if ¬ (x3 < 0 ∨ 9 ≤ Int32.toNatClampNeg x3) then
      let I35 := u2 I26 171 (Int32.toNatClampNeg x3) ((I26 171 (Int32.toNatClampNeg x3)) + (1 : Int32))
      let v36 := x3 + (3 : Int32)
      q4 I35 x1 x2 v36
      else none
    else
      if ¬ (x3 < 0 ∨ 9 ≤ Int32.toNatClampNeg x3) then
      let I32 := u2 I26 171 (Int32.toNatClampNeg x3) (1 : Int32)
      let v33 := x3 + (3 : Int32)
      q4 I32 x1 x2 v33
      else none
    else none
  else none
  else none
theorem eX12_countIn_b60 {σ : Shp} {I : Nat → Nat → Int32} {J : Nat → Nat → Int64} {D : Nat → Nat → UInt64} {R : Nat → Nat → Option Nat} {x1 : Int32} {x2 : Int32} {x3 : Int32} {s0 : Option Nat} {s1 : Int32} {s2 : Int32} (hS : Skel σ R) {qf4 q4 : (Nat → Nat → Int32) → (Int32) → (Int32) → (Int32) → (Option ((Nat → Nat → Int32)))} (hq4 : ∀ (I : Nat → Nat → Int32) (x1 : Int32) (x2 : Int32) (x3 : Int32), qf4 I x1 x2 x3 = q4 I x1 x2 x3) : fX12_countIn_b60 qf4 σ J D R 114 I x1 x2 x3 s0 s1 s2 = gX12_countIn_b60 q4 σ J D R I x1 x2 x3 s0 s1 s2 := by
  unfold fX12_countIn_b60 gX12_countIn_b60
  refine bb (fun a23 ha23 => ?_)
  refine bg (fun g24 => ?_)
  refine bg (fun g25 => ?_)
  refine sg (kq114 hS) ?_
  refine sb (rq114_92 hS) ?_
  try with_reducible refine sg (kq114 hS) ?_
  refine bi (fun c => ?_) (fun c => ?_)
  · refine sg (kq171 hS) ?_
    refine bgr (by rw [lq171 hS]) (fun g27 => ?_)
    exact hq4 _ _ _ _
  · try with_reducible refine sg (kq114 hS) ?_
    refine sb (rq114_93 hS) ?_
    refine sg (kq172 hS) ?_
    refine bgr (by rw [lq172 hS]) (fun g30 => ?_)
    refine bi (fun c => ?_) (fun c => ?_)
    · try with_reducible refine sg (kq114 hS) ?_
      refine sg (kq171 hS) ?_
      refine bgr (by rw [lq171 hS]) (fun g34 => ?_)
      try with_reducible refine sg (kq171 hS) ?_
      try with_reducible refine sg (by rw [lq171 hS]; exact g34) ?_
      exact hq4 _ _ _ _
    · refine sg (kq171 hS) ?_
      refine bgr (by rw [lq171 hS]) (fun g31 => ?_)
      exact hq4 _ _ _ _
def gX12_countIn_b24 (q4 : (Nat → Nat → Int32) → (Int32) → (Int32) → (Int32) → (Option ((Nat → Nat → Int32)))) (σ : Shp) (J : Nat → Nat → Int64) (D : Nat → Nat → UInt64) (R : Nat → Nat → Option Nat) (I : Nat → Nat → Int32) (x1 : Int32) (x3 : Int32) (s0 : Int32) (s1 : Int32) : Option ((Nat → Nat → Int32)) :=
  let v22 := (s0 + s1)
  if (I 114 85) ≤ (1 : Int32) then
    gX12_countIn_b60 q4 σ J D R I x1 v22 x3 (some 172) x3 (0 : Int32)
  else
    if ¬ (x3 < 0 ∨ 9 ≤ Int32.toNatClampNeg x3) then
    if ¬ (x3 < 0 ∨ 9 ≤ Int32.toNatClampNeg x3) then
    if (J 165 (Int32.toNatClampNeg x3)) = (J 166 (Int32.toNatClampNeg x3)) then
      gX12_countIn_b60 q4 σ J D R I x1 v22 x3 (some 172) x3 (0 : Int32)
    else
      gX12_countIn_b60 q4 σ J D R I x1 v22 x3 (some 172) x3 (1 : Int32)
    else none
    else none
theorem eX12_countIn_b24 {σ : Shp} {I : Nat → Nat → Int32} {J : Nat → Nat → Int64} {D : Nat → Nat → UInt64} {R : Nat → Nat → Option Nat} {x1 : Int32} {x3 : Int32} {s0 : Int32} {s1 : Int32} (hS : Skel σ R) {qf4 q4 : (Nat → Nat → Int32) → (Int32) → (Int32) → (Int32) → (Option ((Nat → Nat → Int32)))} (hq4 : ∀ (I : Nat → Nat → Int32) (x1 : Int32) (x2 : Int32) (x3 : Int32), qf4 I x1 x2 x3 = q4 I x1 x2 x3) : fX12_countIn_b24 qf4 σ J D R 114 I x1 x3 s0 s1 = gX12_countIn_b24 q4 σ J D R I x1 x3 s0 s1 := by
  unfold fX12_countIn_b24 gX12_countIn_b24
  refine sg (kq114 hS) ?_
  refine sb (rq114_93 hS) ?_
  try with_reducible refine sg (kq114 hS) ?_
  refine bi (fun c => ?_) (fun c => ?_)
  · exact eX12_countIn_b60 hS hq4
  · try with_reducible refine sg (kq114 hS) ?_
    refine sb (rq114_86 hS) ?_
    refine sg (kq165 hS) ?_
    refine bgr (by rw [lq165 hS]) (fun g37 => ?_)
    try with_reducible refine sg (kq114 hS) ?_
    refine sb (rq114_87 hS) ?_
    refine sg (kq166 hS) ?_
    refine bgr (by rw [lq166 hS]) (fun g38 => ?_)
    refine bi (fun c => ?_) (fun c => ?_)
    · exact eX12_countIn_b60 hS hq4
    · exact eX12_countIn_b60 hS hq4
def gX12_countIn_l4  (σ : Shp) (J : Nat → Nat → Int64) (D : Nat → Nat → UInt64) (R : Nat → Nat → Option Nat) : Nat → (Nat → Nat → Int32) → (Int32) → (Int32) → (Int32) → Option ((Nat → Nat → Int32))
  | 0, _, _, _, _ => none
  | n + 1, I, x1, x2, x3 =>
    if (9 : Int32) ≤ x3 then
      gX12_countIn_l104 σ J D R FUx I x1 x2 x1
    else
      (gX12_reads J x3).bind fun r20 =>
      if r20 = 0 then
        gX12_countIn_b24 (gX12_countIn_l4 σ J D R n) σ J D R I x1 x3 x2 (0 : Int32)
      else
        gX12_countIn_b24 (gX12_countIn_l4 σ J D R n) σ J D R I x1 x3 x2 (1 : Int32)
theorem eX12_countIn_l4 {σ : Shp} {J : Nat → Nat → Int64} {D : Nat → Nat → UInt64} {R : Nat → Nat → Option Nat} (hS : Skel σ R) : ∀ (n : Nat) (I : Nat → Nat → Int32) (x1 : Int32) (x2 : Int32) (x3 : Int32), fX12_countIn_l4 σ J D R 114 n I x1 x2 x3 = gX12_countIn_l4 σ J D R n I x1 x2 x3 := by
  intro n
  induction n with
  | zero => intro I x1 x2 x3; rfl
  | succ n ih =>
    intro I x1 x2 x3
    rw [fX12_countIn_l4, gX12_countIn_l4]
    refine bi (fun c => ?_) (fun c => ?_)
    · exact eX12_countIn_l104 hS _ _ _ _ _
    · refine sg (kq114 hS) ?_
      refine bc (eX12_reads hS) (fun r20 hc21 => ?_)
      refine bi (fun c => ?_) (fun c => ?_)
      · exact eX12_countIn_b24 hS ih
      · exact eX12_countIn_b24 hS ih
def gX12_countIn (σ : Shp) (I : Nat → Nat → Int32) (J : Nat → Nat → Int64) (D : Nat → Nat → UInt64) (R : Nat → Nat → Option Nat) (x1 : Int32) : Option ((Nat → Nat → Int32)) :=
  gX12_countIn_l4 σ J D R FUx I x1 (0 : Int32) x1
theorem eX12_countIn {σ : Shp} {I : Nat → Nat → Int32} {J : Nat → Nat → Int64} {D : Nat → Nat → UInt64} {R : Nat → Nat → Option Nat} {x1 : Int32} (hS : Skel σ R) : fX12_countIn σ I J D R 114 x1 = gX12_countIn σ I J D R x1 := by
  unfold fX12_countIn gX12_countIn
  exact eX12_countIn_l4 hS _ _ _ _ _
def gX12_vote_l219  (σ : Shp) (D : Nat → Nat → UInt64) (R : Nat → Nat → Option Nat) : Nat → (Nat → Nat → Int32) → (Nat → Nat → Int64) → (Int32) → Option ((Nat → Nat → Int32) × (Nat → Nat → Int64))
  | 0, _, _, _ => none
  | n + 1, I, J, x2 =>
    if (9 : Int32) ≤ x2 then
      some (I, J)
    else
      if ¬ (x2 < 0 ∨ 9 ≤ Int32.toNatClampNeg x2) then
      if ¬ (x2 < 0 ∨ 9 ≤ Int32.toNatClampNeg x2) then
      let J7 := u2 J 166 (Int32.toNatClampNeg x2) (J 165 (Int32.toNatClampNeg x2))
      let v8 := x2 + (3 : Int32)
      gX12_vote_l219 σ D R n I J7 v8
      else none
      else none
theorem eX12_vote_l219 {σ : Shp} {D : Nat → Nat → UInt64} {R : Nat → Nat → Option Nat} (hS : Skel σ R) : ∀ (n : Nat) (I : Nat → Nat → Int32) (J : Nat → Nat → Int64) (x2 : Int32), fX12_vote_l219 σ D R 114 n I J x2 = gX12_vote_l219 σ D R n I J x2 := by
  intro n
  induction n with
  | zero => intro I J x2; rfl
  | succ n ih =>
    intro I J x2
    rw [fX12_vote_l219, gX12_vote_l219]
    refine bi (fun c => ?_) (fun c => ?_)
    · rfl
    · refine sg (kq114 hS) ?_
      refine sb (rq114_87 hS) ?_
      try with_reducible refine sg (kq114 hS) ?_
      refine sb (rq114_86 hS) ?_
      refine sg (kq165 hS) ?_
      refine bgr (by rw [lq165 hS]) (fun g5 => ?_)
      refine sg (kq166 hS) ?_
      refine bgr (by rw [lq166 hS]) (fun g6 => ?_)
      exact ih _ _ _
def gX12_vote_b164 (q12 : (Nat → Nat → Int32) → (Nat → Nat → Int64) → (Int32) → (Int32) → (Option ((Nat → Nat → Int32) × (Nat → Nat → Int64)))) (σ : Shp) (D : Nat → Nat → UInt64) (R : Nat → Nat → Option Nat) (I : Nat → Nat → Int32) (J : Nat → Nat → Int64) (x1 : Int32) (x2 : Int32) (x4 : Int32) (x5 : Int32) : Option ((Nat → Nat → Int32) × (Nat → Nat → Int64)) :=
  if ¬ (x2 < 0 ∨ 9 ≤ Int32.toNatClampNeg x2) then
  let I12 := u2 I 167 (Int32.toNatClampNeg x2) (vp_nar .boolean x5)
  if x4 = 0 then
    if x5 = 0 then
      if ¬ (x2 < 0 ∨ 9 ≤ Int32.toNatClampNeg x2) then
      let I14 := u2 I12 168 (Int32.toNatClampNeg x2) (0 : Int32)
      if ¬ (x2 < 0 ∨ 9 ≤ Int32.toNatClampNeg x2) then
      let I16 := u2 I14 169 (Int32.toNatClampNeg x2) (0 : Int32)
      if ¬ (x2 < 0 ∨ 9 ≤ Int32.toNatClampNeg x2) then
      let I18 := u2 I16 170 (Int32.toNatClampNeg x2) (0 : Int32)
      let v19 := x2 + (3 : Int32)
      q12 I18 J x1 v19
      else none
      else none
      else none
    else
      if ¬ (x2 < 0 ∨ 9 ≤ Int32.toNatClampNeg x2) then
      let I21 := u2 I12 168 (Int32.toNatClampNeg x2) (1 : Int32)
      if ¬ (x2 < 0 ∨ 9 ≤ Int32.toNatClampNeg x2) then
      let I23 := u2 I21 169 (Int32.toNatClampNeg x2) (0 : Int32)
      if ¬ (x2 < 0 ∨ 9 ≤ Int32.toNatClampNeg x2) then
      let I25 := u2 I23 170 (Int32.toNatClampNeg x2) (0 : Int32)
      let v26 := x2 + (3 : Int32)
      q12 I25 J x1 v26
      else none
      else none
      else none
  else
    if ¬ (x2 < 0 ∨ 9 ≤ Int32.toNatClampNeg x2) then
    let I28 := u2 I12 168 (Int32.toNatClampNeg x2) (2 : Int32)
    if ¬ (x2 < 0 ∨ 9 ≤ Int32.toNatClampNeg x2) then
    let I30 := u2 I28 169 (Int32.toNatClampNeg x2) (0 : Int32)
    if ¬ (x2 < 0 ∨ 9 ≤ Int32.toNatClampNeg x2) then
    let I32 := u2 I30 170 (Int32.toNatClampNeg x2) (0 : Int32)
    let v33 := x2 + (3 : Int32)
    q12 I32 J x1 v33
    else none
    else none
    else none
  else none
theorem eX12_vote_b164 {σ : Shp} {I : Nat → Nat → Int32} {J : Nat → Nat → Int64} {D : Nat → Nat → UInt64} {R : Nat → Nat → Option Nat} {x1 : Int32} {x2 : Int32} {x4 : Int32} {x5 : Int32} (hS : Skel σ R) {qf12 q12 : (Nat → Nat → Int32) → (Nat → Nat → Int64) → (Int32) → (Int32) → (Option ((Nat → Nat → Int32) × (Nat → Nat → Int64)))} (hq12 : ∀ (I : Nat → Nat → Int32) (J : Nat → Nat → Int64) (x1 : Int32) (x2 : Int32), qf12 I J x1 x2 = q12 I J x1 x2) : fX12_vote_b164 qf12 σ D R 114 I J x1 x2 x4 x5 = gX12_vote_b164 q12 σ D R I J x1 x2 x4 x5 := by
  unfold fX12_vote_b164 gX12_vote_b164
  refine sg (kq114 hS) ?_
  refine sb (rq114_88 hS) ?_
  refine sg (kq167 hS) ?_
  refine bgr (by rw [lq167 hS]) (fun g11 => ?_)
  try with_reducible refine sg (kq114 hS) ?_
  refine sb (rq114_89 hS) ?_
  refine bi (fun c => ?_) (fun c => ?_)
  · refine bi (fun c => ?_) (fun c => ?_)
    · refine sg (kq168 hS) ?_
      refine bgr (by rw [lq168 hS]) (fun g13 => ?_)
      try with_reducible refine sg (kq114 hS) ?_
      refine sb (rq114_90 hS) ?_
      refine sg (kq169 hS) ?_
      refine bgr (by rw [lq169 hS]) (fun g15 => ?_)
      try with_reducible refine sg (kq114 hS) ?_
      refine sb (rq114_91 hS) ?_
      refine sg (kq170 hS) ?_
      refine bgr (by rw [lq170 hS]) (fun g17 => ?_)
      exact hq12 _ _ _ _
    · refine sg (kq168 hS) ?_
      refine bgr (by rw [lq168 hS]) (fun g20 => ?_)
      try with_reducible refine sg (kq114 hS) ?_
      refine sb (rq114_90 hS) ?_
      refine sg (kq169 hS) ?_
      refine bgr (by rw [lq169 hS]) (fun g22 => ?_)
      try with_reducible refine sg (kq114 hS) ?_
      refine sb (rq114_91 hS) ?_
      refine sg (kq170 hS) ?_
      refine bgr (by rw [lq170 hS]) (fun g24 => ?_)
      exact hq12 _ _ _ _
  · refine sg (kq168 hS) ?_
    refine bgr (by rw [lq168 hS]) (fun g27 => ?_)
    try with_reducible refine sg (kq114 hS) ?_
    refine sb (rq114_90 hS) ?_
    refine sg (kq169 hS) ?_
    refine bgr (by rw [lq169 hS]) (fun g29 => ?_)
    try with_reducible refine sg (kq114 hS) ?_
    refine sb (rq114_91 hS) ?_
    refine sg (kq170 hS) ?_
    refine bgr (by rw [lq170 hS]) (fun g31 => ?_)
    exact hq12 _ _ _ _
def gX12_vote_b121 (q12 : (Nat → Nat → Int32) → (Nat → Nat → Int64) → (Int32) → (Int32) → (Option ((Nat → Nat → Int32) × (Nat → Nat → Int64)))) (σ : Shp) (D : Nat → Nat → UInt64) (R : Nat → Nat → Option Nat) (I : Nat → Nat → Int32) (J : Nat → Nat → Int64) (x1 : Int32) (x2 : Int32) (x4 : Int32) (s0 : Int32) : Option ((Nat → Nat → Int32) × (Nat → Nat → Int64)) :=
  if s0 = 0 then
    if ¬ (x2 < 0 ∨ 9 ≤ Int32.toNatClampNeg x2) then
    if (I 167 (Int32.toNatClampNeg x2)) = 0 then
      if s0 = 0 then
        if (0 : Int32) = 0 then
          let v36 := x2 + (3 : Int32)
          q12 I J x1 v36
        else
          gX12_vote_b164 q12 σ D R I J x1 x2 x4 s0
      else
        gX12_vote_b164 q12 σ D R I J x1 x2 x4 s0
    else
      if ¬ (x2 < 0 ∨ 9 ≤ Int32.toNatClampNeg x2) then
      if (I 170 (Int32.toNatClampNeg x2)) < (5 : Int32) then
        if s0 = 0 then
          if (0 : Int32) = 0 then
            let v38 := x2 + (3 : Int32)
            q12 I J x1 v38
          else
            gX12_vote_b164 q12 σ D R I J x1 x2 x4 s0
        else
          gX12_vote_b164 q12 σ D R I J x1 x2 x4 s0
      else
        if s0 = 0 then
          if (1 : Int32) = 0 then
            let v39 := x2 + (3 : Int32)
            q12 I J x1 v39
          else
            gX12_vote_b164 q12 σ D R I J x1 x2 x4 s0
        else
          gX12_vote_b164 q12 σ D R I J x1 x2 x4 s0
      else none
    else none
  else
    if s0 = 0 then
      if (0 : Int32) = 0 then
        let v34 := x2 + (3 : Int32)
        q12 I J x1 v34
      else
        gX12_vote_b164 q12 σ D R I J x1 x2 x4 s0
    else
      gX12_vote_b164 q12 σ D R I J x1 x2 x4 s0
theorem eX12_vote_b121 {σ : Shp} {I : Nat → Nat → Int32} {J : Nat → Nat → Int64} {D : Nat → Nat → UInt64} {R : Nat → Nat → Option Nat} {x1 : Int32} {x2 : Int32} {x4 : Int32} {s0 : Int32} (hS : Skel σ R) {qf12 q12 : (Nat → Nat → Int32) → (Nat → Nat → Int64) → (Int32) → (Int32) → (Option ((Nat → Nat → Int32) × (Nat → Nat → Int64)))} (hq12 : ∀ (I : Nat → Nat → Int32) (J : Nat → Nat → Int64) (x1 : Int32) (x2 : Int32), qf12 I J x1 x2 = q12 I J x1 x2) : fX12_vote_b121 qf12 σ D R 114 I J x1 x2 x4 s0 = gX12_vote_b121 q12 σ D R I J x1 x2 x4 s0 := by
  unfold fX12_vote_b121 gX12_vote_b121
  refine bi (fun c => ?_) (fun c => ?_)
  · refine sg (kq114 hS) ?_
    refine sb (rq114_88 hS) ?_
    refine sg (kq167 hS) ?_
    refine bgr (by rw [lq167 hS]) (fun g35 => ?_)
    refine bi (fun c => ?_) (fun c => ?_)
    · refine bi (fun c => ?_) (fun c => ?_)
      · refine bi (fun c => ?_) (fun c => ?_)
        · exact hq12 _ _ _ _
        · exact eX12_vote_b164 hS hq12
      · exact eX12_vote_b164 hS hq12
    · try with_reducible refine sg (kq114 hS) ?_
      refine sb (rq114_91 hS) ?_
      refine sg (kq170 hS) ?_
      refine bgr (by rw [lq170 hS]) (fun g37 => ?_)
      refine bi (fun c => ?_) (fun c => ?_)
      · refine bi (fun c => ?_) (fun c => ?_)
        · refine bi (fun c => ?_) (fun c => ?_)
          · exact hq12 _ _ _ _
          · exact eX12_vote_b164 hS hq12
        · exact eX12_vote_b164 hS hq12
      · refine bi (fun c => ?_) (fun c => ?_)
        · refine bi (fun c => ?_) (fun c => ?_)
          · exact hq12 _ _ _ _
          · exact eX12_vote_b164 hS hq12
        · exact eX12_vote_b164 hS hq12
  · refine bi (fun c => ?_) (fun c => ?_)
    · refine bi (fun c => ?_) (fun c => ?_)
      · exact hq12 _ _ _ _
      · exact eX12_vote_b164 hS hq12
    · exact eX12_vote_b164 hS hq12
def gX12_vote_b90 (q12 : (Nat → Nat → Int32) → (Nat → Nat → Int64) → (Int32) → (Int32) → (Option ((Nat → Nat → Int32) × (Nat → Nat → Int64)))) (σ : Shp) (D : Nat → Nat → UInt64) (R : Nat → Nat → Option Nat) (I : Nat → Nat → Int32) (J : Nat → Nat → Int64) (x1 : Int32) (x2 : Int32) (s0 : Int32) : Option ((Nat → Nat → Int32) × (Nat → Nat → Int64)) :=
  if s0 = 0 then
    if ¬ (x2 < 0 ∨ 9 ≤ Int32.toNatClampNeg x2) then
    if (I 167 (Int32.toNatClampNeg x2)) = 0 then
      if ¬ (x2 < 0 ∨ 9 ≤ Int32.toNatClampNeg x2) then
      if (I 169 (Int32.toNatClampNeg x2)) < (3 : Int32) then
        gX12_vote_b121 q12 σ D R I J x1 x2 s0 (0 : Int32)
      else
        gX12_vote_b121 q12 σ D R I J x1 x2 s0 (1 : Int32)
      else none
    else
      gX12_vote_b121 q12 σ D R I J x1 x2 s0 (0 : Int32)
    else none
  else
    gX12_vote_b121 q12 σ D R I J x1 x2 s0 (1 : Int32)
theorem eX12_vote_b90 {σ : Shp} {I : Nat → Nat → Int32} {J : Nat → Nat → Int64} {D : Nat → Nat → UInt64} {R : Nat → Nat → Option Nat} {x1 : Int32} {x2 : Int32} {s0 : Int32} (hS : Skel σ R) {qf12 q12 : (Nat → Nat → Int32) → (Nat → Nat → Int64) → (Int32) → (Int32) → (Option ((Nat → Nat → Int32) × (Nat → Nat → Int64)))} (hq12 : ∀ (I : Nat → Nat → Int32) (J : Nat → Nat → Int64) (x1 : Int32) (x2 : Int32), qf12 I J x1 x2 = q12 I J x1 x2) : fX12_vote_b90 qf12 σ D R 114 I J x1 x2 s0 = gX12_vote_b90 q12 σ D R I J x1 x2 s0 := by
  unfold fX12_vote_b90 gX12_vote_b90
  refine bi (fun c => ?_) (fun c => ?_)
  · refine sg (kq114 hS) ?_
    refine sb (rq114_88 hS) ?_
    refine sg (kq167 hS) ?_
    refine bgr (by rw [lq167 hS]) (fun g40 => ?_)
    refine bi (fun c => ?_) (fun c => ?_)
    · try with_reducible refine sg (kq114 hS) ?_
      refine sb (rq114_90 hS) ?_
      refine sg (kq169 hS) ?_
      refine bgr (by rw [lq169 hS]) (fun g41 => ?_)
      refine bi (fun c => ?_) (fun c => ?_)
      · exact eX12_vote_b121 hS hq12
      · exact eX12_vote_b121 hS hq12
    · exact eX12_vote_b121 hS hq12
  · exact eX12_vote_b121 hS hq12
def gX12_vote_l23 (q12 : (Nat → Nat → Int32) → (Nat → Nat → Int64) → (Int32) → (Int32) → (Option ((Nat → Nat → Int32) × (Nat → Nat → Int64)))) (σ : Shp) (D : Nat → Nat → UInt64) (R : Nat → Nat → Option Nat) : Nat → (Nat → Nat → Int32) → (Nat → Nat → Int64) → (Int32) → (Int32) → (Int32) → (Int32) → Option ((Nat → Nat → Int32) × (Nat → Nat → Int64))
  | 0, _, _, _, _, _, _ => none
  | n + 1, I, J, x1, x2, x3, x4 =>
    if (9 : Int32) ≤ x4 then
      (gX12_reads J x2).bind fun r9 =>
      if r9 = 0 then
        gX12_vote_b90 q12 σ D R I J x1 x2 (0 : Int32)
      else
        if ¬ (x2 < 0 ∨ 9 ≤ Int32.toNatClampNeg x2) then
        if (I 171 (Int32.toNatClampNeg x2)) < (8 : Int32) then
          gX12_vote_b90 q12 σ D R I J x1 x2 (0 : Int32)
        else
          if x3 = 0 then
            gX12_vote_b90 q12 σ D R I J x1 x2 (0 : Int32)
          else
            gX12_vote_b90 q12 σ D R I J x1 x2 (1 : Int32)
        else none
    else
      if x3 = 0 then
        if x4 = x2 then
          let v44 := x4 + (3 : Int32)
          gX12_vote_l23 q12 σ D R n I J x1 x2 (0 : Int32) v44
        else
          if ¬ (x4 < 0 ∨ 9 ≤ Int32.toNatClampNeg x4) then
          if (I 172 (Int32.toNatClampNeg x4)) = 0 then
            let v46 := x4 + (3 : Int32)
            gX12_vote_l23 q12 σ D R n I J x1 x2 (0 : Int32) v46
          else
            let v47 := x4 + (3 : Int32)
            gX12_vote_l23 q12 σ D R n I J x1 x2 (1 : Int32) v47
          else none
      else
        let v43 := x4 + (3 : Int32)
        gX12_vote_l23 q12 σ D R n I J x1 x2 (1 : Int32) v43
theorem eX12_vote_l23 {σ : Shp} {D : Nat → Nat → UInt64} {R : Nat → Nat → Option Nat} (hS : Skel σ R) {qf12 q12 : (Nat → Nat → Int32) → (Nat → Nat → Int64) → (Int32) → (Int32) → (Option ((Nat → Nat → Int32) × (Nat → Nat → Int64)))} (hq12 : ∀ (I : Nat → Nat → Int32) (J : Nat → Nat → Int64) (x1 : Int32) (x2 : Int32), qf12 I J x1 x2 = q12 I J x1 x2) : ∀ (n : Nat) (I : Nat → Nat → Int32) (J : Nat → Nat → Int64) (x1 : Int32) (x2 : Int32) (x3 : Int32) (x4 : Int32), fX12_vote_l23 qf12 σ D R 114 n I J x1 x2 x3 x4 = gX12_vote_l23 q12 σ D R n I J x1 x2 x3 x4 := by
  intro n
  induction n with
  | zero => intro I J x1 x2 x3 x4; rfl
  | succ n ih =>
    intro I J x1 x2 x3 x4
    rw [fX12_vote_l23, gX12_vote_l23]
    refine bi (fun c => ?_) (fun c => ?_)
    · refine sg (kq114 hS) ?_
      refine bc (eX12_reads hS) (fun r9 hc10 => ?_)
      refine bi (fun c => ?_) (fun c => ?_)
      · exact eX12_vote_b90 hS hq12
      · try with_reducible refine sg (kq114 hS) ?_
        refine sb (rq114_92 hS) ?_
        refine sg (kq171 hS) ?_
        refine bgr (by rw [lq171 hS]) (fun g42 => ?_)
        refine bi (fun c => ?_) (fun c => ?_)
        · exact eX12_vote_b90 hS hq12
        · refine bi (fun c => ?_) (fun c => ?_)
          · exact eX12_vote_b90 hS hq12
          · exact eX12_vote_b90 hS hq12
    · refine bi (fun c => ?_) (fun c => ?_)
      · refine bi (fun c => ?_) (fun c => ?_)
        · exact ih _ _ _ _ _ _
        · refine sg (kq114 hS) ?_
          refine sb (rq114_93 hS) ?_
          refine sg (kq172 hS) ?_
          refine bgr (by rw [lq172 hS]) (fun g45 => ?_)
          refine bi (fun c => ?_) (fun c => ?_)
          · exact ih _ _ _ _ _ _
          · exact ih _ _ _ _ _ _
      · exact ih _ _ _ _ _ _
def gX12_vote_l12  (σ : Shp) (D : Nat → Nat → UInt64) (R : Nat → Nat → Option Nat) : Nat → (Nat → Nat → Int32) → (Nat → Nat → Int64) → (Int32) → (Int32) → Option ((Nat → Nat → Int32) × (Nat → Nat → Int64))
  | 0, _, _, _, _ => none
  | n + 1, I, J, x1, x2 =>
    if (9 : Int32) ≤ x2 then
      gX12_vote_l219 σ D R FUx I J x1
    else
      gX12_vote_l23 (gX12_vote_l12 σ D R n) σ D R FUx I J x1 x2 (0 : Int32) x1
theorem eX12_vote_l12 {σ : Shp} {D : Nat → Nat → UInt64} {R : Nat → Nat → Option Nat} (hS : Skel σ R) : ∀ (n : Nat) (I : Nat → Nat → Int32) (J : Nat → Nat → Int64) (x1 : Int32) (x2 : Int32), fX12_vote_l12 σ D R 114 n I J x1 x2 = gX12_vote_l12 σ D R n I J x1 x2 := by
  intro n
  induction n with
  | zero => intro I J x1 x2; rfl
  | succ n ih =>
    intro I J x1 x2
    rw [fX12_vote_l12, gX12_vote_l12]
    refine bi (fun c => ?_) (fun c => ?_)
    · exact eX12_vote_l219 hS _ _ _ _
    · exact eX12_vote_l23 hS ih _ _ _ _ _ _ _
def gX12_vote (σ : Shp) (I : Nat → Nat → Int32) (J : Nat → Nat → Int64) (D : Nat → Nat → UInt64) (R : Nat → Nat → Option Nat) (x1 : Int32) : Option ((Nat → Nat → Int32) × (Nat → Nat → Int64)) :=
  (gX12_find σ I J R x1).bind fun J1 =>
  (gX12_countIn σ I J1 D R x1).bind fun I3 =>
  gX12_vote_l12 σ D R FUx I3 J1 x1 x1
theorem eX12_vote {σ : Shp} {I : Nat → Nat → Int32} {J : Nat → Nat → Int64} {D : Nat → Nat → UInt64} {R : Nat → Nat → Option Nat} {x1 : Int32} (hS : Skel σ R) : fX12_vote σ I J D R 114 x1 = gX12_vote σ I J D R x1 := by
  unfold fX12_vote gX12_vote
  refine sg (kq114 hS) ?_
  refine bc (eX12_find hS) (fun J1 hc2 => ?_)
  try with_reducible refine sg (kq114 hS) ?_
  refine bc (eX12_countIn hS) (fun I3 hc4 => ?_)
  exact eX12_vote_l12 hS _ _ _ _ _
def gX12_weather_b59  (σ : Shp) (R : Nat → Nat → Option Nat) (I : Nat → Nat → Int32) (x1 : Int32) (x2 : Int32) (x3 : Int32) (s0 : Int32) : Option ((Nat → Nat → Int32) × (Int32)) :=
  if (fX12_in x2 x3 s0) = 0 then
    some (I, (-100000 : Int32))
  else
    if ¬ (x1 < 0 ∨ 5 ≤ Int32.toNatClampNeg x1) then
    let v2 := (I 174 (Int32.toNatClampNeg x1))
    let I3 := u2 I 174 (Int32.toNatClampNeg x1) x2
    some (I3, v2)
    else none
theorem eX12_weather_b59 {σ : Shp} {I : Nat → Nat → Int32} {R : Nat → Nat → Option Nat} {x1 : Int32} {x2 : Int32} {x3 : Int32} {s0 : Int32} (hS : Skel σ R) : fX12_weather_b59 σ R 114 I x1 x2 x3 s0 = gX12_weather_b59 σ R I x1 x2 x3 s0 := by
  unfold fX12_weather_b59 gX12_weather_b59
  refine bi (fun c => ?_) (fun c => ?_)
  · rfl
  · refine sg (kq114 hS) ?_
    refine sb (rq114_96 hS) ?_
    refine sg (kq174 hS) ?_
    refine bgr (by rw [lq174 hS]) (fun g1 => ?_)
    try with_reducible refine sg (kq114 hS) ?_
    try with_reducible refine sg (kq174 hS) ?_
    try with_reducible refine sg (by rw [lq174 hS]; exact g1) ?_
    rfl
def gX12_weather_b25  (σ : Shp) (R : Nat → Nat → Option Nat) (I : Nat → Nat → Int32) (x1 : Int32) (x2 : Int32) (s0 : Int32) : Option ((Nat → Nat → Int32) × (Int32)) :=
  if x1 = 0 then
    gX12_weather_b59 σ R I x1 x2 s0 (1000 : Int32)
  else
    if x1 = (1 : Int32) then
      gX12_weather_b59 σ R I x1 x2 s0 (60000 : Int32)
    else
      if x1 = (2 : Int32) then
        gX12_weather_b59 σ R I x1 x2 s0 (40000 : Int32)
      else
        gX12_weather_b59 σ R I x1 x2 s0 (1 : Int32)
theorem eX12_weather_b25 {σ : Shp} {I : Nat → Nat → Int32} {R : Nat → Nat → Option Nat} {x1 : Int32} {x2 : Int32} {s0 : Int32} (hS : Skel σ R) : fX12_weather_b25 σ R 114 I x1 x2 s0 = gX12_weather_b25 σ R I x1 x2 s0 := by
  unfold fX12_weather_b25 gX12_weather_b25
  refine bi (fun c => ?_) (fun c => ?_)
  · exact eX12_weather_b59 hS
  · refine bi (fun c => ?_) (fun c => ?_)
    · exact eX12_weather_b59 hS
    · refine bi (fun c => ?_) (fun c => ?_)
      · exact eX12_weather_b59 hS
      · exact eX12_weather_b59 hS
def gX12_weather (σ : Shp) (I : Nat → Nat → Int32) (R : Nat → Nat → Option Nat) (x1 : Int32) (x2 : Int32) : Option ((Nat → Nat → Int32) × (Int32)) :=
  if (fX12_in x1 (0 : Int32) (4 : Int32)) = 0 then
    some (I, (-100000 : Int32))
  else
    if x1 = (1 : Int32) then
      gX12_weather_b25 σ R I x1 x2 (-40000 : Int32)
    else
      gX12_weather_b25 σ R I x1 x2 (0 : Int32)
theorem eX12_weather {σ : Shp} {I : Nat → Nat → Int32} {R : Nat → Nat → Option Nat} {x1 : Int32} {x2 : Int32} (hS : Skel σ R) : fX12_weather σ I R 114 x1 x2 = gX12_weather σ I R x1 x2 := by
  unfold fX12_weather gX12_weather
  refine bi (fun c => ?_) (fun c => ?_)
  · rfl
  · refine bi (fun c => ?_) (fun c => ?_)
    · exact eX12_weather_b25 hS
    · exact eX12_weather_b25 hS
def gX12_mark_b67  (σ : Shp) (R : Nat → Nat → Option Nat) (I : Nat → Nat → Int32) (x1 : Int32) (x2 : Int32) (x3 : Int32) : Option ((Nat → Nat → Int32) × (Int32)) :=
  if ¬ (x1 < 0 ∨ 3 ≤ Int32.toNatClampNeg x1) then
  if (I 181 (Int32.toNatClampNeg x1)) = (6 : Int32) then
    some (I, (-4 : Int32))
  else
    if ¬ ((((6 : Int32) * x1) + (I 181 (Int32.toNatClampNeg x1))) < 0 ∨ 18 ≤ Int32.toNatClampNeg (((6 : Int32) * x1) + (I 181 (Int32.toNatClampNeg x1)))) then
    let I4 := u2 I 182 (Int32.toNatClampNeg (((6 : Int32) * x1) + (I 181 (Int32.toNatClampNeg x1)))) x2
    if ¬ ((((6 : Int32) * x1) + (I4 181 (Int32.toNatClampNeg x1))) < 0 ∨ 18 ≤ Int32.toNatClampNeg (((6 : Int32) * x1) + (I4 181 (Int32.toNatClampNeg x1)))) then
    let I6 := u2 I4 183 (Int32.toNatClampNeg (((6 : Int32) * x1) + (I4 181 (Int32.toNatClampNeg x1)))) x3
    let I7 := u2 I6 181 (Int32.toNatClampNeg x1) ((I6 181 (Int32.toNatClampNeg x1)) + (1 : Int32))
    some (I7, (I7 181 (Int32.toNatClampNeg x1)))
    else none
    else none
  else none
theorem eX12_mark_b67 {σ : Shp} {I : Nat → Nat → Int32} {R : Nat → Nat → Option Nat} {x1 : Int32} {x2 : Int32} {x3 : Int32} (hS : Skel σ R) : fX12_mark_b67 σ R 114 I x1 x2 x3 = gX12_mark_b67 σ R I x1 x2 x3 := by
  unfold fX12_mark_b67 gX12_mark_b67
  refine sg (kq114 hS) ?_
  refine sb (rq114_103 hS) ?_
  refine sg (kq181 hS) ?_
  refine bgr (by rw [lq181 hS]) (fun g2 => ?_)
  refine bi (fun c => ?_) (fun c => ?_)
  · rfl
  · try with_reducible refine sg (kq114 hS) ?_
    refine sb (rq114_104 hS) ?_
    try with_reducible refine sg (kq114 hS) ?_
    try with_reducible refine sg (kq181 hS) ?_
    try with_reducible refine sg (by rw [lq181 hS]; exact g2) ?_
    refine sg (kq182 hS) ?_
    refine bgr (by rw [lq182 hS]) (fun g3 => ?_)
    try with_reducible refine sg (kq114 hS) ?_
    refine sb (rq114_105 hS) ?_
    try with_reducible refine sg (kq114 hS) ?_
    try with_reducible refine sg (kq181 hS) ?_
    try with_reducible refine sg (by rw [lq181 hS]; exact g2) ?_
    refine sg (kq183 hS) ?_
    refine bgr (by rw [lq183 hS]) (fun g5 => ?_)
    try with_reducible refine sg (kq114 hS) ?_
    try with_reducible refine sg (kq181 hS) ?_
    try with_reducible refine sg (by rw [lq181 hS]; exact g2) ?_
    try with_reducible refine sg (kq181 hS) ?_
    try with_reducible refine sg (by rw [lq181 hS]; exact g2) ?_
    try with_reducible refine sg (kq114 hS) ?_
    try with_reducible refine sg (kq181 hS) ?_
    try with_reducible refine sg (by rw [lq181 hS]; exact g2) ?_
    rfl
def gX12_mark (σ : Shp) (I : Nat → Nat → Int32) (R : Nat → Nat → Option Nat) (x1 : Int32) (x2 : Int32) (x3 : Int32) : Option ((Nat → Nat → Int32) × (Int32)) :=
  if (fX12_in x1 (0 : Int32) (2 : Int32)) = 0 then
    some (I, (-2 : Int32))
  else
    if (fX12_in x2 (0 : Int32) (1439 : Int32)) = 0 then
      some (I, (-2 : Int32))
    else
      if (fX12_in x3 (-50000 : Int32) (60000 : Int32)) = 0 then
        some (I, (-2 : Int32))
      else
        if ¬ (x1 < 0 ∨ 3 ≤ Int32.toNatClampNeg x1) then
        if (I 181 (Int32.toNatClampNeg x1)) ≤ 0 then
          gX12_mark_b67 σ R I x1 x2 x3
        else
          if ¬ (((((6 : Int32) * x1) + (I 181 (Int32.toNatClampNeg x1))) - (1 : Int32)) < 0 ∨ 18 ≤ Int32.toNatClampNeg ((((6 : Int32) * x1) + (I 181 (Int32.toNatClampNeg x1))) - (1 : Int32))) then
          if (I 182 (Int32.toNatClampNeg ((((6 : Int32) * x1) + (I 181 (Int32.toNatClampNeg x1))) - (1 : Int32)))) < x2 then
            gX12_mark_b67 σ R I x1 x2 x3
          else
            some (I, (-2 : Int32))
          else none
        else none
theorem eX12_mark {σ : Shp} {I : Nat → Nat → Int32} {R : Nat → Nat → Option Nat} {x1 : Int32} {x2 : Int32} {x3 : Int32} (hS : Skel σ R) : fX12_mark σ I R 114 x1 x2 x3 = gX12_mark σ I R x1 x2 x3 := by
  unfold fX12_mark gX12_mark
  refine bi (fun c => ?_) (fun c => ?_)
  · rfl
  · refine bi (fun c => ?_) (fun c => ?_)
    · rfl
    · refine bi (fun c => ?_) (fun c => ?_)
      · rfl
      · refine sg (kq114 hS) ?_
        refine sb (rq114_103 hS) ?_
        refine sg (kq181 hS) ?_
        refine bgr (by rw [lq181 hS]) (fun g1 => ?_)
        refine bi (fun c => ?_) (fun c => ?_)
        · exact eX12_mark_b67 hS
        · try with_reducible refine sg (kq114 hS) ?_
          refine sb (rq114_104 hS) ?_
          try with_reducible refine sg (kq114 hS) ?_
          try with_reducible refine sg (kq181 hS) ?_
          try with_reducible refine sg (by rw [lq181 hS]; exact g1) ?_
          refine sg (kq182 hS) ?_
          refine bgr (by rw [lq182 hS]) (fun g8 => ?_)
          refine bi (fun c => ?_) (fun c => ?_)
          · exact eX12_mark_b67 hS
          · rfl
def gX12_unmark (I : Nat → Nat → Int32) (x1 : Int32) : Option ((Nat → Nat → Int32) × (Int32)) :=
  if (fX12_in x1 (0 : Int32) (2 : Int32)) = 0 then
    some (I, (-2 : Int32))
  else
    if ¬ (x1 < 0 ∨ 3 ≤ Int32.toNatClampNeg x1) then
    let v2 := (I 181 (Int32.toNatClampNeg x1))
    let I3 := u2 I 181 (Int32.toNatClampNeg x1) (0 : Int32)
    some (I3, v2)
    else none
theorem eX12_unmark {σ : Shp} {I : Nat → Nat → Int32} {R : Nat → Nat → Option Nat} {x1 : Int32} (hS : Skel σ R) : fX12_unmark σ I R 114 x1 = gX12_unmark I x1 := by
  unfold fX12_unmark gX12_unmark
  refine bi (fun c => ?_) (fun c => ?_)
  · rfl
  · refine sg (kq114 hS) ?_
    refine sb (rq114_103 hS) ?_
    refine sg (kq181 hS) ?_
    refine bgr (by rw [lq181 hS]) (fun g1 => ?_)
    try with_reducible refine sg (kq114 hS) ?_
    try with_reducible refine sg (kq181 hS) ?_
    try with_reducible refine sg (by rw [lq181 hS]; exact g1) ?_
    rfl
def gX12_wishAt_b153  (σ : Shp) (I : Nat → Nat → Int32) (R : Nat → Nat → Option Nat) (x5 : Int32) (x6 : Int32) (x7 : Int32) (s0 : Int32) (s1 : Int32) : Option ((Int32)) :=
  let v10 := (s0 + s1)
  if ¬ (x5 < 0 ∨ 18 ≤ Int32.toNatClampNeg x5) then
  if ¬ (x6 < 0 ∨ 18 ≤ Int32.toNatClampNeg x6) then
  (fX12_down ((Int32.toInt64 ((I 183 (Int32.toNatClampNeg x6)) - (I 183 (Int32.toNatClampNeg x5)))) * (Int32.toInt64 x7)) (Int32.toInt64 v10)).bind fun r13 =>
  some ((I 183 (Int32.toNatClampNeg x5)) + (Int64.toInt32 r13))
  else none
  else none
theorem eX12_wishAt_b153 {σ : Shp} {I : Nat → Nat → Int32} {R : Nat → Nat → Option Nat} {x5 : Int32} {x6 : Int32} {x7 : Int32} {s0 : Int32} {s1 : Int32} (hS : Skel σ R) : fX12_wishAt_b153 σ I R 114 x5 x6 x7 s0 s1 = gX12_wishAt_b153 σ I R x5 x6 x7 s0 s1 := by
  unfold fX12_wishAt_b153 gX12_wishAt_b153
  refine sg (kq114 hS) ?_
  refine sb (rq114_105 hS) ?_
  refine sg (kq183 hS) ?_
  refine bgr (by rw [lq183 hS]) (fun g11 => ?_)
  try with_reducible refine sg (kq114 hS) ?_
  try with_reducible refine sg (kq183 hS) ?_
  refine bgr (by rw [lq183 hS]) (fun g12 => ?_)
  try with_reducible refine sg (kq114 hS) ?_
  try with_reducible refine sg (kq183 hS) ?_
  try with_reducible refine sg (by rw [lq183 hS]; exact g11) ?_
  refine bc rfl (fun r13 hc14 => ?_)
  rfl
def gX12_wishAt_b121  (σ : Shp) (I : Nat → Nat → Int32) (R : Nat → Nat → Option Nat) (x5 : Int32) (x6 : Int32) (s0 : Int32) (s1 : Int32) : Option ((Int32)) :=
  let v7 := (s0 + s1)
  if ¬ (x6 < 0 ∨ 18 ≤ Int32.toNatClampNeg x6) then
  if ¬ (x5 < 0 ∨ 18 ≤ Int32.toNatClampNeg x5) then
  if x5 < x6 then
    gX12_wishAt_b153 σ I R x5 x6 v7 ((I 182 (Int32.toNatClampNeg x6)) - (I 182 (Int32.toNatClampNeg x5))) (0 : Int32)
  else
    gX12_wishAt_b153 σ I R x5 x6 v7 ((I 182 (Int32.toNatClampNeg x6)) - (I 182 (Int32.toNatClampNeg x5))) (1440 : Int32)
  else none
  else none
theorem eX12_wishAt_b121 {σ : Shp} {I : Nat → Nat → Int32} {R : Nat → Nat → Option Nat} {x5 : Int32} {x6 : Int32} {s0 : Int32} {s1 : Int32} (hS : Skel σ R) : fX12_wishAt_b121 σ I R 114 x5 x6 s0 s1 = gX12_wishAt_b121 σ I R x5 x6 s0 s1 := by
  unfold fX12_wishAt_b121 gX12_wishAt_b121
  refine sg (kq114 hS) ?_
  refine sb (rq114_104 hS) ?_
  refine sg (kq182 hS) ?_
  refine bgr (by rw [lq182 hS]) (fun g8 => ?_)
  try with_reducible refine sg (kq114 hS) ?_
  try with_reducible refine sg (kq182 hS) ?_
  refine bgr (by rw [lq182 hS]) (fun g9 => ?_)
  refine bi (fun c => ?_) (fun c => ?_)
  · exact eX12_wishAt_b153 hS
  · exact eX12_wishAt_b153 hS
def gX12_wishAt_b84  (σ : Shp) (I : Nat → Nat → Int32) (R : Nat → Nat → Option Nat) (x2 : Int32) (x3 : Int32) (x4 : Int32) (x5 : Int32) (s0 : Int32) (s1 : Int32) : Option ((Int32)) :=
  let v5 := (s0 + s1)
  if x3 = (1 : Int32) then
    if ¬ (x5 < 0 ∨ 18 ≤ Int32.toNatClampNeg x5) then
    some (I 183 (Int32.toNatClampNeg x5))
    else none
  else
    if ¬ (x5 < 0 ∨ 18 ≤ Int32.toNatClampNeg x5) then
    if 0 ≤ x4 then
      gX12_wishAt_b121 σ I R x5 v5 (x2 - (I 182 (Int32.toNatClampNeg x5))) (0 : Int32)
    else
      gX12_wishAt_b121 σ I R x5 v5 (x2 - (I 182 (Int32.toNatClampNeg x5))) (1440 : Int32)
    else none
theorem eX12_wishAt_b84 {σ : Shp} {I : Nat → Nat → Int32} {R : Nat → Nat → Option Nat} {x2 : Int32} {x3 : Int32} {x4 : Int32} {x5 : Int32} {s0 : Int32} {s1 : Int32} (hS : Skel σ R) : fX12_wishAt_b84 σ I R 114 x2 x3 x4 x5 s0 s1 = gX12_wishAt_b84 σ I R x2 x3 x4 x5 s0 s1 := by
  unfold fX12_wishAt_b84 gX12_wishAt_b84
  refine bi (fun c => ?_) (fun c => ?_)
  · refine sg (kq114 hS) ?_
    refine sb (rq114_105 hS) ?_
    refine sg (kq183 hS) ?_
    refine bgr (by rw [lq183 hS]) (fun g15 => ?_)
    rfl
  · refine sg (kq114 hS) ?_
    refine sb (rq114_104 hS) ?_
    refine sg (kq182 hS) ?_
    refine bgr (by rw [lq182 hS]) (fun g6 => ?_)
    refine bi (fun c => ?_) (fun c => ?_)
    · exact eX12_wishAt_b121 hS
    · exact eX12_wishAt_b121 hS
def gX12_wishAt_b56  (σ : Shp) (I : Nat → Nat → Int32) (R : Nat → Nat → Option Nat) (x1 : Int32) (x2 : Int32) (x3 : Int32) (x4 : Int32) (s0 : Int32) (s1 : Int32) : Option ((Int32)) :=
  let v4 := (s0 + s1)
  if x4 < 0 then
    gX12_wishAt_b84 σ I R x2 x3 x4 v4 ((6 : Int32) * x1) (0 : Int32)
  else
    if x4 = (x3 - (1 : Int32)) then
      gX12_wishAt_b84 σ I R x2 x3 x4 v4 ((6 : Int32) * x1) (0 : Int32)
    else
      gX12_wishAt_b84 σ I R x2 x3 x4 v4 ((6 : Int32) * x1) (x4 + (1 : Int32))
theorem eX12_wishAt_b56 {σ : Shp} {I : Nat → Nat → Int32} {R : Nat → Nat → Option Nat} {x1 : Int32} {x2 : Int32} {x3 : Int32} {x4 : Int32} {s0 : Int32} {s1 : Int32} (hS : Skel σ R) : fX12_wishAt_b56 σ I R 114 x1 x2 x3 x4 s0 s1 = gX12_wishAt_b56 σ I R x1 x2 x3 x4 s0 s1 := by
  unfold fX12_wishAt_b56 gX12_wishAt_b56
  refine bi (fun c => ?_) (fun c => ?_)
  · exact eX12_wishAt_b84 hS
  · refine bi (fun c => ?_) (fun c => ?_)
    · exact eX12_wishAt_b84 hS
    · exact eX12_wishAt_b84 hS
def gX12_wishAt_l12  (σ : Shp) (I : Nat → Nat → Int32) (R : Nat → Nat → Option Nat) : Nat → (Int32) → (Int32) → (Int32) → (Int32) → Option ((Int32))
  | 0, _, _, _, _ => none
  | n + 1, x1, x2, x3, x4 =>
    if x4 < 0 then
      if 0 ≤ x4 then
        gX12_wishAt_b56 σ I R x1 x2 x3 x4 ((6 : Int32) * x1) x4
      else
        gX12_wishAt_b56 σ I R x1 x2 x3 x4 ((6 : Int32) * x1) (x3 - (1 : Int32))
    else
      if ¬ ((((6 : Int32) * x1) + x4) < 0 ∨ 18 ≤ Int32.toNatClampNeg (((6 : Int32) * x1) + x4)) then
      if (I 182 (Int32.toNatClampNeg (((6 : Int32) * x1) + x4))) ≤ x2 then
        if 0 ≤ x4 then
          gX12_wishAt_b56 σ I R x1 x2 x3 x4 ((6 : Int32) * x1) x4
        else
          gX12_wishAt_b56 σ I R x1 x2 x3 x4 ((6 : Int32) * x1) (x3 - (1 : Int32))
      else
        let v17 := x4 + (-1 : Int32)
        gX12_wishAt_l12 σ I R n x1 x2 x3 v17
      else none
theorem eX12_wishAt_l12 {σ : Shp} {I : Nat → Nat → Int32} {R : Nat → Nat → Option Nat} (hS : Skel σ R) : ∀ (n : Nat) (x1 : Int32) (x2 : Int32) (x3 : Int32) (x4 : Int32), fX12_wishAt_l12 σ I R 114 n x1 x2 x3 x4 = gX12_wishAt_l12 σ I R n x1 x2 x3 x4 := by
  intro n
  induction n with
  | zero => intro x1 x2 x3 x4; rfl
  | succ n ih =>
    intro x1 x2 x3 x4
    rw [fX12_wishAt_l12, gX12_wishAt_l12]
    refine bi (fun c => ?_) (fun c => ?_)
    · refine bi (fun c => ?_) (fun c => ?_)
      · exact eX12_wishAt_b56 hS
      · exact eX12_wishAt_b56 hS
    · refine sg (kq114 hS) ?_
      refine sb (rq114_104 hS) ?_
      refine sg (kq182 hS) ?_
      refine bgr (by rw [lq182 hS]) (fun g16 => ?_)
      refine bi (fun c => ?_) (fun c => ?_)
      · refine bi (fun c => ?_) (fun c => ?_)
        · exact eX12_wishAt_b56 hS
        · exact eX12_wishAt_b56 hS
      · exact ih _ _ _ _
def gX12_wishAt (σ : Shp) (I : Nat → Nat → Int32) (R : Nat → Nat → Option Nat) (x1 : Int32) (x2 : Int32) : Option ((Int32)) :=
  if ¬ (x1 < 0 ∨ 3 ≤ Int32.toNatClampNeg x1) then
  let v2 := (I 181 (Int32.toNatClampNeg x1))
  let v3 := (v2 - (1 : Int32))
  gX12_wishAt_l12 σ I R FUx x1 x2 v2 v3
  else none
theorem eX12_wishAt {σ : Shp} {I : Nat → Nat → Int32} {R : Nat → Nat → Option Nat} {x1 : Int32} {x2 : Int32} (hS : Skel σ R) : fX12_wishAt σ I R 114 x1 x2 = gX12_wishAt σ I R x1 x2 := by
  unfold fX12_wishAt gX12_wishAt
  refine sg (kq114 hS) ?_
  refine sb (rq114_103 hS) ?_
  refine sg (kq181 hS) ?_
  refine bgr (by rw [lq181 hS]) (fun g1 => ?_)
  exact eX12_wishAt_l12 hS _ _ _ _ _
def gX12_wish (σ : Shp) (I : Nat → Nat → Int32) (R : Nat → Nat → Option Nat) (x1 : Int32) (x2 : Int32) : Option ((Int32)) :=
  if (fX12_in x1 (0 : Int32) (2 : Int32)) = 0 then
    some (-100000 : Int32)
  else
    if (fX12_in x2 (0 : Int32) (1439 : Int32)) = 0 then
      some (-100000 : Int32)
    else
      if ¬ (x1 < 0 ∨ 3 ≤ Int32.toNatClampNeg x1) then
      if (I 181 (Int32.toNatClampNeg x1)) = 0 then
        some (-100001 : Int32)
      else
        (gX12_wishAt σ I R x1 x2).bind fun r2 =>
        some r2
      else none
theorem eX12_wish {σ : Shp} {I : Nat → Nat → Int32} {R : Nat → Nat → Option Nat} {x1 : Int32} {x2 : Int32} (hS : Skel σ R) : fX12_wish σ I R 114 x1 x2 = gX12_wish σ I R x1 x2 := by
  unfold fX12_wish gX12_wish
  refine bi (fun c => ?_) (fun c => ?_)
  · rfl
  · refine bi (fun c => ?_) (fun c => ?_)
    · rfl
    · refine sg (kq114 hS) ?_
      refine sb (rq114_103 hS) ?_
      refine sg (kq181 hS) ?_
      refine bgr (by rw [lq181 hS]) (fun g1 => ?_)
      refine bi (fun c => ?_) (fun c => ?_)
      · rfl
      · try with_reducible refine sg (kq114 hS) ?_
        refine bc (eX12_wishAt hS) (fun r2 hc3 => ?_)
        rfl
def gX12_steer_b340  (σ : Shp) (J : Nat → Nat → Int64) (R : Nat → Nat → Option Nat) (I : Nat → Nat → Int32) (x1 : Int32) (x2 : Int32) : Option ((Nat → Nat → Int32)) :=
  if ¬ ((4 : Int32) < 0 ∨ 5 ≤ Int32.toNatClampNeg (4 : Int32)) then
  if (I 174 (Int32.toNatClampNeg (4 : Int32))) = (1 : Int32) then
    if ¬ (x1 < 0 ∨ 3 ≤ Int32.toNatClampNeg x1) then
    if (I 177 (Int32.toNatClampNeg x1)) ≤ (20 : Int32) then
      some I
    else
      if (x2 - (10 : Int32)) ≤ (20 : Int32) then
        let I11 := u2 I 177 (Int32.toNatClampNeg x1) (20 : Int32)
        some I11
      else
        let I12 := u2 I 177 (Int32.toNatClampNeg x1) (x2 - (10 : Int32))
        some I12
    else none
  else
    some I
  else none
theorem eX12_steer_b340 {σ : Shp} {I : Nat → Nat → Int32} {J : Nat → Nat → Int64} {R : Nat → Nat → Option Nat} {x1 : Int32} {x2 : Int32} (hS : Skel σ R) : fX12_steer_b340 σ J R 114 I x1 x2 = gX12_steer_b340 σ J R I x1 x2 := by
  unfold fX12_steer_b340 gX12_steer_b340
  refine sg (kq114 hS) ?_
  refine sb (rq114_96 hS) ?_
  refine sg (kq174 hS) ?_
  refine bgr (by rw [lq174 hS]) (fun g9 => ?_)
  refine bi (fun c => ?_) (fun c => ?_)
  · try with_reducible refine sg (kq114 hS) ?_
    refine sb (rq114_99 hS) ?_
    refine sg (kq177 hS) ?_
    refine bgr (by rw [lq177 hS]) (fun g10 => ?_)
    refine bi (fun c => ?_) (fun c => ?_)
    · rfl
    · try with_reducible refine sg (kq114 hS) ?_
      refine bi (fun c => ?_) (fun c => ?_)
      · try with_reducible refine sg (kq177 hS) ?_
        try with_reducible refine sg (by rw [lq177 hS]; exact g10) ?_
        rfl
      · try with_reducible refine sg (kq177 hS) ?_
        try with_reducible refine sg (by rw [lq177 hS]; exact g10) ?_
        rfl
  · rfl
def gX12_steer_b51  (σ : Shp) (J : Nat → Nat → Int64) (R : Nat → Nat → Option Nat) (I : Nat → Nat → Int32) (x1 : Int32) (x2 : Int32) : Option ((Nat → Nat → Int32)) :=
  if ¬ (x1 < 0 ∨ 3 ≤ Int32.toNatClampNeg x1) then
  let I6 := u2 I 177 (Int32.toNatClampNeg x1) (fX12_toward x2 (10 : Int32))
  if ¬ (x1 < 0 ∨ 3 ≤ Int32.toNatClampNeg x1) then
  let I8 := u2 I6 178 (Int32.toNatClampNeg x1) (fX12_toward (I6 178 (Int32.toNatClampNeg x1)) (30 : Int32))
  gX12_steer_b340 σ J R I8 x1 x2
  else none
  else none
theorem eX12_steer_b51 {σ : Shp} {I : Nat → Nat → Int32} {J : Nat → Nat → Int64} {R : Nat → Nat → Option Nat} {x1 : Int32} {x2 : Int32} (hS : Skel σ R) : fX12_steer_b51 σ J R 114 I x1 x2 = gX12_steer_b51 σ J R I x1 x2 := by
  unfold fX12_steer_b51 gX12_steer_b51
  refine sg (kq114 hS) ?_
  refine sb (rq114_99 hS) ?_
  refine sg (kq177 hS) ?_
  refine bgr (by rw [lq177 hS]) (fun g5 => ?_)
  try with_reducible refine sg (kq114 hS) ?_
  refine sb (rq114_100 hS) ?_
  try with_reducible refine sg (kq114 hS) ?_
  refine sg (kq178 hS) ?_
  refine bgr (by rw [lq178 hS]) (fun g7 => ?_)
  try with_reducible refine sg (kq178 hS) ?_
  try with_reducible refine sg (by rw [lq178 hS]; exact g7) ?_
  exact eX12_steer_b340 hS
def gX12_steer_b233  (σ : Shp) (J : Nat → Nat → Int64) (R : Nat → Nat → Option Nat) (I : Nat → Nat → Int32) (x1 : Int32) (x2 : Int32) (x7 : Int32) (x8 : Int32) (s0 : Int32) : Option ((Nat → Nat → Int32)) :=
  let v26 := (x8 - s0)
  if x7 ≤ 0 then
    if ¬ (x1 < 0 ∨ 3 ≤ Int32.toNatClampNeg x1) then
    let I28 := u2 I 177 (Int32.toNatClampNeg x1) ((I 177 (Int32.toNatClampNeg x1)) - s0)
    if ¬ (x1 < 0 ∨ 3 ≤ Int32.toNatClampNeg x1) then
    if ((I28 178 (Int32.toNatClampNeg x1)) + v26) ≤ (100 : Int32) then
      let I30 := u2 I28 178 (Int32.toNatClampNeg x1) ((I28 178 (Int32.toNatClampNeg x1)) + v26)
      gX12_steer_b340 σ J R I30 x1 x2
    else
      let I31 := u2 I28 178 (Int32.toNatClampNeg x1) (100 : Int32)
      gX12_steer_b340 σ J R I31 x1 x2
    else none
    else none
  else
    if ¬ (x1 < 0 ∨ 3 ≤ Int32.toNatClampNeg x1) then
    let I33 := u2 I 178 (Int32.toNatClampNeg x1) ((I 178 (Int32.toNatClampNeg x1)) - s0)
    if ¬ (x1 < 0 ∨ 3 ≤ Int32.toNatClampNeg x1) then
    if ((I33 177 (Int32.toNatClampNeg x1)) + v26) ≤ (100 : Int32) then
      let I35 := u2 I33 177 (Int32.toNatClampNeg x1) ((I33 177 (Int32.toNatClampNeg x1)) + v26)
      gX12_steer_b340 σ J R I35 x1 x2
    else
      let I36 := u2 I33 177 (Int32.toNatClampNeg x1) (100 : Int32)
      gX12_steer_b340 σ J R I36 x1 x2
    else none
    else none
theorem eX12_steer_b233 {σ : Shp} {I : Nat → Nat → Int32} {J : Nat → Nat → Int64} {R : Nat → Nat → Option Nat} {x1 : Int32} {x2 : Int32} {x7 : Int32} {x8 : Int32} {s0 : Int32} (hS : Skel σ R) : fX12_steer_b233 σ J R 114 I x1 x2 x7 x8 s0 = gX12_steer_b233 σ J R I x1 x2 x7 x8 s0 := by
  unfold fX12_steer_b233 gX12_steer_b233
  refine bi (fun c => ?_) (fun c => ?_)
  · refine sg (kq114 hS) ?_
    refine sb (rq114_99 hS) ?_
    refine sg (kq177 hS) ?_
    refine bgr (by rw [lq177 hS]) (fun g27 => ?_)
    try with_reducible refine sg (kq177 hS) ?_
    try with_reducible refine sg (by rw [lq177 hS]; exact g27) ?_
    try with_reducible refine sg (kq114 hS) ?_
    refine sb (rq114_100 hS) ?_
    try with_reducible refine sg (kq114 hS) ?_
    refine sg (kq178 hS) ?_
    refine bgr (by rw [lq178 hS]) (fun g29 => ?_)
    refine bi (fun c => ?_) (fun c => ?_)
    · try with_reducible refine sg (kq114 hS) ?_
      try with_reducible refine sg (kq178 hS) ?_
      try with_reducible refine sg (by rw [lq178 hS]; exact g29) ?_
      try with_reducible refine sg (kq178 hS) ?_
      try with_reducible refine sg (by rw [lq178 hS]; exact g29) ?_
      exact eX12_steer_b340 hS
    · try with_reducible refine sg (kq178 hS) ?_
      try with_reducible refine sg (by rw [lq178 hS]; exact g29) ?_
      exact eX12_steer_b340 hS
  · refine sg (kq114 hS) ?_
    refine sb (rq114_100 hS) ?_
    refine sg (kq178 hS) ?_
    refine bgr (by rw [lq178 hS]) (fun g32 => ?_)
    try with_reducible refine sg (kq178 hS) ?_
    try with_reducible refine sg (by rw [lq178 hS]; exact g32) ?_
    try with_reducible refine sg (kq114 hS) ?_
    refine sb (rq114_99 hS) ?_
    try with_reducible refine sg (kq114 hS) ?_
    refine sg (kq177 hS) ?_
    refine bgr (by rw [lq177 hS]) (fun g34 => ?_)
    refine bi (fun c => ?_) (fun c => ?_)
    · try with_reducible refine sg (kq114 hS) ?_
      try with_reducible refine sg (kq177 hS) ?_
      try with_reducible refine sg (by rw [lq177 hS]; exact g34) ?_
      try with_reducible refine sg (kq177 hS) ?_
      try with_reducible refine sg (by rw [lq177 hS]; exact g34) ?_
      exact eX12_steer_b340 hS
    · try with_reducible refine sg (kq177 hS) ?_
      try with_reducible refine sg (by rw [lq177 hS]; exact g34) ?_
      exact eX12_steer_b340 hS
def gX12_steer_b195  (σ : Shp) (J : Nat → Nat → Int64) (R : Nat → Nat → Option Nat) (I : Nat → Nat → Int32) (x1 : Int32) (x2 : Int32) (x7 : Int32) (s0 : Int32) : Option ((Nat → Nat → Int32)) :=
  if x7 ≤ 0 then
    if ¬ (x1 < 0 ∨ 3 ≤ Int32.toNatClampNeg x1) then
    let v25 := (I 177 (Int32.toNatClampNeg x1))
    if s0 ≤ v25 then
      gX12_steer_b233 σ J R I x1 x2 x7 s0 s0
    else
      gX12_steer_b233 σ J R I x1 x2 x7 s0 v25
    else none
  else
    if ¬ (x1 < 0 ∨ 3 ≤ Int32.toNatClampNeg x1) then
    let v38 := (I 178 (Int32.toNatClampNeg x1))
    if s0 ≤ v38 then
      gX12_steer_b233 σ J R I x1 x2 x7 s0 s0
    else
      gX12_steer_b233 σ J R I x1 x2 x7 s0 v38
    else none
theorem eX12_steer_b195 {σ : Shp} {I : Nat → Nat → Int32} {J : Nat → Nat → Int64} {R : Nat → Nat → Option Nat} {x1 : Int32} {x2 : Int32} {x7 : Int32} {s0 : Int32} (hS : Skel σ R) : fX12_steer_b195 σ J R 114 I x1 x2 x7 s0 = gX12_steer_b195 σ J R I x1 x2 x7 s0 := by
  unfold fX12_steer_b195 gX12_steer_b195
  refine bi (fun c => ?_) (fun c => ?_)
  · refine sg (kq114 hS) ?_
    refine sb (rq114_99 hS) ?_
    refine sg (kq177 hS) ?_
    refine bgr (by rw [lq177 hS]) (fun g24 => ?_)
    refine bi (fun c => ?_) (fun c => ?_)
    · exact eX12_steer_b233 hS
    · exact eX12_steer_b233 hS
  · refine sg (kq114 hS) ?_
    refine sb (rq114_100 hS) ?_
    refine sg (kq178 hS) ?_
    refine bgr (by rw [lq178 hS]) (fun g37 => ?_)
    refine bi (fun c => ?_) (fun c => ?_)
    · exact eX12_steer_b233 hS
    · exact eX12_steer_b233 hS
def gX12_steer (σ : Shp) (I : Nat → Nat → Int32) (J : Nat → Nat → Int64) (R : Nat → Nat → Option Nat) (x1 : Int32) : Option ((Nat → Nat → Int32)) :=
  if ¬ (x1 < 0 ∨ 3 ≤ Int32.toNatClampNeg x1) then
  let v2 := (I 177 (Int32.toNatClampNeg x1))
  if ¬ ((3 : Int32) < 0 ∨ 5 ≤ Int32.toNatClampNeg (3 : Int32)) then
  if (I 174 (Int32.toNatClampNeg (3 : Int32))) = (1 : Int32) then
    let I39 := u2 I 177 (Int32.toNatClampNeg x1) (fX12_toward v2 (0 : Int32))
    some I39
  else
    if ¬ (x1 < 0 ∨ 3 ≤ Int32.toNatClampNeg x1) then
    if (J 173 (Int32.toNatClampNeg x1)) = (9221120237041090560 : Int64) then
      gX12_steer_b51 σ J R I x1 v2
    else
      if ¬ (x1 < 0 ∨ 3 ≤ Int32.toNatClampNeg x1) then
      if (I 181 (Int32.toNatClampNeg x1)) = 0 then
        gX12_steer_b51 σ J R I x1 v2
      else
        (fX12_fromBits (J 173 (Int32.toNatClampNeg x1))).bind fun r14 =>
        if (FP.dmul r14 (4652007308841189376 : UInt64)) &&& 0x7fffffffffffffff ≤ 0x7ff0000000000000 then
        let v17 := (fX12_within (FP.d2l (FP.dmul r14 (4652007308841189376 : UInt64))) (1000000000 : Int64))
        (gX12_wishAt σ I R x1 ((I 114 85) - (I 114 85) / (1440 : Int32) * (1440 : Int32))).bind fun r18 =>
        let v20 := (fX12_within (v17 - (Int32.toInt64 r18)) (100000 : Int64))
        if ¬ (x1 < 0 ∨ 3 ≤ Int32.toNatClampNeg x1) then
        let I22 := u2 I 179 (Int32.toNatClampNeg x1) (Int64.toInt32 (fX12_within ((Int32.toInt64 (I 179 (Int32.toNatClampNeg x1))) + (v20 / (16 : Int64))) (4000 : Int64)))
        let v23 := (Int64.toInt32 (fX12_within ((v20 / (400 : Int64)) + (Int32.toInt64 ((I22 179 (Int32.toNatClampNeg x1)) / (500 : Int32)))) (10 : Int64)))
        if 0 ≤ v23 then
          gX12_steer_b195 σ J R I22 x1 v2 v23 v23
        else
          gX12_steer_b195 σ J R I22 x1 v2 v23 (-v23)
        else none
        else none
      else none
    else none
  else none
  else none
theorem eX12_steer {σ : Shp} {I : Nat → Nat → Int32} {J : Nat → Nat → Int64} {R : Nat → Nat → Option Nat} {x1 : Int32} (hS : Skel σ R) : fX12_steer σ I J R 114 x1 = gX12_steer σ I J R x1 := by
  unfold fX12_steer gX12_steer
  refine sg (kq114 hS) ?_
  refine sb (rq114_99 hS) ?_
  refine sg (kq177 hS) ?_
  refine bgr (by rw [lq177 hS]) (fun g1 => ?_)
  try with_reducible refine sg (kq114 hS) ?_
  refine sb (rq114_96 hS) ?_
  refine sg (kq174 hS) ?_
  refine bgr (by rw [lq174 hS]) (fun g3 => ?_)
  refine bi (fun c => ?_) (fun c => ?_)
  · try with_reducible refine sg (kq114 hS) ?_
    try with_reducible refine sg (kq177 hS) ?_
    try with_reducible refine sg (by rw [lq177 hS]; exact g1) ?_
    rfl
  · try with_reducible refine sg (kq114 hS) ?_
    refine sb (rq114_95 hS) ?_
    refine sg (kq173 hS) ?_
    refine bgr (by rw [lq173 hS]) (fun g4 => ?_)
    refine bi (fun c => ?_) (fun c => ?_)
    · exact eX12_steer_b51 hS
    · try with_reducible refine sg (kq114 hS) ?_
      refine sb (rq114_103 hS) ?_
      refine sg (kq181 hS) ?_
      refine bgr (by rw [lq181 hS]) (fun g13 => ?_)
      refine bi (fun c => ?_) (fun c => ?_)
      · exact eX12_steer_b51 hS
      · try with_reducible refine sg (kq114 hS) ?_
        try with_reducible refine sg (kq173 hS) ?_
        try with_reducible refine sg (by rw [lq173 hS]; exact g4) ?_
        refine bc rfl (fun r14 hc15 => ?_)
        refine bg (fun g16 => ?_)
        try with_reducible refine sg (kq114 hS) ?_
        try with_reducible refine sg (kq114 hS) ?_
        refine bc (eX12_wishAt hS) (fun r18 hc19 => ?_)
        try with_reducible refine sg (kq114 hS) ?_
        refine sb (rq114_101 hS) ?_
        try with_reducible refine sg (kq114 hS) ?_
        refine sg (kq179 hS) ?_
        refine bgr (by rw [lq179 hS]) (fun g21 => ?_)
        try with_reducible refine sg (kq179 hS) ?_
        try with_reducible refine sg (by rw [lq179 hS]; exact g21) ?_
        try with_reducible refine sg (kq114 hS) ?_
        try with_reducible refine sg (kq179 hS) ?_
        try with_reducible refine sg (by rw [lq179 hS]; exact g21) ?_
        refine bi (fun c => ?_) (fun c => ?_)
        · exact eX12_steer_b195 hS
        · exact eX12_steer_b195 hS
def gX12_breathe_b229  (σ : Shp) (R : Nat → Nat → Option Nat) (I : Nat → Nat → Int32) (J : Nat → Nat → Int64) (x1 : Int32) (x2 : Int64) (x4 : Int64) (x6 : Int64) (x8 : Int64) (x10 : Int64) (s0 : Int64) : Option ((Nat → Nat → Int32) × (Nat → Nat → Int64)) :=
  if ¬ (x1 < 0 ∨ 3 ≤ Int32.toNatClampNeg x1) then
  let J24 := u2 J 176 (Int32.toNatClampNeg x1) ((J 176 (Int32.toNatClampNeg x1)) - s0)
  if ¬ (((6 : Int32) * x1) < 0 ∨ 18 ≤ Int32.toNatClampNeg ((6 : Int32) * x1)) then
  let J26 := u2 J24 180 (Int32.toNatClampNeg ((6 : Int32) * x1)) ((J24 180 (Int32.toNatClampNeg ((6 : Int32) * x1))) + s0)
  if ¬ ((((6 : Int32) * x1) + (1 : Int32)) < 0 ∨ 18 ≤ Int32.toNatClampNeg (((6 : Int32) * x1) + (1 : Int32))) then
  let J28 := u2 J26 180 (Int32.toNatClampNeg (((6 : Int32) * x1) + (1 : Int32))) ((J26 180 (Int32.toNatClampNeg (((6 : Int32) * x1) + (1 : Int32)))) + x2)
  if ¬ ((((6 : Int32) * x1) + (2 : Int32)) < 0 ∨ 18 ≤ Int32.toNatClampNeg (((6 : Int32) * x1) + (2 : Int32))) then
  let J30 := u2 J28 180 (Int32.toNatClampNeg (((6 : Int32) * x1) + (2 : Int32))) ((J28 180 (Int32.toNatClampNeg (((6 : Int32) * x1) + (2 : Int32)))) + x4)
  if ¬ ((((6 : Int32) * x1) + (3 : Int32)) < 0 ∨ 18 ≤ Int32.toNatClampNeg (((6 : Int32) * x1) + (3 : Int32))) then
  let J32 := u2 J30 180 (Int32.toNatClampNeg (((6 : Int32) * x1) + (3 : Int32))) ((J30 180 (Int32.toNatClampNeg (((6 : Int32) * x1) + (3 : Int32)))) + x6)
  if ¬ ((((6 : Int32) * x1) + (4 : Int32)) < 0 ∨ 18 ≤ Int32.toNatClampNeg (((6 : Int32) * x1) + (4 : Int32))) then
  let J34 := u2 J32 180 (Int32.toNatClampNeg (((6 : Int32) * x1) + (4 : Int32))) ((J32 180 (Int32.toNatClampNeg (((6 : Int32) * x1) + (4 : Int32)))) + x8)
  if ¬ ((((6 : Int32) * x1) + (5 : Int32)) < 0 ∨ 18 ≤ Int32.toNatClampNeg (((6 : Int32) * x1) + (5 : Int32))) then
  let J36 := u2 J34 180 (Int32.toNatClampNeg (((6 : Int32) * x1) + (5 : Int32))) ((J34 180 (Int32.toNatClampNeg (((6 : Int32) * x1) + (5 : Int32)))) + x10)
  some (I, J36)
  else none
  else none
  else none
  else none
  else none
  else none
  else none
theorem eX12_breathe_b229 {σ : Shp} {I : Nat → Nat → Int32} {J : Nat → Nat → Int64} {R : Nat → Nat → Option Nat} {x1 : Int32} {x2 : Int64} {x4 : Int64} {x6 : Int64} {x8 : Int64} {x10 : Int64} {s0 : Int64} (hS : Skel σ R) : fX12_breathe_b229 σ R 114 I J x1 x2 x4 x6 x8 x10 s0 = gX12_breathe_b229 σ R I J x1 x2 x4 x6 x8 x10 s0 := by
  unfold fX12_breathe_b229 gX12_breathe_b229
  refine sg (kq114 hS) ?_
  refine sb (rq114_98 hS) ?_
  refine sg (kq176 hS) ?_
  refine bgr (by rw [lq176 hS]) (fun g23 => ?_)
  try with_reducible refine sg (kq176 hS) ?_
  try with_reducible refine sg (by rw [lq176 hS]; exact g23) ?_
  try with_reducible refine sg (kq114 hS) ?_
  refine sb (rq114_102 hS) ?_
  refine sg (kq180 hS) ?_
  refine bgr (by rw [lq180 hS]) (fun g25 => ?_)
  try with_reducible refine sg (kq180 hS) ?_
  try with_reducible refine sg (by rw [lq180 hS]; exact g25) ?_
  try with_reducible refine sg (kq114 hS) ?_
  try with_reducible refine sg (kq180 hS) ?_
  refine bgr (by rw [lq180 hS]) (fun g27 => ?_)
  try with_reducible refine sg (kq180 hS) ?_
  try with_reducible refine sg (by rw [lq180 hS]; exact g27) ?_
  try with_reducible refine sg (kq114 hS) ?_
  try with_reducible refine sg (kq180 hS) ?_
  refine bgr (by rw [lq180 hS]) (fun g29 => ?_)
  try with_reducible refine sg (kq180 hS) ?_
  try with_reducible refine sg (by rw [lq180 hS]; exact g29) ?_
  try with_reducible refine sg (kq114 hS) ?_
  try with_reducible refine sg (kq180 hS) ?_
  refine bgr (by rw [lq180 hS]) (fun g31 => ?_)
  try with_reducible refine sg (kq180 hS) ?_
  try with_reducible refine sg (by rw [lq180 hS]; exact g31) ?_
  try with_reducible refine sg (kq114 hS) ?_
  try with_reducible refine sg (kq180 hS) ?_
  refine bgr (by rw [lq180 hS]) (fun g33 => ?_)
  try with_reducible refine sg (kq180 hS) ?_
  try with_reducible refine sg (by rw [lq180 hS]; exact g33) ?_
  try with_reducible refine sg (kq114 hS) ?_
  try with_reducible refine sg (kq180 hS) ?_
  refine bgr (by rw [lq180 hS]) (fun g35 => ?_)
  try with_reducible refine sg (kq180 hS) ?_
  try with_reducible refine sg (by rw [lq180 hS]; exact g35) ?_
  rfl
def gX12_breathe_b202  (σ : Shp) (R : Nat → Nat → Option Nat) (I : Nat → Nat → Int32) (J : Nat → Nat → Int64) (x1 : Int32) (x2 : Int64) (x4 : Int64) (x6 : Int64) (x8 : Int64) (x10 : Int64) (s0 : Int64) : Option ((Nat → Nat → Int32) × (Nat → Nat → Int64)) :=
  if ¬ (x1 < 0 ∨ 3 ≤ Int32.toNatClampNeg x1) then
  if (J 176 (Int32.toNatClampNeg x1)) ≤ s0 then
    gX12_breathe_b229 σ R I J x1 x2 x4 x6 x8 x10 (0 : Int64)
  else
    gX12_breathe_b229 σ R I J x1 x2 x4 x6 x8 x10 ((J 176 (Int32.toNatClampNeg x1)) - s0)
  else none
theorem eX12_breathe_b202 {σ : Shp} {I : Nat → Nat → Int32} {J : Nat → Nat → Int64} {R : Nat → Nat → Option Nat} {x1 : Int32} {x2 : Int64} {x4 : Int64} {x6 : Int64} {x8 : Int64} {x10 : Int64} {s0 : Int64} (hS : Skel σ R) : fX12_breathe_b202 σ R 114 I J x1 x2 x4 x6 x8 x10 s0 = gX12_breathe_b202 σ R I J x1 x2 x4 x6 x8 x10 s0 := by
  unfold fX12_breathe_b202 gX12_breathe_b202
  refine sg (kq114 hS) ?_
  refine sb (rq114_98 hS) ?_
  refine sg (kq176 hS) ?_
  refine bgr (by rw [lq176 hS]) (fun g22 => ?_)
  refine bi (fun c => ?_) (fun c => ?_)
  · exact eX12_breathe_b229 hS
  · try with_reducible refine sg (kq114 hS) ?_
    try with_reducible refine sg (kq176 hS) ?_
    try with_reducible refine sg (by rw [lq176 hS]; exact g22) ?_
    exact eX12_breathe_b229 hS
def gX12_breathe_b142  (σ : Shp) (R : Nat → Nat → Option Nat) (I : Nat → Nat → Int32) (J : Nat → Nat → Int64) (x1 : Int32) (x2 : Int64) (x4 : Int64) (x6 : Int64) (x8 : Int64) (s0 : Int64) : Option ((Nat → Nat → Int32) × (Nat → Nat → Int64)) :=
  if ¬ (x1 < 0 ∨ 3 ≤ Int32.toNatClampNeg x1) then
  let J15 := u2 J 176 (Int32.toNatClampNeg x1) ((J 176 (Int32.toNatClampNeg x1)) + s0)
  if ¬ ((0 : Int32) < 0 ∨ 3 ≤ Int32.toNatClampNeg (0 : Int32)) then
  if (I 156 (Int32.toNatClampNeg (0 : Int32))) = 0 then
    if (0 : Int64) ≤ (9000 : Int64) then
      gX12_breathe_b202 σ R I J15 x1 x2 x4 x6 x8 s0 (9000 : Int64)
    else
      gX12_breathe_b202 σ R I J15 x1 x2 x4 x6 x8 s0 (0 : Int64)
  else
    if ¬ (x1 < 0 ∨ 3 ≤ Int32.toNatClampNeg x1) then
    (gX12_valueOf σ I R (0 : Int32) (Int64.toInt32 ((J15 175 (Int32.toNatClampNeg x1)) / (1000 : Int64)))).bind fun (I18, r19) =>
    let v21 := (Int32.toInt64 r19)
    if (0 : Int64) ≤ v21 then
      gX12_breathe_b202 σ R I18 J15 x1 x2 x4 x6 x8 s0 v21
    else
      gX12_breathe_b202 σ R I18 J15 x1 x2 x4 x6 x8 s0 (0 : Int64)
    else none
  else none
  else none
theorem eX12_breathe_b142 {σ : Shp} {I : Nat → Nat → Int32} {J : Nat → Nat → Int64} {R : Nat → Nat → Option Nat} {x1 : Int32} {x2 : Int64} {x4 : Int64} {x6 : Int64} {x8 : Int64} {s0 : Int64} (hS : Skel σ R) : fX12_breathe_b142 σ R 114 I J x1 x2 x4 x6 x8 s0 = gX12_breathe_b142 σ R I J x1 x2 x4 x6 x8 s0 := by
  unfold fX12_breathe_b142 gX12_breathe_b142
  refine sg (kq114 hS) ?_
  refine sb (rq114_98 hS) ?_
  refine sg (kq176 hS) ?_
  refine bgr (by rw [lq176 hS]) (fun g14 => ?_)
  try with_reducible refine sg (kq176 hS) ?_
  try with_reducible refine sg (by rw [lq176 hS]; exact g14) ?_
  try with_reducible refine sg (kq114 hS) ?_
  refine sb (rq114_75 hS) ?_
  refine sg (kq156 hS) ?_
  refine bgr (by rw [lq156 hS]) (fun g16 => ?_)
  refine bi (fun c => ?_) (fun c => ?_)
  · refine bi (fun c => ?_) (fun c => ?_)
    · exact eX12_breathe_b202 hS
    · exact eX12_breathe_b202 hS
  · try with_reducible refine sg (kq114 hS) ?_
    refine sb (rq114_97 hS) ?_
    refine sg (kq175 hS) ?_
    refine bgr (by rw [lq175 hS]) (fun g17 => ?_)
    try with_reducible refine sg (kq114 hS) ?_
    refine bc (eX12_valueOf hS) (fun pp hc20 => ?_)
    obtain ⟨I18, r19⟩ := pp
    refine bi (fun c => ?_) (fun c => ?_)
    · exact eX12_breathe_b202 hS
    · exact eX12_breathe_b202 hS
def gX12_breathe (σ : Shp) (I : Nat → Nat → Int32) (J : Nat → Nat → Int64) (R : Nat → Nat → Option Nat) (x1 : Int32) : Option ((Nat → Nat → Int32) × (Nat → Nat → Int64)) :=
  if ¬ ((0 : Int32) < 0 ∨ 5 ≤ Int32.toNatClampNeg (0 : Int32)) then
  if ¬ (x1 < 0 ∨ 3 ≤ Int32.toNatClampNeg x1) then
  let v3 := (Int32.toInt64 (((I 174 (Int32.toNatClampNeg (0 : Int32))) / (8 : Int32)) + ((5 : Int32) * (I 178 (Int32.toNatClampNeg x1)))))
  if ¬ (x1 < 0 ∨ 3 ≤ Int32.toNatClampNeg x1) then
  if ¬ ((1 : Int32) < 0 ∨ 5 ≤ Int32.toNatClampNeg (1 : Int32)) then
  if ¬ (x1 < 0 ∨ 3 ≤ Int32.toNatClampNeg x1) then
  let v7 := ((((J 175 (Int32.toNatClampNeg x1)) - (Int32.toInt64 (I 174 (Int32.toNatClampNeg (1 : Int32))))) * (Int32.toInt64 ((2 : Int32) + (I 177 (Int32.toNatClampNeg x1))))) / (200 : Int64))
  let J8 := u2 J 175 (Int32.toNatClampNeg x1) ((J 175 (Int32.toNatClampNeg x1)) + (v3 - v7))
  let v9 := (Int32.toInt64 ((12 : Int32) + ((I 174 (Int32.toNatClampNeg (0 : Int32))) / (50 : Int32))))
  if ¬ (x1 < 0 ∨ 3 ≤ Int32.toNatClampNeg x1) then
  if ¬ ((2 : Int32) < 0 ∨ 5 ≤ Int32.toNatClampNeg (2 : Int32)) then
  let v12 := ((((J8 176 (Int32.toNatClampNeg x1)) - (Int32.toInt64 (I 174 (Int32.toNatClampNeg (2 : Int32))))) * (Int32.toInt64 (I 177 (Int32.toNatClampNeg x1)))) / (80 : Int64))
  let J13 := u2 J8 176 (Int32.toNatClampNeg x1) ((J8 176 (Int32.toNatClampNeg x1)) + (v9 - v12))
  if (0 : Int64) ≤ (J13 176 (Int32.toNatClampNeg x1)) then
    gX12_breathe_b142 σ R I J13 x1 v3 v7 v9 v12 (0 : Int64)
  else
    gX12_breathe_b142 σ R I J13 x1 v3 v7 v9 v12 (-(J13 176 (Int32.toNatClampNeg x1)))
  else none
  else none
  else none
  else none
  else none
  else none
  else none
theorem eX12_breathe {σ : Shp} {I : Nat → Nat → Int32} {J : Nat → Nat → Int64} {R : Nat → Nat → Option Nat} {x1 : Int32} (hS : Skel σ R) : fX12_breathe σ I J R 114 x1 = gX12_breathe σ I J R x1 := by
  unfold fX12_breathe gX12_breathe
  refine sg (kq114 hS) ?_
  refine sb (rq114_96 hS) ?_
  refine sg (kq174 hS) ?_
  refine bgr (by rw [lq174 hS]) (fun g1 => ?_)
  try with_reducible refine sg (kq114 hS) ?_
  refine sb (rq114_100 hS) ?_
  refine sg (kq178 hS) ?_
  refine bgr (by rw [lq178 hS]) (fun g2 => ?_)
  try with_reducible refine sg (kq114 hS) ?_
  refine sb (rq114_97 hS) ?_
  refine sg (kq175 hS) ?_
  refine bgr (by rw [lq175 hS]) (fun g4 => ?_)
  try with_reducible refine sg (kq114 hS) ?_
  try with_reducible refine sg (kq174 hS) ?_
  refine bgr (by rw [lq174 hS]) (fun g5 => ?_)
  try with_reducible refine sg (kq114 hS) ?_
  refine sb (rq114_99 hS) ?_
  refine sg (kq177 hS) ?_
  refine bgr (by rw [lq177 hS]) (fun g6 => ?_)
  try with_reducible refine sg (kq114 hS) ?_
  try with_reducible refine sg (kq175 hS) ?_
  try with_reducible refine sg (by rw [lq175 hS]; exact g4) ?_
  try with_reducible refine sg (kq175 hS) ?_
  try with_reducible refine sg (by rw [lq175 hS]; exact g4) ?_
  try with_reducible refine sg (kq114 hS) ?_
  try with_reducible refine sg (kq174 hS) ?_
  try with_reducible refine sg (by rw [lq174 hS]; exact g1) ?_
  try with_reducible refine sg (kq114 hS) ?_
  refine sb (rq114_98 hS) ?_
  refine sg (kq176 hS) ?_
  refine bgr (by rw [lq176 hS]) (fun g10 => ?_)
  try with_reducible refine sg (kq114 hS) ?_
  try with_reducible refine sg (kq174 hS) ?_
  refine bgr (by rw [lq174 hS]) (fun g11 => ?_)
  try with_reducible refine sg (kq114 hS) ?_
  try with_reducible refine sg (kq177 hS) ?_
  try with_reducible refine sg (by rw [lq177 hS]; exact g6) ?_
  try with_reducible refine sg (kq114 hS) ?_
  try with_reducible refine sg (kq176 hS) ?_
  try with_reducible refine sg (by rw [lq176 hS]; exact g10) ?_
  try with_reducible refine sg (kq176 hS) ?_
  try with_reducible refine sg (by rw [lq176 hS]; exact g10) ?_
  try with_reducible refine sg (kq114 hS) ?_
  try with_reducible refine sg (kq176 hS) ?_
  try with_reducible refine sg (by rw [lq176 hS]; exact g10) ?_
  refine bi (fun c => ?_) (fun c => ?_)
  · exact eX12_breathe_b142 hS
  · try with_reducible refine sg (kq114 hS) ?_
    try with_reducible refine sg (kq176 hS) ?_
    try with_reducible refine sg (by rw [lq176 hS]; exact g10) ?_
    exact eX12_breathe_b142 hS
def gX12_minute_l47 (q30 : (Nat → Nat → Int32) → (Nat → Nat → Int64) → (Int32) → (Int32) → (Option ((Nat → Nat → Int32) × (Nat → Nat → Int64) × (Int32)))) (σ : Shp) (D : Nat → Nat → UInt64) (R : Nat → Nat → Option Nat) : Nat → (Nat → Nat → Int32) → (Nat → Nat → Int64) → (Int32) → (Int32) → (Int32) → Option ((Nat → Nat → Int32) × (Nat → Nat → Int64) × (Int32))
  | 0, _, _, _, _, _ => none
  | n + 1, I, J, x1, x2, x3 =>
    if (3 : Int32) ≤ x3 then
      let v2 := x2 + (1 : Int32)
      q30 I J x1 v2
    else
      (gX12_vote σ I J D R x3).bind fun (I3, J4) =>
      (gX12_steer σ I3 J4 R x3).bind fun I6 =>
      (gX12_breathe σ I6 J4 R x3).bind fun (I8, J9) =>
      let v11 := x3 + (1 : Int32)
      gX12_minute_l47 q30 σ D R n I8 J9 x1 x2 v11
theorem eX12_minute_l47 {σ : Shp} {D : Nat → Nat → UInt64} {R : Nat → Nat → Option Nat} (hS : Skel σ R) {qf30 q30 : (Nat → Nat → Int32) → (Nat → Nat → Int64) → (Int32) → (Int32) → (Option ((Nat → Nat → Int32) × (Nat → Nat → Int64) × (Int32)))} (hq30 : ∀ (I : Nat → Nat → Int32) (J : Nat → Nat → Int64) (x1 : Int32) (x2 : Int32), qf30 I J x1 x2 = q30 I J x1 x2) : ∀ (n : Nat) (I : Nat → Nat → Int32) (J : Nat → Nat → Int64) (x1 : Int32) (x2 : Int32) (x3 : Int32), fX12_minute_l47 qf30 σ D R 114 n I J x1 x2 x3 = gX12_minute_l47 q30 σ D R n I J x1 x2 x3 := by
  intro n
  induction n with
  | zero => intro I J x1 x2 x3; rfl
  | succ n ih =>
    intro I J x1 x2 x3
    rw [fX12_minute_l47, gX12_minute_l47]
    refine bi (fun c => ?_) (fun c => ?_)
    · exact hq30 _ _ _ _
    · refine sg (kq114 hS) ?_
      refine bc (eX12_vote hS) (fun pp hc5 => ?_)
      obtain ⟨I3, J4⟩ := pp
      try with_reducible refine sg (kq114 hS) ?_
      refine bc (eX12_steer hS) (fun I6 hc7 => ?_)
      try with_reducible refine sg (kq114 hS) ?_
      refine bc (eX12_breathe hS) (fun pp hc10 => ?_)
      obtain ⟨I8, J9⟩ := pp
      exact ih _ _ _ _ _
def gX12_minute_l30  (σ : Shp) (D : Nat → Nat → UInt64) (R : Nat → Nat → Option Nat) : Nat → (Nat → Nat → Int32) → (Nat → Nat → Int64) → (Int32) → (Int32) → Option ((Nat → Nat → Int32) × (Nat → Nat → Int64) × (Int32))
  | 0, _, _, _, _ => none
  | n + 1, I, J, x1, x2 =>
    if x1 ≤ x2 then
      some (I, J, (I 114 85))
    else
      let I1 := u2 I 114 85 ((I 114 85) + (1 : Int32))
      gX12_minute_l47 (gX12_minute_l30 σ D R n) σ D R FUx I1 J x1 x2 (0 : Int32)
theorem eX12_minute_l30 {σ : Shp} {D : Nat → Nat → UInt64} {R : Nat → Nat → Option Nat} (hS : Skel σ R) : ∀ (n : Nat) (I : Nat → Nat → Int32) (J : Nat → Nat → Int64) (x1 : Int32) (x2 : Int32), fX12_minute_l30 σ D R 114 n I J x1 x2 = gX12_minute_l30 σ D R n I J x1 x2 := by
  intro n
  induction n with
  | zero => intro I J x1 x2; rfl
  | succ n ih =>
    intro I J x1 x2
    rw [fX12_minute_l30, gX12_minute_l30]
    refine bi (fun c => ?_) (fun c => ?_)
    · refine sg (kq114 hS) ?_
      rfl
    · refine sg (kq114 hS) ?_
      try with_reducible refine sg (kq114 hS) ?_
      exact eX12_minute_l47 hS ih _ _ _ _ _ _
def gX12_minute (σ : Shp) (I : Nat → Nat → Int32) (J : Nat → Nat → Int64) (D : Nat → Nat → UInt64) (R : Nat → Nat → Option Nat) (x1 : Int32) : Option ((Nat → Nat → Int32) × (Nat → Nat → Int64) × (Int32)) :=
  if (fX12_in x1 (1 : Int32) (100 : Int32)) = 0 then
    some (I, J, (-2 : Int32))
  else
    if ((I 114 85) + x1) ≤ (100000 : Int32) then
      gX12_minute_l30 σ D R FUx I J x1 (0 : Int32)
    else
      some (I, J, (-4 : Int32))
theorem eX12_minute {σ : Shp} {I : Nat → Nat → Int32} {J : Nat → Nat → Int64} {D : Nat → Nat → UInt64} {R : Nat → Nat → Option Nat} {x1 : Int32} (hS : Skel σ R) : fX12_minute σ I J D R 114 x1 = gX12_minute σ I J D R x1 := by
  unfold fX12_minute gX12_minute
  refine bi (fun c => ?_) (fun c => ?_)
  · rfl
  · refine sg (kq114 hS) ?_
    refine bi (fun c => ?_) (fun c => ?_)
    · exact eX12_minute_l30 hS _ _ _ _ _
    · rfl
def gX12_air (I : Nat → Nat → Int32) (J : Nat → Nat → Int64) (x1 : Int32) (x2 : Int32) : Option ((Int64)) :=
  if (fX12_in x1 (0 : Int32) (2 : Int32)) = 0 then
    some (0 : Int64)
  else
    if x2 = (0 : Int32) then
      if ¬ (x1 < 0 ∨ 3 ≤ Int32.toNatClampNeg x1) then
      some (J 175 (Int32.toNatClampNeg x1))
      else none
    else
    if x2 = (1 : Int32) then
      if ¬ (x1 < 0 ∨ 3 ≤ Int32.toNatClampNeg x1) then
      some (J 176 (Int32.toNatClampNeg x1))
      else none
    else
    if x2 = (2 : Int32) then
      if ¬ (((6 : Int32) * x1) < 0 ∨ 18 ≤ Int32.toNatClampNeg ((6 : Int32) * x1)) then
      some (J 180 (Int32.toNatClampNeg ((6 : Int32) * x1)))
      else none
    else
    if x2 = (3 : Int32) then
      if ¬ (x1 < 0 ∨ 3 ≤ Int32.toNatClampNeg x1) then
      some (Int32.toInt64 (I 177 (Int32.toNatClampNeg x1)))
      else none
    else
    if x2 = (4 : Int32) then
      if ¬ (x1 < 0 ∨ 3 ≤ Int32.toNatClampNeg x1) then
      some (Int32.toInt64 (I 178 (Int32.toNatClampNeg x1)))
      else none
    else
    if x2 = (5 : Int32) then
      if ¬ (x1 < 0 ∨ 3 ≤ Int32.toNatClampNeg x1) then
      some (Int32.toInt64 (I 179 (Int32.toNatClampNeg x1)))
      else none
    else
    if (fX12_in x2 (6 : Int32) (10 : Int32)) = 0 then
      some (0 : Int64)
    else
      if ¬ (((((6 : Int32) * x1) + x2) - (5 : Int32)) < 0 ∨ 18 ≤ Int32.toNatClampNeg ((((6 : Int32) * x1) + x2) - (5 : Int32))) then
      some (J 180 (Int32.toNatClampNeg ((((6 : Int32) * x1) + x2) - (5 : Int32))))
      else none
theorem eX12_air {σ : Shp} {I : Nat → Nat → Int32} {J : Nat → Nat → Int64} {R : Nat → Nat → Option Nat} {x1 : Int32} {x2 : Int32} (hS : Skel σ R) : fX12_air σ I J R 114 x1 x2 = gX12_air I J x1 x2 := by
  unfold fX12_air gX12_air
  refine bi (fun c => ?_) (fun c => ?_)
  · rfl
  · refine bi (fun c => ?_) (fun c => ?_)
    · refine sg (kq114 hS) ?_
      refine sb (rq114_97 hS) ?_
      refine sg (kq175 hS) ?_
      refine bgr (by rw [lq175 hS]) (fun g13 => ?_)
      rfl
    · refine bi (fun c => ?_) (fun c => ?_)
      · refine sg (kq114 hS) ?_
        refine sb (rq114_98 hS) ?_
        refine sg (kq176 hS) ?_
        refine bgr (by rw [lq176 hS]) (fun g12 => ?_)
        rfl
      · refine bi (fun c => ?_) (fun c => ?_)
        · refine sg (kq114 hS) ?_
          refine sb (rq114_102 hS) ?_
          refine sg (kq180 hS) ?_
          refine bgr (by rw [lq180 hS]) (fun g11 => ?_)
          rfl
        · refine bi (fun c => ?_) (fun c => ?_)
          · refine sg (kq114 hS) ?_
            refine sb (rq114_99 hS) ?_
            refine sg (kq177 hS) ?_
            refine bgr (by rw [lq177 hS]) (fun g10 => ?_)
            rfl
          · refine bi (fun c => ?_) (fun c => ?_)
            · refine sg (kq114 hS) ?_
              refine sb (rq114_100 hS) ?_
              refine sg (kq178 hS) ?_
              refine bgr (by rw [lq178 hS]) (fun g9 => ?_)
              rfl
            · refine bi (fun c => ?_) (fun c => ?_)
              · refine sg (kq114 hS) ?_
                refine sb (rq114_101 hS) ?_
                refine sg (kq179 hS) ?_
                refine bgr (by rw [lq179 hS]) (fun g8 => ?_)
                rfl
              · refine bi (fun c => ?_) (fun c => ?_)
                · rfl
                · refine sg (kq114 hS) ?_
                  refine sb (rq114_102 hS) ?_
                  refine sg (kq180 hS) ?_
                  refine bgr (by rw [lq180 hS]) (fun g7 => ?_)
                  rfl
def gX12_partWhole_l111 (q98 : (Nat → Nat → Int64) → (Int32) → (Int64) → (Option ((Nat → Nat → Int64)))) (σ : Shp) (R : Nat → Nat → Option Nat) : Nat → (Nat → Nat → Int64) → (Int32) → (Int64) → (Int32) → (Int32) → Option ((Nat → Nat → Int64))
  | 0, _, _, _, _, _ => none
  | n + 1, J, x3, x6, x8, x9 =>
    if x3 ≤ x9 then
      if ¬ (x8 < 0 ∨ 40 ≤ Int32.toNatClampNeg x8) then
      let J2 := u2 J 184 (Int32.toNatClampNeg x8) ((J 184 (Int32.toNatClampNeg x8)) + (1 : Int64))
      if ¬ (x8 < 0 ∨ 40 ≤ Int32.toNatClampNeg x8) then
      let J4 := u2 J2 185 (Int32.toNatClampNeg x8) (-1 : Int64)
      let v5 := (x6 - (1 : Int64))
      q98 J4 x3 v5
      else none
      else none
    else
      if ¬ (x9 < 0 ∨ 40 ≤ Int32.toNatClampNeg x9) then
      if ¬ (x8 < 0 ∨ 40 ≤ Int32.toNatClampNeg x8) then
      if (J 185 (Int32.toNatClampNeg x9)) ≤ (J 185 (Int32.toNatClampNeg x8)) then
        let v8 := x9 + (1 : Int32)
        gX12_partWhole_l111 q98 σ R n J x3 x6 x8 v8
      else
        let v9 := x9 + (1 : Int32)
        gX12_partWhole_l111 q98 σ R n J x3 x6 x9 v9
      else none
      else none
theorem eX12_partWhole_l111 {σ : Shp} {R : Nat → Nat → Option Nat} (hS : Skel σ R) {qf98 q98 : (Nat → Nat → Int64) → (Int32) → (Int64) → (Option ((Nat → Nat → Int64)))} (hq98 : ∀ (J : Nat → Nat → Int64) (x3 : Int32) (x6 : Int64), qf98 J x3 x6 = q98 J x3 x6) : ∀ (n : Nat) (J : Nat → Nat → Int64) (x3 : Int32) (x6 : Int64) (x8 : Int32) (x9 : Int32), fX12_partWhole_l111 qf98 σ R 114 n J x3 x6 x8 x9 = gX12_partWhole_l111 q98 σ R n J x3 x6 x8 x9 := by
  intro n
  induction n with
  | zero => intro J x3 x6 x8 x9; rfl
  | succ n ih =>
    intro J x3 x6 x8 x9
    rw [fX12_partWhole_l111, gX12_partWhole_l111]
    refine bi (fun c => ?_) (fun c => ?_)
    · refine sg (kq114 hS) ?_
      refine sb (rq114_106 hS) ?_
      refine sg (kq184 hS) ?_
      refine bgr (by rw [lq184 hS]) (fun g1 => ?_)
      try with_reducible refine sg (kq184 hS) ?_
      try with_reducible refine sg (by rw [lq184 hS]; exact g1) ?_
      try with_reducible refine sg (kq114 hS) ?_
      refine sb (rq114_107 hS) ?_
      refine sg (kq185 hS) ?_
      refine bgr (by rw [lq185 hS]) (fun g3 => ?_)
      exact hq98 _ _ _
    · refine sg (kq114 hS) ?_
      refine sb (rq114_107 hS) ?_
      refine sg (kq185 hS) ?_
      refine bgr (by rw [lq185 hS]) (fun g6 => ?_)
      try with_reducible refine sg (kq114 hS) ?_
      try with_reducible refine sg (kq185 hS) ?_
      refine bgr (by rw [lq185 hS]) (fun g7 => ?_)
      refine bi (fun c => ?_) (fun c => ?_)
      · exact ih _ _ _ _ _
      · exact ih _ _ _ _ _
def gX12_partWhole_l98  (σ : Shp) (R : Nat → Nat → Option Nat) : Nat → (Nat → Nat → Int64) → (Int32) → (Int64) → Option ((Nat → Nat → Int64))
  | 0, _, _, _ => none
  | n + 1, J, x3, x6 =>
    if x6 ≤ (0 : Int64) then
      some J
    else
      gX12_partWhole_l111 (gX12_partWhole_l98 σ R n) σ R FUx J x3 x6 (0 : Int32) (1 : Int32)
theorem eX12_partWhole_l98 {σ : Shp} {R : Nat → Nat → Option Nat} (hS : Skel σ R) : ∀ (n : Nat) (J : Nat → Nat → Int64) (x3 : Int32) (x6 : Int64), fX12_partWhole_l98 σ R 114 n J x3 x6 = gX12_partWhole_l98 σ R n J x3 x6 := by
  intro n
  induction n with
  | zero => intro J x3 x6; rfl
  | succ n ih =>
    intro J x3 x6
    rw [fX12_partWhole_l98, gX12_partWhole_l98]
    refine bi (fun c => ?_) (fun c => ?_)
    · rfl
    · exact eX12_partWhole_l111 hS ih _ _ _ _ _ _
def gX12_partWhole_l36  (σ : Shp) (R : Nat → Nat → Option Nat) : Nat → (Nat → Nat → Int64) → (Int64) → (Int32) → (Int64) → (Int64) → (Int32) → Option ((Nat → Nat → Int64))
  | 0, _, _, _, _, _, _ => none
  | n + 1, J, x1, x3, x4, x6, x8 =>
    if x3 ≤ x8 then
      gX12_partWhole_l98 σ R FUx J x3 x6
    else
      if ¬ (x8 < 0 ∨ 40 ≤ Int32.toNatClampNeg x8) then
      if ¬ x4 = 0 then
      if ¬ (x8 < 0 ∨ 40 ≤ Int32.toNatClampNeg x8) then
      let J13 := u2 J 184 (Int32.toNatClampNeg x8) ((x1 * (J 186 (Int32.toNatClampNeg x8))) / x4)
      if ¬ (x8 < 0 ∨ 40 ≤ Int32.toNatClampNeg x8) then
      let J15 := u2 J13 185 (Int32.toNatClampNeg x8) ((x1 * (J13 186 (Int32.toNatClampNeg x8))) - (x1 * (J13 186 (Int32.toNatClampNeg x8))) / x4 * x4)
      let v16 := (x6 - (J15 184 (Int32.toNatClampNeg x8)))
      let v17 := x8 + (1 : Int32)
      gX12_partWhole_l36 σ R n J15 x1 x3 x4 v16 v17
      else none
      else none
      else none
      else none
theorem eX12_partWhole_l36 {σ : Shp} {R : Nat → Nat → Option Nat} (hS : Skel σ R) : ∀ (n : Nat) (J : Nat → Nat → Int64) (x1 : Int64) (x3 : Int32) (x4 : Int64) (x6 : Int64) (x8 : Int32), fX12_partWhole_l36 σ R 114 n J x1 x3 x4 x6 x8 = gX12_partWhole_l36 σ R n J x1 x3 x4 x6 x8 := by
  intro n
  induction n with
  | zero => intro J x1 x3 x4 x6 x8; rfl
  | succ n ih =>
    intro J x1 x3 x4 x6 x8
    rw [fX12_partWhole_l36, gX12_partWhole_l36]
    refine bi (fun c => ?_) (fun c => ?_)
    · exact eX12_partWhole_l98 hS _ _ _ _
    · refine sg (kq114 hS) ?_
      refine sb (rq114_106 hS) ?_
      try with_reducible refine sg (kq114 hS) ?_
      refine sb (rq114_108 hS) ?_
      refine sg (kq186 hS) ?_
      refine bgr (by rw [lq186 hS]) (fun g10 => ?_)
      refine bg (fun g11 => ?_)
      refine sg (kq184 hS) ?_
      refine bgr (by rw [lq184 hS]) (fun g12 => ?_)
      try with_reducible refine sg (kq114 hS) ?_
      refine sb (rq114_107 hS) ?_
      try with_reducible refine sg (kq114 hS) ?_
      try with_reducible refine sg (kq186 hS) ?_
      try with_reducible refine sg (by rw [lq186 hS]; exact g10) ?_
      refine sg (kq185 hS) ?_
      refine bgr (by rw [lq185 hS]) (fun g14 => ?_)
      try with_reducible refine sg (kq114 hS) ?_
      try with_reducible refine sg (kq184 hS) ?_
      try with_reducible refine sg (by rw [lq184 hS]; exact g12) ?_
      exact ih _ _ _ _ _ _
def gX12_partWhole_l6  (σ : Shp) (R : Nat → Nat → Option Nat) : Nat → (Nat → Nat → Int64) → (Int64) → (Int32) → (Int64) → (Int32) → Option ((Nat → Nat → Int64))
  | 0, _, _, _, _, _ => none
  | n + 1, J, x1, x3, x4, x6 =>
    if x3 ≤ x6 then
      gX12_partWhole_l36 σ R FUx J x1 x3 x4 x1 (0 : Int32)
    else
      if ¬ (x6 < 0 ∨ 40 ≤ Int32.toNatClampNeg x6) then
      let v19 := (x4 + (J 186 (Int32.toNatClampNeg x6)))
      let v20 := x6 + (1 : Int32)
      gX12_partWhole_l6 σ R n J x1 x3 v19 v20
      else none
theorem eX12_partWhole_l6 {σ : Shp} {R : Nat → Nat → Option Nat} (hS : Skel σ R) : ∀ (n : Nat) (J : Nat → Nat → Int64) (x1 : Int64) (x3 : Int32) (x4 : Int64) (x6 : Int32), fX12_partWhole_l6 σ R 114 n J x1 x3 x4 x6 = gX12_partWhole_l6 σ R n J x1 x3 x4 x6 := by
  intro n
  induction n with
  | zero => intro J x1 x3 x4 x6; rfl
  | succ n ih =>
    intro J x1 x3 x4 x6
    rw [fX12_partWhole_l6, gX12_partWhole_l6]
    refine bi (fun c => ?_) (fun c => ?_)
    · exact eX12_partWhole_l36 hS _ _ _ _ _ _ _
    · refine sg (kq114 hS) ?_
      refine sb (rq114_108 hS) ?_
      refine sg (kq186 hS) ?_
      refine bgr (by rw [lq186 hS]) (fun g18 => ?_)
      exact ih _ _ _ _ _
def gX12_partWhole (σ : Shp) (J : Nat → Nat → Int64) (R : Nat → Nat → Option Nat) (x1 : Int64) (x3 : Int32) : Option ((Nat → Nat → Int64)) :=
  gX12_partWhole_l6 σ R FUx J x1 x3 (0 : Int64) (0 : Int32)
theorem eX12_partWhole {σ : Shp} {J : Nat → Nat → Int64} {R : Nat → Nat → Option Nat} {x1 : Int64} {x3 : Int32} (hS : Skel σ R) : fX12_partWhole σ J R 114 x1 x3 = gX12_partWhole σ J R x1 x3 := by
  unfold fX12_partWhole gX12_partWhole
  exact eX12_partWhole_l6 hS _ _ _ _ _ _
def gX12_shares_l207  (σ : Shp) (R : Nat → Nat → Option Nat) : Nat → (Nat → Nat → Int32) → (Nat → Nat → Int64) → (Int32) → (Int32) → (Int32) → (Int32) → Option ((Nat → Nat → Int32) × (Nat → Nat → Int64) × (Int32))
  | 0, _, _, _, _, _, _ => none
  | n + 1, I, J, x3, x4, x8, x9 =>
    if ¬ (x4 < 0 ∨ 4100 ≤ Int32.toNatClampNeg x4) then
    if (I 117 (Int32.toNatClampNeg x4)) ≤ x9 then
      if ¬ (x3 < 0 ∨ 16 ≤ Int32.toNatClampNeg x3) then
      let I20 := u2 I 115 (Int32.toNatClampNeg x3) x8
      some (I20, J, (1 : Int32))
      else none
    else
      if ¬ (x8 < 0 ∨ 4100 ≤ Int32.toNatClampNeg x8) then
      if ¬ (x9 < 0 ∨ 40 ≤ Int32.toNatClampNeg x9) then
      if ¬ (((I 118 (Int32.toNatClampNeg x8)) + x9) < 0 ∨ 164000 ≤ Int32.toNatClampNeg ((I 118 (Int32.toNatClampNeg x8)) + x9)) then
      let J24 := u2 J 119 (Int32.toNatClampNeg ((I 118 (Int32.toNatClampNeg x8)) + x9)) (J 184 (Int32.toNatClampNeg x9))
      let v25 := x9 + (1 : Int32)
      gX12_shares_l207 σ R n I J24 x3 x4 x8 v25
      else none
      else none
      else none
    else none
theorem eX12_shares_l207 {σ : Shp} {R : Nat → Nat → Option Nat} (hS : Skel σ R) : ∀ (n : Nat) (I : Nat → Nat → Int32) (J : Nat → Nat → Int64) (x3 : Int32) (x4 : Int32) (x8 : Int32) (x9 : Int32), fX12_shares_l207 σ R 114 n I J x3 x4 x8 x9 = gX12_shares_l207 σ R n I J x3 x4 x8 x9 := by
  intro n
  induction n with
  | zero => intro I J x3 x4 x8 x9; rfl
  | succ n ih =>
    intro I J x3 x4 x8 x9
    rw [fX12_shares_l207, gX12_shares_l207]
    refine sg (kq114 hS) ?_
    refine sb (rq114_5 hS) ?_
    refine sg (kq117 hS) ?_
    refine bgr (by rw [lq117 hS]) (fun g18 => ?_)
    refine bi (fun c => ?_) (fun c => ?_)
    · try with_reducible refine sg (kq114 hS) ?_
      refine sb (rq114_3 hS) ?_
      refine sg (kq115 hS) ?_
      refine bgr (by rw [lq115 hS]) (fun g19 => ?_)
      rfl
    · try with_reducible refine sg (kq114 hS) ?_
      refine sb (rq114_8 hS) ?_
      try with_reducible refine sg (kq114 hS) ?_
      refine sb (rq114_6 hS) ?_
      refine sg (kq118 hS) ?_
      refine bgr (by rw [lq118 hS]) (fun g21 => ?_)
      try with_reducible refine sg (kq114 hS) ?_
      refine sb (rq114_106 hS) ?_
      refine sg (kq184 hS) ?_
      refine bgr (by rw [lq184 hS]) (fun g22 => ?_)
      refine sg (kq119 hS) ?_
      refine bgr (by rw [lq119 hS]) (fun g23 => ?_)
      exact ih _ _ _ _ _ _
def gX12_shares_l76  (σ : Shp) (R : Nat → Nat → Option Nat) : Nat → (Nat → Nat → Int32) → (Nat → Nat → Int64) → (Int32) → (Int32) → (Int32) → (Int32) → (Int64) → (Int32) → Option ((Nat → Nat → Int32) × (Nat → Nat → Int64) × (Int32))
  | 0, _, _, _, _, _, _, _, _ => none
  | n + 1, I, J, x2, x3, x4, x5, x6, x8 =>
    if ¬ (x4 < 0 ∨ 4100 ≤ Int32.toNatClampNeg x4) then
    if (I 117 (Int32.toNatClampNeg x4)) ≤ x8 then
      if x5 = 0 then
        some (I, J, (-3 : Int32))
      else
        if x6 = (0 : Int64) then
          some (I, J, (-3 : Int32))
        else
          (gX12_isFull I).bind fun r11 =>
          if r11 = 0 then
            (gX12_partWhole σ J R (Int32.toInt64 x2) (I 117 (Int32.toNatClampNeg x4))).bind fun J13 =>
            (gX12_newRow I (5 : Int32) (I 117 (Int32.toNatClampNeg x4))).bind fun (I15, r16) =>
            gX12_shares_l207 σ R FUx I15 J13 x3 x4 r16 (0 : Int32)
          else
            some (I, J, (-4 : Int32))
    else
      if ¬ (x4 < 0 ∨ 4100 ≤ Int32.toNatClampNeg x4) then
      if ¬ (((I 118 (Int32.toNatClampNeg x4)) + x8) < 0 ∨ 164000 ≤ Int32.toNatClampNeg ((I 118 (Int32.toNatClampNeg x4)) + x8)) then
      if ¬ (x8 < 0 ∨ 40 ≤ Int32.toNatClampNeg x8) then
      let J29 := u2 J 186 (Int32.toNatClampNeg x8) (J 119 (Int32.toNatClampNeg ((I 118 (Int32.toNatClampNeg x4)) + x8)))
      if x5 = 0 then
        let v30 := (x6 + (J29 186 (Int32.toNatClampNeg x8)))
        let v31 := x8 + (1 : Int32)
        gX12_shares_l76 σ R n I J29 x2 x3 x4 (0 : Int32) v30 v31
      else
        if (J29 186 (Int32.toNatClampNeg x8)) < (0 : Int64) then
          let v32 := (x6 + (J29 186 (Int32.toNatClampNeg x8)))
          let v33 := x8 + (1 : Int32)
          gX12_shares_l76 σ R n I J29 x2 x3 x4 (0 : Int32) v32 v33
        else
          let v34 := (x6 + (J29 186 (Int32.toNatClampNeg x8)))
          let v35 := x8 + (1 : Int32)
          gX12_shares_l76 σ R n I J29 x2 x3 x4 (1 : Int32) v34 v35
      else none
      else none
      else none
    else none
theorem eX12_shares_l76 {σ : Shp} {R : Nat → Nat → Option Nat} (hS : Skel σ R) : ∀ (n : Nat) (I : Nat → Nat → Int32) (J : Nat → Nat → Int64) (x2 : Int32) (x3 : Int32) (x4 : Int32) (x5 : Int32) (x6 : Int64) (x8 : Int32), fX12_shares_l76 σ R 114 n I J x2 x3 x4 x5 x6 x8 = gX12_shares_l76 σ R n I J x2 x3 x4 x5 x6 x8 := by
  intro n
  induction n with
  | zero => intro I J x2 x3 x4 x5 x6 x8; rfl
  | succ n ih =>
    intro I J x2 x3 x4 x5 x6 x8
    rw [fX12_shares_l76, gX12_shares_l76]
    refine sg (kq114 hS) ?_
    refine sb (rq114_5 hS) ?_
    refine sg (kq117 hS) ?_
    refine bgr (by rw [lq117 hS]) (fun g10 => ?_)
    refine bi (fun c => ?_) (fun c => ?_)
    · refine bi (fun c => ?_) (fun c => ?_)
      · rfl
      · refine bi (fun c => ?_) (fun c => ?_)
        · rfl
        · try with_reducible refine sg (kq114 hS) ?_
          refine bc (eX12_isFull hS) (fun r11 hc12 => ?_)
          refine bi (fun c => ?_) (fun c => ?_)
          · try with_reducible refine sg (kq114 hS) ?_
            try with_reducible refine sg (kq117 hS) ?_
            try with_reducible refine sg (by rw [lq117 hS]; exact g10) ?_
            try with_reducible refine sg (kq114 hS) ?_
            refine bc (eX12_partWhole hS) (fun J13 hc14 => ?_)
            try with_reducible refine sg (kq114 hS) ?_
            try with_reducible refine sg (kq117 hS) ?_
            try with_reducible refine sg (by rw [lq117 hS]; exact g10) ?_
            try with_reducible refine sg (kq114 hS) ?_
            refine bc (eX12_newRow hS) (fun pp hc17 => ?_)
            obtain ⟨I15, r16⟩ := pp
            exact eX12_shares_l207 hS _ _ _ _ _ _ _
          · rfl
    · try with_reducible refine sg (kq114 hS) ?_
      refine sb (rq114_108 hS) ?_
      try with_reducible refine sg (kq114 hS) ?_
      refine sb (rq114_8 hS) ?_
      try with_reducible refine sg (kq114 hS) ?_
      refine sb (rq114_6 hS) ?_
      refine sg (kq118 hS) ?_
      refine bgr (by rw [lq118 hS]) (fun g26 => ?_)
      refine sg (kq119 hS) ?_
      refine bgr (by rw [lq119 hS]) (fun g27 => ?_)
      refine sg (kq186 hS) ?_
      refine bgr (by rw [lq186 hS]) (fun g28 => ?_)
      refine bi (fun c => ?_) (fun c => ?_)
      · try with_reducible refine sg (kq114 hS) ?_
        try with_reducible refine sg (kq186 hS) ?_
        try with_reducible refine sg (by rw [lq186 hS]; exact g28) ?_
        exact ih _ _ _ _ _ _ _ _
      · try with_reducible refine sg (kq114 hS) ?_
        try with_reducible refine sg (kq186 hS) ?_
        try with_reducible refine sg (by rw [lq186 hS]; exact g28) ?_
        refine bi (fun c => ?_) (fun c => ?_)
        · try with_reducible refine sg (kq114 hS) ?_
          try with_reducible refine sg (kq186 hS) ?_
          try with_reducible refine sg (by rw [lq186 hS]; exact g28) ?_
          exact ih _ _ _ _ _ _ _ _
        · try with_reducible refine sg (kq114 hS) ?_
          try with_reducible refine sg (kq186 hS) ?_
          try with_reducible refine sg (by rw [lq186 hS]; exact g28) ?_
          exact ih _ _ _ _ _ _ _ _
def gX12_shares (σ : Shp) (I : Nat → Nat → Int32) (J : Nat → Nat → Int64) (R : Nat → Nat → Option Nat) (x1 : Int32) (x2 : Int32) (x3 : Int32) : Option ((Nat → Nat → Int32) × (Nat → Nat → Int64) × (Int32)) :=
  if (fX12_isBin x1) = 0 then
    some (I, J, (-2 : Int32))
  else
    if (fX12_isBin x3) = 0 then
      some (I, J, (-2 : Int32))
    else
      if (fX12_in x2 (0 : Int32) (1000000000 : Int32)) = 0 then
        some (I, J, (-2 : Int32))
      else
        if ¬ (x1 < 0 ∨ 16 ≤ Int32.toNatClampNeg x1) then
        let v2 := (I 115 (Int32.toNatClampNeg x1))
        if v2 = 0 then
          if v2 = 0 then
            (gX12_no I (1 : Int32)).bind fun (I6, r7) =>
            some (I6, J, r7)
          else
            (gX12_no I (4 : Int32)).bind fun (I3, r4) =>
            some (I3, J, r4)
        else
          if ¬ (v2 < 0 ∨ 4100 ≤ Int32.toNatClampNeg v2) then
          if (I 116 (Int32.toNatClampNeg v2)) = (4 : Int32) then
            gX12_shares_l76 σ R FUx I J x2 x3 v2 (1 : Int32) (0 : Int64) (0 : Int32)
          else
            if v2 = 0 then
              (gX12_no I (1 : Int32)).bind fun (I39, r40) =>
              some (I39, J, r40)
            else
              (gX12_no I (4 : Int32)).bind fun (I36, r37) =>
              some (I36, J, r37)
          else none
        else none
theorem eX12_shares {σ : Shp} {I : Nat → Nat → Int32} {J : Nat → Nat → Int64} {R : Nat → Nat → Option Nat} {x1 : Int32} {x2 : Int32} {x3 : Int32} (hS : Skel σ R) : fX12_shares σ I J R 114 x1 x2 x3 = gX12_shares σ I J R x1 x2 x3 := by
  unfold fX12_shares gX12_shares
  refine bi (fun c => ?_) (fun c => ?_)
  · rfl
  · refine bi (fun c => ?_) (fun c => ?_)
    · rfl
    · refine bi (fun c => ?_) (fun c => ?_)
      · rfl
      · refine sg (kq114 hS) ?_
        refine sb (rq114_3 hS) ?_
        refine sg (kq115 hS) ?_
        refine bgr (by rw [lq115 hS]) (fun g1 => ?_)
        refine bi (fun c => ?_) (fun c => ?_)
        · refine bi (fun c => ?_) (fun c => ?_)
          · try with_reducible refine sg (kq114 hS) ?_
            refine bc (eX12_no hS) (fun pp hc8 => ?_)
            obtain ⟨I6, r7⟩ := pp
            rfl
          · try with_reducible refine sg (kq114 hS) ?_
            refine bc (eX12_no hS) (fun pp hc5 => ?_)
            obtain ⟨I3, r4⟩ := pp
            rfl
        · try with_reducible refine sg (kq114 hS) ?_
          refine sb (rq114_4 hS) ?_
          refine sg (kq116 hS) ?_
          refine bgr (by rw [lq116 hS]) (fun g9 => ?_)
          refine bi (fun c => ?_) (fun c => ?_)
          · exact eX12_shares_l76 hS _ _ _ _ _ _ _ _ _
          · refine bi (fun c => ?_) (fun c => ?_)
            · try with_reducible refine sg (kq114 hS) ?_
              refine bc (eX12_no hS) (fun pp hc41 => ?_)
              obtain ⟨I39, r40⟩ := pp
              rfl
            · try with_reducible refine sg (kq114 hS) ?_
              refine bc (eX12_no hS) (fun pp hc38 => ?_)
              obtain ⟨I36, r37⟩ := pp
              rfl
def gX12_quotient (I : Nat → Nat → Int32) (x1 : Int32) (x2 : Int64) (x4 : Int64) (x6 : Int32) : Option ((Nat → Nat → Int32) × (Int64)) :=
  if (fX12_in x1 (4 : Int32) (5 : Int32)) = 0 then
    some (I, (0 : Int64))
  else
    if (fX12_in x6 (0 : Int32) (1 : Int32)) = 0 then
      some (I, (0 : Int64))
    else
      if x1 = (4 : Int32) then
        let v6 := (Int64.toInt32 x2)
        let v7 := (Int64.toInt32 x4)
        if v7 = 0 then
          (gX12_noBits I (6 : Int32)).bind fun (I10, r11) =>
          some (I10, r11)
        else
          if x6 = 0 then
            if ¬ v7 = 0 then
            some (I, (Int32.toInt64 (v6 / v7)))
            else none
          else
            if ¬ v7 = 0 then
            some (I, (Int32.toInt64 (v6 - v6 / v7 * v7)))
            else none
      else
        if x4 = (0 : Int64) then
          (gX12_noBits I (6 : Int32)).bind fun (I3, r4) =>
          some (I3, r4)
        else
          if x6 = 0 then
            if ¬ x4 = 0 then
            some (I, (x2 / x4))
            else none
          else
            if ¬ x4 = 0 then
            some (I, (x2 - x2 / x4 * x4))
            else none
theorem eX12_quotient {σ : Shp} {I : Nat → Nat → Int32} {R : Nat → Nat → Option Nat} {x1 : Int32} {x2 : Int64} {x4 : Int64} {x6 : Int32} (hS : Skel σ R) : fX12_quotient σ I 114 x1 x2 x4 x6 = gX12_quotient I x1 x2 x4 x6 := by
  unfold fX12_quotient gX12_quotient
  refine bi (fun c => ?_) (fun c => ?_)
  · rfl
  · refine bi (fun c => ?_) (fun c => ?_)
    · rfl
    · refine bi (fun c => ?_) (fun c => ?_)
      · refine bi (fun c => ?_) (fun c => ?_)
        · refine sg (kq114 hS) ?_
          refine bc (eX12_noBits hS) (fun pp hc12 => ?_)
          obtain ⟨I10, r11⟩ := pp
          rfl
        · refine bi (fun c => ?_) (fun c => ?_)
          · refine bg (fun g9 => ?_)
            rfl
          · refine bg (fun g8 => ?_)
            rfl
      · refine bi (fun c => ?_) (fun c => ?_)
        · refine sg (kq114 hS) ?_
          refine bc (eX12_noBits hS) (fun pp hc5 => ?_)
          obtain ⟨I3, r4⟩ := pp
          rfl
        · refine bi (fun c => ?_) (fun c => ?_)
          · refine bg (fun g2 => ?_)
            rfl
          · refine bg (fun g1 => ?_)
            rfl
def gX12_compare_b97  (σ : Shp) (J : Nat → Nat → Int64) (R : Nat → Nat → Option Nat) (I : Nat → Nat → Int32) (x1 : Int32) (x3 : Int32) (x5 : Int32) (x6 : Int32) (x7 : Int32) (s0 : Int32) : Option ((Nat → Nat → Int32) × (Int32)) :=
  if s0 = 0 then
    if ¬ (x6 < 0 ∨ 4100 ≤ Int32.toNatClampNeg x6) then
    if ¬ (((I 118 (Int32.toNatClampNeg x6)) + x3) < 0 ∨ 164000 ≤ Int32.toNatClampNeg ((I 118 (Int32.toNatClampNeg x6)) + x3)) then
    (fX12_realOf x1 (J 119 (Int32.toNatClampNeg ((I 118 (Int32.toNatClampNeg x6)) + x3)))).bind fun r9 =>
    if ¬ (x7 < 0 ∨ 4100 ≤ Int32.toNatClampNeg x7) then
    if ¬ (((I 118 (Int32.toNatClampNeg x7)) + x5) < 0 ∨ 164000 ≤ Int32.toNatClampNeg ((I 118 (Int32.toNatClampNeg x7)) + x5)) then
    (fX12_realOf x1 (J 119 (Int32.toNatClampNeg ((I 118 (Int32.toNatClampNeg x7)) + x5)))).bind fun r13 =>
    if 0 ≤ (Op.cmpValue (FP.dcmp r9 r13) .g) then
      if (Op.cmpValue (FP.dcmp r9 r13) .l) ≤ 0 then
        if (Op.cmpValue (FP.dcmp r9 r13) .l) = 0 then
          some (I, (26 : Int32))
        else
          some (I, (32 : Int32))
      else
        some (I, (44 : Int32))
    else
      some (I, (35 : Int32))
    else none
    else none
    else none
    else none
  else
    (gX12_no I s0).bind fun (I15, r16) =>
    some (I15, r16)
theorem eX12_compare_b97 {σ : Shp} {I : Nat → Nat → Int32} {J : Nat → Nat → Int64} {R : Nat → Nat → Option Nat} {x1 : Int32} {x3 : Int32} {x5 : Int32} {x6 : Int32} {x7 : Int32} {s0 : Int32} (hS : Skel σ R) : fX12_compare_b97 σ J R 114 I x1 x3 x5 x6 x7 s0 = gX12_compare_b97 σ J R I x1 x3 x5 x6 x7 s0 := by
  unfold fX12_compare_b97 gX12_compare_b97
  refine bi (fun c => ?_) (fun c => ?_)
  · refine sg (kq114 hS) ?_
    refine sb (rq114_8 hS) ?_
    try with_reducible refine sg (kq114 hS) ?_
    refine sb (rq114_6 hS) ?_
    refine sg (kq118 hS) ?_
    refine bgr (by rw [lq118 hS]) (fun g7 => ?_)
    refine sg (kq119 hS) ?_
    refine bgr (by rw [lq119 hS]) (fun g8 => ?_)
    refine bc rfl (fun r9 hc10 => ?_)
    try with_reducible refine sg (kq114 hS) ?_
    try with_reducible refine sg (kq114 hS) ?_
    try with_reducible refine sg (kq118 hS) ?_
    refine bgr (by rw [lq118 hS]) (fun g11 => ?_)
    try with_reducible refine sg (kq119 hS) ?_
    refine bgr (by rw [lq119 hS]) (fun g12 => ?_)
    refine bc rfl (fun r13 hc14 => ?_)
    refine bi (fun c => ?_) (fun c => ?_)
    · refine bi (fun c => ?_) (fun c => ?_)
      · refine bi (fun c => ?_) (fun c => ?_)
        · rfl
        · rfl
      · rfl
    · rfl
  · refine sg (kq114 hS) ?_
    refine bc (eX12_no hS) (fun pp hc17 => ?_)
    obtain ⟨I15, r16⟩ := pp
    rfl
def gX12_compare (σ : Shp) (I : Nat → Nat → Int32) (J : Nat → Nat → Int64) (R : Nat → Nat → Option Nat) (x1 : Int32) (x2 : Int32) (x3 : Int32) (x4 : Int32) (x5 : Int32) : Option ((Nat → Nat → Int32) × (Int32)) :=
  if (fX12_in x1 (6 : Int32) (7 : Int32)) = 0 then
    some (I, (-2 : Int32))
  else
    if (fX12_isBin x2) = 0 then
      some (I, (-2 : Int32))
    else
      if (fX12_isBin x4) = 0 then
        some (I, (-2 : Int32))
      else
        if ¬ (x2 < 0 ∨ 16 ≤ Int32.toNatClampNeg x2) then
        let v2 := (I 115 (Int32.toNatClampNeg x2))
        if ¬ (x4 < 0 ∨ 16 ≤ Int32.toNatClampNeg x4) then
        let v4 := (I 115 (Int32.toNatClampNeg x4))
        (gX12_isOf I v2 x1).bind fun r5 =>
        if r5 = 0 then
          if (4 : Int32) = 0 then
            (gX12_looked I v4 x5).bind fun r18 =>
            gX12_compare_b97 σ J R I x1 x3 x5 v2 v4 r18
          else
            gX12_compare_b97 σ J R I x1 x3 x5 v2 v4 (4 : Int32)
        else
          (gX12_isOf I v4 x1).bind fun r20 =>
          if r20 = 0 then
            if (4 : Int32) = 0 then
              (gX12_looked I v4 x5).bind fun r22 =>
              gX12_compare_b97 σ J R I x1 x3 x5 v2 v4 r22
            else
              gX12_compare_b97 σ J R I x1 x3 x5 v2 v4 (4 : Int32)
          else
            (gX12_looked I v2 x3).bind fun r24 =>
            if r24 = 0 then
              (gX12_looked I v4 x5).bind fun r26 =>
              gX12_compare_b97 σ J R I x1 x3 x5 v2 v4 r26
            else
              gX12_compare_b97 σ J R I x1 x3 x5 v2 v4 r24
        else none
        else none
theorem eX12_compare {σ : Shp} {I : Nat → Nat → Int32} {J : Nat → Nat → Int64} {R : Nat → Nat → Option Nat} {x1 : Int32} {x2 : Int32} {x3 : Int32} {x4 : Int32} {x5 : Int32} (hS : Skel σ R) : fX12_compare σ I J R 114 x1 x2 x3 x4 x5 = gX12_compare σ I J R x1 x2 x3 x4 x5 := by
  unfold fX12_compare gX12_compare
  refine bi (fun c => ?_) (fun c => ?_)
  · rfl
  · refine bi (fun c => ?_) (fun c => ?_)
    · rfl
    · refine bi (fun c => ?_) (fun c => ?_)
      · rfl
      · refine sg (kq114 hS) ?_
        refine sb (rq114_3 hS) ?_
        refine sg (kq115 hS) ?_
        refine bgr (by rw [lq115 hS]) (fun g1 => ?_)
        try with_reducible refine sg (kq114 hS) ?_
        try with_reducible refine sg (kq115 hS) ?_
        refine bgr (by rw [lq115 hS]) (fun g3 => ?_)
        try with_reducible refine sg (kq114 hS) ?_
        refine bc (eX12_isOf hS) (fun r5 hc6 => ?_)
        refine bi (fun c => ?_) (fun c => ?_)
        · refine bi (fun c => ?_) (fun c => ?_)
          · try with_reducible refine sg (kq114 hS) ?_
            refine bc (eX12_looked hS) (fun r18 hc19 => ?_)
            exact eX12_compare_b97 hS
          · exact eX12_compare_b97 hS
        · try with_reducible refine sg (kq114 hS) ?_
          refine bc (eX12_isOf hS) (fun r20 hc21 => ?_)
          refine bi (fun c => ?_) (fun c => ?_)
          · refine bi (fun c => ?_) (fun c => ?_)
            · try with_reducible refine sg (kq114 hS) ?_
              refine bc (eX12_looked hS) (fun r22 hc23 => ?_)
              exact eX12_compare_b97 hS
            · exact eX12_compare_b97 hS
          · try with_reducible refine sg (kq114 hS) ?_
            refine bc (eX12_looked hS) (fun r24 hc25 => ?_)
            refine bi (fun c => ?_) (fun c => ?_)
            · try with_reducible refine sg (kq114 hS) ?_
              refine bc (eX12_looked hS) (fun r26 hc27 => ?_)
              exact eX12_compare_b97 hS
            · exact eX12_compare_b97 hS
def gX12_parted_l38  (σ : Shp) : Nat → (Nat → Nat → Int32) → (Nat → Nat → Int64) → (Int32) → (UInt64) → Option ((Nat → Nat → Int32) × (Nat → Nat → Int64))
  | 0, _, _, _, _ => none
  | n + 1, I, J, x3, x4 =>
    if 0 ≤ (Op.cmpValue (FP.dcmp x4 (4841369599423283200 : UInt64)) .g) then
      let J2 := u2 J 114 133 (FP.d2l x4)
      some (I, J2)
    else
      if (I 114 134) ≤ x3 then
        let J3 := u2 J 114 133 (FP.d2l x4)
        some (I, J3)
      else
        if (FP.dmul x4 (4611686018427387904 : UInt64)) &&& 0x7fffffffffffffff ≤ 0x7ff0000000000000 then
        let v5 := (FP.dmul x4 (4611686018427387904 : UInt64))
        let I6 := u2 I 114 134 ((I 114 134) - (1 : Int32))
        gX12_parted_l38 σ n I6 J x3 v5
        else none
theorem eX12_parted_l38 {σ : Shp} {R : Nat → Nat → Option Nat} (hS : Skel σ R) : ∀ (n : Nat) (I : Nat → Nat → Int32) (J : Nat → Nat → Int64) (x3 : Int32) (x4 : UInt64), fX12_parted_l38 σ 114 n I J x3 x4 = gX12_parted_l38 σ n I J x3 x4 := by
  intro n
  induction n with
  | zero => intro I J x3 x4; rfl
  | succ n ih =>
    intro I J x3 x4
    rw [fX12_parted_l38, gX12_parted_l38]
    refine bi (fun c => ?_) (fun c => ?_)
    · refine sg (kq114 hS) ?_
      rfl
    · refine sg (kq114 hS) ?_
      refine bi (fun c => ?_) (fun c => ?_)
      · try with_reducible refine sg (kq114 hS) ?_
        rfl
      · refine bg (fun g4 => ?_)
        try with_reducible refine sg (kq114 hS) ?_
        try with_reducible refine sg (kq114 hS) ?_
        exact ih _ _ _ _
def gX12_parted_l8  (σ : Shp) : Nat → (Nat → Nat → Int32) → (Nat → Nat → Int64) → (Int32) → (UInt64) → Option ((Nat → Nat → Int32) × (Nat → Nat → Int64))
  | 0, _, _, _, _ => none
  | n + 1, I, J, x3, x4 =>
    if (Op.cmpValue (FP.dcmp x4 (4845873199050653696 : UInt64)) .l) < 0 then
      gX12_parted_l38 σ FUx I J x3 x4
    else
      if (FP.ddiv x4 (4611686018427387904 : UInt64)) &&& 0x7fffffffffffffff ≤ 0x7ff0000000000000 then
      let v8 := (FP.ddiv x4 (4611686018427387904 : UInt64))
      let I9 := u2 I 114 134 ((I 114 134) + (1 : Int32))
      gX12_parted_l8 σ n I9 J x3 v8
      else none
theorem eX12_parted_l8 {σ : Shp} {R : Nat → Nat → Option Nat} (hS : Skel σ R) : ∀ (n : Nat) (I : Nat → Nat → Int32) (J : Nat → Nat → Int64) (x3 : Int32) (x4 : UInt64), fX12_parted_l8 σ 114 n I J x3 x4 = gX12_parted_l8 σ n I J x3 x4 := by
  intro n
  induction n with
  | zero => intro I J x3 x4; rfl
  | succ n ih =>
    intro I J x3 x4
    rw [fX12_parted_l8, gX12_parted_l8]
    refine bi (fun c => ?_) (fun c => ?_)
    · exact eX12_parted_l38 hS _ _ _ _ _
    · refine bg (fun g7 => ?_)
      refine sg (kq114 hS) ?_
      try with_reducible refine sg (kq114 hS) ?_
      exact ih _ _ _ _
def gX12_parted (σ : Shp) (I : Nat → Nat → Int32) (J : Nat → Nat → Int64) (x1 : UInt64) (x3 : Int32) : Option ((Nat → Nat → Int32) × (Nat → Nat → Int64)) :=
  let I1 := u2 I 114 134 (0 : Int32)
  gX12_parted_l8 σ FUx I1 J x3 x1
theorem eX12_parted {σ : Shp} {I : Nat → Nat → Int32} {J : Nat → Nat → Int64} {R : Nat → Nat → Option Nat} {x1 : UInt64} {x3 : Int32} (hS : Skel σ R) : fX12_parted σ I J 114 x1 x3 = gX12_parted σ I J x1 x3 := by
  unfold fX12_parted gX12_parted
  refine sg (kq114 hS) ?_
  exact eX12_parted_l8 hS _ _ _ _ _
def gX12_bits_b57  (σ : Shp) (I : Nat → Nat → Int32) (J : Nat → Nat → Int64) (x3 : Int32) (x4 : UInt64) (x6 : Int64) : Option ((Nat → Nat → Int32) × (Nat → Nat → Int64) × (Int64)) :=
  if (Op.cmpValue (FP.dcmp x4 (FP.dconst0)) .l) ≤ 0 then
    if x3 = 0 then
      some (I, J, x6)
    else
      some (I, J, (x6 ||| (-9223372036854775808 : Int64)))
  else
    (gX12_parted σ I J x4 (-1074 : Int32)).bind fun (I3, J4) =>
    if (4503599627370496 : Int64) ≤ (J4 114 133) then
      let v6 := (((Int32.toInt64 ((I3 114 134) + (1075 : Int32))) <<< (Int32.toInt64 (52 : Int32) &&& 63)) ||| ((J4 114 133) &&& (4503599627370495 : Int64)))
      if x3 = 0 then
        some (I3, J4, v6)
      else
        some (I3, J4, (v6 ||| (-9223372036854775808 : Int64)))
    else
      let v7 := (J4 114 133)
      if x3 = 0 then
        some (I3, J4, v7)
      else
        some (I3, J4, (v7 ||| (-9223372036854775808 : Int64)))
theorem eX12_bits_b57 {σ : Shp} {I : Nat → Nat → Int32} {J : Nat → Nat → Int64} {R : Nat → Nat → Option Nat} {x3 : Int32} {x4 : UInt64} {x6 : Int64} (hS : Skel σ R) : fX12_bits_b57 σ 114 I J x3 x4 x6 = gX12_bits_b57 σ I J x3 x4 x6 := by
  unfold fX12_bits_b57 gX12_bits_b57
  refine bi (fun c => ?_) (fun c => ?_)
  · refine bi (fun c => ?_) (fun c => ?_)
    · rfl
    · rfl
  · refine sg (kq114 hS) ?_
    refine bc (eX12_parted hS) (fun pp hc5 => ?_)
    obtain ⟨I3, J4⟩ := pp
    try with_reducible refine sg (kq114 hS) ?_
    refine bi (fun c => ?_) (fun c => ?_)
    · try with_reducible refine sg (kq114 hS) ?_
      try with_reducible refine sg (kq114 hS) ?_
      refine bi (fun c => ?_) (fun c => ?_)
      · rfl
      · rfl
    · try with_reducible refine sg (kq114 hS) ?_
      refine bi (fun c => ?_) (fun c => ?_)
      · rfl
      · rfl
def gX12_bits_b25  (σ : Shp) (I : Nat → Nat → Int32) (J : Nat → Nat → Int64) (x3 : Int32) (s0 : UInt64) : Option ((Nat → Nat → Int32) × (Nat → Nat → Int64) × (Int64)) :=
  if (Op.cmpValue (FP.dcmp s0 (FP.dconst0)) .l) ≤ 0 then
    gX12_bits_b57 σ I J x3 s0 (0 : Int64)
  else
    if (FP.ddiv s0 (4611686018427387904 : UInt64)) &&& 0x7fffffffffffffff ≤ 0x7ff0000000000000 then
    if (Op.cmpValue (FP.dcmp (FP.ddiv s0 (4611686018427387904 : UInt64)) s0) .l) = 0 then
      if x3 = 0 then
        some (I, J, (9218868437227405312 : Int64))
      else
        some (I, J, ((9218868437227405312 : Int64) ||| (-9223372036854775808 : Int64)))
    else
      gX12_bits_b57 σ I J x3 s0 (0 : Int64)
    else none
theorem eX12_bits_b25 {σ : Shp} {I : Nat → Nat → Int32} {J : Nat → Nat → Int64} {R : Nat → Nat → Option Nat} {x3 : Int32} {s0 : UInt64} (hS : Skel σ R) : fX12_bits_b25 σ 114 I J x3 s0 = gX12_bits_b25 σ I J x3 s0 := by
  unfold fX12_bits_b25 gX12_bits_b25
  refine bi (fun c => ?_) (fun c => ?_)
  · exact eX12_bits_b57 hS
  · refine bg (fun g8 => ?_)
    refine bi (fun c => ?_) (fun c => ?_)
    · refine bi (fun c => ?_) (fun c => ?_)
      · rfl
      · rfl
    · exact eX12_bits_b57 hS
def gX12_bits (σ : Shp) (I : Nat → Nat → Int32) (J : Nat → Nat → Int64) (x1 : UInt64) : Option ((Nat → Nat → Int32) × (Nat → Nat → Int64) × (Int64)) :=
  if (Op.cmpValue (FP.dcmp x1 x1) .l) = 0 then
    (fX12_isMinus x1).bind fun r1 =>
    if r1 = 0 then
      gX12_bits_b25 σ I J r1 x1
    else
      gX12_bits_b25 σ I J r1 (FP.dneg x1)
  else
    some (I, J, (9221120237041090560 : Int64))
theorem eX12_bits {σ : Shp} {I : Nat → Nat → Int32} {J : Nat → Nat → Int64} {R : Nat → Nat → Option Nat} {x1 : UInt64} (hS : Skel σ R) : fX12_bits σ I J 114 x1 = gX12_bits σ I J x1 := by
  unfold fX12_bits gX12_bits
  refine bi (fun c => ?_) (fun c => ?_)
  · refine bc rfl (fun r1 hc2 => ?_)
    refine bi (fun c => ?_) (fun c => ?_)
    · exact eX12_bits_b25 hS
    · exact eX12_bits_b25 hS
  · rfl
def gX12_real_l131 (q77 : (Nat → Nat → Int32) → (Nat → Nat → Int64) → (Nat → Nat → UInt64) → (Int32) → (Int32) → (Int32) → (Int32) → (UInt64) → (Int32) → (Option ((Nat → Nat → Int32) × (Nat → Nat → Int64) × (Nat → Nat → UInt64) × (Int64)))) (σ : Shp) (R : Nat → Nat → Option Nat) : Nat → (Nat → Nat → Int32) → (Nat → Nat → Int64) → (Nat → Nat → UInt64) → (Int32) → (Int32) → (Int32) → (Int32) → (UInt64) → (Int32) → (UInt64) → (Int32) → Option ((Nat → Nat → Int32) × (Nat → Nat → Int64) × (Nat → Nat → UInt64) × (Int64))
  | 0, _, _, _, _, _, _, _, _, _, _, _ => none
  | n + 1, I, J, D, x1, x3, x4, x5, x6, x8, x9, x11 =>
    if x11 ≤ 0 then
      if ¬ (x11 < 0 ∨ 40 ≤ Int32.toNatClampNeg x11) then
      let D41 := u2 D 187 (Int32.toNatClampNeg x11) x9
      let v42 := x5 + (1 : Int32)
      let v43 := x8 + (1 : Int32)
      q77 I J D41 x1 x3 x4 v42 x6 v43
      else none
    else
      if ¬ ((x11 - (1 : Int32)) < 0 ∨ 40 ≤ Int32.toNatClampNeg (x11 - (1 : Int32))) then
      (fX12_isLess x9 (D 187 (Int32.toNatClampNeg (x11 - (1 : Int32))))).bind fun r45 =>
      if r45 = 0 then
        if ¬ (x11 < 0 ∨ 40 ≤ Int32.toNatClampNeg x11) then
        let D48 := u2 D 187 (Int32.toNatClampNeg x11) x9
        let v49 := x5 + (1 : Int32)
        let v50 := x8 + (1 : Int32)
        q77 I J D48 x1 x3 x4 v49 x6 v50
        else none
      else
        if ¬ (x11 < 0 ∨ 40 ≤ Int32.toNatClampNeg x11) then
        let D52 := u2 D 187 (Int32.toNatClampNeg x11) (D 187 (Int32.toNatClampNeg (x11 - (1 : Int32))))
        let v53 := x11 + (-1 : Int32)
        gX12_real_l131 q77 σ R n I J D52 x1 x3 x4 x5 x6 x8 x9 v53
        else none
      else none
theorem eX12_real_l131 {σ : Shp} {R : Nat → Nat → Option Nat} (hS : Skel σ R) {qf77 q77 : (Nat → Nat → Int32) → (Nat → Nat → Int64) → (Nat → Nat → UInt64) → (Int32) → (Int32) → (Int32) → (Int32) → (UInt64) → (Int32) → (Option ((Nat → Nat → Int32) × (Nat → Nat → Int64) × (Nat → Nat → UInt64) × (Int64)))} (hq77 : ∀ (I : Nat → Nat → Int32) (J : Nat → Nat → Int64) (D : Nat → Nat → UInt64) (x1 : Int32) (x3 : Int32) (x4 : Int32) (x5 : Int32) (x6 : UInt64) (x8 : Int32), qf77 I J D x1 x3 x4 x5 x6 x8 = q77 I J D x1 x3 x4 x5 x6 x8) : ∀ (n : Nat) (I : Nat → Nat → Int32) (J : Nat → Nat → Int64) (D : Nat → Nat → UInt64) (x1 : Int32) (x3 : Int32) (x4 : Int32) (x5 : Int32) (x6 : UInt64) (x8 : Int32) (x9 : UInt64) (x11 : Int32), fX12_real_l131 qf77 σ R 114 n I J D x1 x3 x4 x5 x6 x8 x9 x11 = gX12_real_l131 q77 σ R n I J D x1 x3 x4 x5 x6 x8 x9 x11 := by
  intro n
  induction n with
  | zero => intro I J D x1 x3 x4 x5 x6 x8 x9 x11; rfl
  | succ n ih =>
    intro I J D x1 x3 x4 x5 x6 x8 x9 x11
    rw [fX12_real_l131, gX12_real_l131]
    refine bi (fun c => ?_) (fun c => ?_)
    · refine sg (kq114 hS) ?_
      refine sb (rq114_109 hS) ?_
      refine sg (kq187 hS) ?_
      refine bgr (by rw [lq187 hS]) (fun g40 => ?_)
      exact hq77 _ _ _ _ _ _ _ _ _
    · refine sg (kq114 hS) ?_
      refine sb (rq114_109 hS) ?_
      refine sg (kq187 hS) ?_
      refine bgr (by rw [lq187 hS]) (fun g44 => ?_)
      refine bc rfl (fun r45 hc46 => ?_)
      refine bi (fun c => ?_) (fun c => ?_)
      · try with_reducible refine sg (kq114 hS) ?_
        try with_reducible refine sg (kq187 hS) ?_
        refine bgr (by rw [lq187 hS]) (fun g47 => ?_)
        exact hq77 _ _ _ _ _ _ _ _ _
      · try with_reducible refine sg (kq114 hS) ?_
        try with_reducible refine sg (kq114 hS) ?_
        try with_reducible refine sg (kq187 hS) ?_
        try with_reducible refine sg (by rw [lq187 hS]; exact g44) ?_
        try with_reducible refine sg (kq187 hS) ?_
        refine bgr (by rw [lq187 hS]) (fun g51 => ?_)
        exact ih _ _ _ _ _ _ _ _ _ _ _
def gX12_real_l77  (σ : Shp) (R : Nat → Nat → Option Nat) : Nat → (Nat → Nat → Int32) → (Nat → Nat → Int64) → (Nat → Nat → UInt64) → (Int32) → (Int32) → (Int32) → (Int32) → (UInt64) → (Int32) → Option ((Nat → Nat → Int32) × (Nat → Nat → Int64) × (Nat → Nat → UInt64) × (Int64))
  | 0, _, _, _, _, _, _, _, _, _ => none
  | n + 1, I, J, D, x1, x3, x4, x5, x6, x8 =>
    if ¬ (x4 < 0 ∨ 4100 ≤ Int32.toNatClampNeg x4) then
    if (I 117 (Int32.toNatClampNeg x4)) ≤ x8 then
      if x5 = 0 then
        some (I, J, D, (9221120237041090560 : Int64))
      else
        if x3 = 0 then
          if ¬ ((0 : Int32) < 0 ∨ 40 ≤ Int32.toNatClampNeg (0 : Int32)) then
          (gX12_bits σ I J (D 187 (Int32.toNatClampNeg (0 : Int32)))).bind fun (I29, J30, r31) =>
          some (I29, J30, D, r31)
          else none
        else
          if x3 = (1 : Int32) then
            if ¬ ((x5 - (1 : Int32)) < 0 ∨ 40 ≤ Int32.toNatClampNeg (x5 - (1 : Int32))) then
            (gX12_bits σ I J (D 187 (Int32.toNatClampNeg (x5 - (1 : Int32))))).bind fun (I24, J25, r26) =>
            some (I24, J25, D, r26)
            else none
          else
            if x3 = (2 : Int32) then
              (fX12_overReal x6 (FP.i2d x5)).bind fun r17 =>
              (gX12_bits σ I J r17).bind fun (I19, J20, r21) =>
              some (I19, J20, D, r21)
            else
              if ¬ (((x5 - (1 : Int32)) / (2 : Int32)) < 0 ∨ 40 ≤ Int32.toNatClampNeg ((x5 - (1 : Int32)) / (2 : Int32))) then
              (gX12_bits σ I J (D 187 (Int32.toNatClampNeg ((x5 - (1 : Int32)) / (2 : Int32))))).bind fun (I13, J14, r15) =>
              some (I13, J14, D, r15)
              else none
    else
      if ¬ (x4 < 0 ∨ 4100 ≤ Int32.toNatClampNeg x4) then
      if ¬ (((I 118 (Int32.toNatClampNeg x4)) + x8) < 0 ∨ 164000 ≤ Int32.toNatClampNeg ((I 118 (Int32.toNatClampNeg x4)) + x8)) then
      (fX12_realOf x1 (J 119 (Int32.toNatClampNeg ((I 118 (Int32.toNatClampNeg x4)) + x8)))).bind fun r35 =>
      if (Op.cmpValue (FP.dcmp r35 r35) .l) = 0 then
        (fX12_plusReal x6 r35).bind fun r38 =>
        gX12_real_l131 (gX12_real_l77 σ R n) σ R FUx I J D x1 x3 x4 x5 r38 x8 r35 x5
      else
        let v37 := x8 + (1 : Int32)
        gX12_real_l77 σ R n I J D x1 x3 x4 x5 x6 v37
      else none
      else none
    else none
theorem eX12_real_l77 {σ : Shp} {R : Nat → Nat → Option Nat} (hS : Skel σ R) : ∀ (n : Nat) (I : Nat → Nat → Int32) (J : Nat → Nat → Int64) (D : Nat → Nat → UInt64) (x1 : Int32) (x3 : Int32) (x4 : Int32) (x5 : Int32) (x6 : UInt64) (x8 : Int32), fX12_real_l77 σ R 114 n I J D x1 x3 x4 x5 x6 x8 = gX12_real_l77 σ R n I J D x1 x3 x4 x5 x6 x8 := by
  intro n
  induction n with
  | zero => intro I J D x1 x3 x4 x5 x6 x8; rfl
  | succ n ih =>
    intro I J D x1 x3 x4 x5 x6 x8
    rw [fX12_real_l77, gX12_real_l77]
    refine sg (kq114 hS) ?_
    refine sb (rq114_5 hS) ?_
    refine sg (kq117 hS) ?_
    refine bgr (by rw [lq117 hS]) (fun g11 => ?_)
    refine bi (fun c => ?_) (fun c => ?_)
    · refine bi (fun c => ?_) (fun c => ?_)
      · rfl
      · refine bi (fun c => ?_) (fun c => ?_)
        · try with_reducible refine sg (kq114 hS) ?_
          refine sb (rq114_109 hS) ?_
          refine sg (kq187 hS) ?_
          refine bgr (by rw [lq187 hS]) (fun g28 => ?_)
          try with_reducible refine sg (kq114 hS) ?_
          refine bc (eX12_bits hS) (fun pp hc32 => ?_)
          obtain ⟨I29, J30, r31⟩ := pp
          rfl
        · refine bi (fun c => ?_) (fun c => ?_)
          · try with_reducible refine sg (kq114 hS) ?_
            refine sb (rq114_109 hS) ?_
            refine sg (kq187 hS) ?_
            refine bgr (by rw [lq187 hS]) (fun g23 => ?_)
            try with_reducible refine sg (kq114 hS) ?_
            refine bc (eX12_bits hS) (fun pp hc27 => ?_)
            obtain ⟨I24, J25, r26⟩ := pp
            rfl
          · refine bi (fun c => ?_) (fun c => ?_)
            · refine bc rfl (fun r17 hc18 => ?_)
              try with_reducible refine sg (kq114 hS) ?_
              refine bc (eX12_bits hS) (fun pp hc22 => ?_)
              obtain ⟨I19, J20, r21⟩ := pp
              rfl
            · try with_reducible refine sg (kq114 hS) ?_
              refine sb (rq114_109 hS) ?_
              refine sg (kq187 hS) ?_
              refine bgr (by rw [lq187 hS]) (fun g12 => ?_)
              try with_reducible refine sg (kq114 hS) ?_
              refine bc (eX12_bits hS) (fun pp hc16 => ?_)
              obtain ⟨I13, J14, r15⟩ := pp
              rfl
    · try with_reducible refine sg (kq114 hS) ?_
      refine sb (rq114_8 hS) ?_
      try with_reducible refine sg (kq114 hS) ?_
      refine sb (rq114_6 hS) ?_
      refine sg (kq118 hS) ?_
      refine bgr (by rw [lq118 hS]) (fun g33 => ?_)
      refine sg (kq119 hS) ?_
      refine bgr (by rw [lq119 hS]) (fun g34 => ?_)
      refine bc rfl (fun r35 hc36 => ?_)
      refine bi (fun c => ?_) (fun c => ?_)
      · refine bc rfl (fun r38 hc39 => ?_)
        exact eX12_real_l131 hS ih _ _ _ _ _ _ _ _ _ _ _ _
      · exact ih _ _ _ _ _ _ _ _ _
def gX12_real (σ : Shp) (I : Nat → Nat → Int32) (J : Nat → Nat → Int64) (D : Nat → Nat → UInt64) (R : Nat → Nat → Option Nat) (x1 : Int32) (x2 : Int32) (x3 : Int32) : Option ((Nat → Nat → Int32) × (Nat → Nat → Int64) × (Nat → Nat → UInt64) × (Int64)) :=
  if (fX12_in x1 (6 : Int32) (7 : Int32)) = 0 then
    some (I, J, D, (0 : Int64))
  else
    if (fX12_isBin x2) = 0 then
      some (I, J, D, (0 : Int64))
    else
      if (fX12_in x3 (0 : Int32) (3 : Int32)) = 0 then
        some (I, J, D, (0 : Int64))
      else
        if ¬ (x2 < 0 ∨ 16 ≤ Int32.toNatClampNeg x2) then
        let v2 := (I 115 (Int32.toNatClampNeg x2))
        if v2 = 0 then
          if v2 = 0 then
            (gX12_noBits I (1 : Int32)).bind fun (I6, r7) =>
            some (I6, J, D, r7)
          else
            (gX12_noBits I (4 : Int32)).bind fun (I3, r4) =>
            some (I3, J, D, r4)
        else
          if ¬ (v2 < 0 ∨ 4100 ≤ Int32.toNatClampNeg v2) then
          if (I 116 (Int32.toNatClampNeg v2)) = x1 then
            let v10 := FP.dconst0
            gX12_real_l77 σ R FUx I J D x1 x3 v2 (0 : Int32) v10 (0 : Int32)
          else
            if v2 = 0 then
              (gX12_noBits I (1 : Int32)).bind fun (I57, r58) =>
              some (I57, J, D, r58)
            else
              (gX12_noBits I (4 : Int32)).bind fun (I54, r55) =>
              some (I54, J, D, r55)
          else none
        else none
theorem eX12_real {σ : Shp} {I : Nat → Nat → Int32} {J : Nat → Nat → Int64} {D : Nat → Nat → UInt64} {R : Nat → Nat → Option Nat} {x1 : Int32} {x2 : Int32} {x3 : Int32} (hS : Skel σ R) : fX12_real σ I J D R 114 x1 x2 x3 = gX12_real σ I J D R x1 x2 x3 := by
  unfold fX12_real gX12_real
  refine bi (fun c => ?_) (fun c => ?_)
  · rfl
  · refine bi (fun c => ?_) (fun c => ?_)
    · rfl
    · refine bi (fun c => ?_) (fun c => ?_)
      · rfl
      · refine sg (kq114 hS) ?_
        refine sb (rq114_3 hS) ?_
        refine sg (kq115 hS) ?_
        refine bgr (by rw [lq115 hS]) (fun g1 => ?_)
        refine bi (fun c => ?_) (fun c => ?_)
        · refine bi (fun c => ?_) (fun c => ?_)
          · try with_reducible refine sg (kq114 hS) ?_
            refine bc (eX12_noBits hS) (fun pp hc8 => ?_)
            obtain ⟨I6, r7⟩ := pp
            rfl
          · try with_reducible refine sg (kq114 hS) ?_
            refine bc (eX12_noBits hS) (fun pp hc5 => ?_)
            obtain ⟨I3, r4⟩ := pp
            rfl
        · try with_reducible refine sg (kq114 hS) ?_
          refine sb (rq114_4 hS) ?_
          refine sg (kq116 hS) ?_
          refine bgr (by rw [lq116 hS]) (fun g9 => ?_)
          refine bi (fun c => ?_) (fun c => ?_)
          · exact eX12_real_l77 hS _ _ _ _ _ _ _ _ _ _
          · refine bi (fun c => ?_) (fun c => ?_)
            · try with_reducible refine sg (kq114 hS) ?_
              refine bc (eX12_noBits hS) (fun pp hc59 => ?_)
              obtain ⟨I57, r58⟩ := pp
              rfl
            · try with_reducible refine sg (kq114 hS) ?_
              refine bc (eX12_noBits hS) (fun pp hc56 => ?_)
              obtain ⟨I54, r55⟩ := pp
              rfl
def gX12_wholeMean_l70  (σ : Shp) (J : Nat → Nat → Int64) (R : Nat → Nat → Option Nat) : Nat → (Nat → Nat → Int32) → (Int32) → (Int64) → (Int32) → Option ((Nat → Nat → Int32) × (Int32))
  | 0, _, _, _, _ => none
  | n + 1, I, x2, x4, x6 =>
    if ¬ (x2 < 0 ∨ 4100 ≤ Int32.toNatClampNeg x2) then
    if (I 117 (Int32.toNatClampNeg x2)) ≤ x6 then
      if ¬ (Int32.toInt64 (I 117 (Int32.toNatClampNeg x2))) = 0 then
      let I8 := u2 I 114 25 (Int64.toInt32 (x4 / (Int32.toInt64 (I 117 (Int32.toNatClampNeg x2)))))
      some (I8, (1 : Int32))
      else none
    else
      if ¬ (x2 < 0 ∨ 4100 ≤ Int32.toNatClampNeg x2) then
      if ¬ (((I 118 (Int32.toNatClampNeg x2)) + x6) < 0 ∨ 164000 ≤ Int32.toNatClampNeg ((I 118 (Int32.toNatClampNeg x2)) + x6)) then
      let v11 := (x4 + (J 119 (Int32.toNatClampNeg ((I 118 (Int32.toNatClampNeg x2)) + x6))))
      let v12 := x6 + (1 : Int32)
      gX12_wholeMean_l70 σ J R n I x2 v11 v12
      else none
      else none
    else none
theorem eX12_wholeMean_l70 {σ : Shp} {J : Nat → Nat → Int64} {R : Nat → Nat → Option Nat} (hS : Skel σ R) : ∀ (n : Nat) (I : Nat → Nat → Int32) (x2 : Int32) (x4 : Int64) (x6 : Int32), fX12_wholeMean_l70 σ J R 114 n I x2 x4 x6 = gX12_wholeMean_l70 σ J R n I x2 x4 x6 := by
  intro n
  induction n with
  | zero => intro I x2 x4 x6; rfl
  | succ n ih =>
    intro I x2 x4 x6
    rw [fX12_wholeMean_l70, gX12_wholeMean_l70]
    refine sg (kq114 hS) ?_
    refine sb (rq114_5 hS) ?_
    refine sg (kq117 hS) ?_
    refine bgr (by rw [lq117 hS]) (fun g6 => ?_)
    refine bi (fun c => ?_) (fun c => ?_)
    · try with_reducible refine sg (kq114 hS) ?_
      try with_reducible refine sg (kq117 hS) ?_
      try with_reducible refine sg (by rw [lq117 hS]; exact g6) ?_
      refine bg (fun g7 => ?_)
      try with_reducible refine sg (kq114 hS) ?_
      rfl
    · try with_reducible refine sg (kq114 hS) ?_
      refine sb (rq114_8 hS) ?_
      try with_reducible refine sg (kq114 hS) ?_
      refine sb (rq114_6 hS) ?_
      refine sg (kq118 hS) ?_
      refine bgr (by rw [lq118 hS]) (fun g9 => ?_)
      refine sg (kq119 hS) ?_
      refine bgr (by rw [lq119 hS]) (fun g10 => ?_)
      exact ih _ _ _ _
def gX12_wholeMean (σ : Shp) (I : Nat → Nat → Int32) (J : Nat → Nat → Int64) (R : Nat → Nat → Option Nat) (x1 : Int32) : Option ((Nat → Nat → Int32) × (Int32)) :=
  if (fX12_isBin x1) = 0 then
    some (I, (-2 : Int32))
  else
    if ¬ (x1 < 0 ∨ 16 ≤ Int32.toNatClampNeg x1) then
    let v2 := (I 115 (Int32.toNatClampNeg x1))
    (gX12_isOf I v2 (4 : Int32)).bind fun r3 =>
    if r3 = 0 then
      if (4 : Int32) = 0 then
        gX12_wholeMean_l70 σ J R FUx I v2 (0 : Int64) (0 : Int32)
      else
        (gX12_no I (4 : Int32)).bind fun (I22, r23) =>
        some (I22, r23)
    else
      if v2 = 0 then
        if (1 : Int32) = 0 then
          gX12_wholeMean_l70 σ J R FUx I v2 (0 : Int64) (0 : Int32)
        else
          (gX12_no I (1 : Int32)).bind fun (I19, r20) =>
          some (I19, r20)
      else
        if ¬ (v2 < 0 ∨ 4100 ≤ Int32.toNatClampNeg v2) then
        if (I 117 (Int32.toNatClampNeg v2)) = 0 then
          if (6 : Int32) = 0 then
            gX12_wholeMean_l70 σ J R FUx I v2 (0 : Int64) (0 : Int32)
          else
            (gX12_no I (6 : Int32)).bind fun (I16, r17) =>
            some (I16, r17)
        else
          if (0 : Int32) = 0 then
            gX12_wholeMean_l70 σ J R FUx I v2 (0 : Int64) (0 : Int32)
          else
            (gX12_no I (0 : Int32)).bind fun (I13, r14) =>
            some (I13, r14)
        else none
    else none
theorem eX12_wholeMean {σ : Shp} {I : Nat → Nat → Int32} {J : Nat → Nat → Int64} {R : Nat → Nat → Option Nat} {x1 : Int32} (hS : Skel σ R) : fX12_wholeMean σ I J R 114 x1 = gX12_wholeMean σ I J R x1 := by
  unfold fX12_wholeMean gX12_wholeMean
  refine bi (fun c => ?_) (fun c => ?_)
  · rfl
  · refine sg (kq114 hS) ?_
    refine sb (rq114_3 hS) ?_
    refine sg (kq115 hS) ?_
    refine bgr (by rw [lq115 hS]) (fun g1 => ?_)
    try with_reducible refine sg (kq114 hS) ?_
    refine bc (eX12_isOf hS) (fun r3 hc4 => ?_)
    refine bi (fun c => ?_) (fun c => ?_)
    · refine bi (fun c => ?_) (fun c => ?_)
      · exact eX12_wholeMean_l70 hS _ _ _ _ _
      · try with_reducible refine sg (kq114 hS) ?_
        refine bc (eX12_no hS) (fun pp hc24 => ?_)
        obtain ⟨I22, r23⟩ := pp
        rfl
    · refine bi (fun c => ?_) (fun c => ?_)
      · refine bi (fun c => ?_) (fun c => ?_)
        · exact eX12_wholeMean_l70 hS _ _ _ _ _
        · try with_reducible refine sg (kq114 hS) ?_
          refine bc (eX12_no hS) (fun pp hc21 => ?_)
          obtain ⟨I19, r20⟩ := pp
          rfl
      · try with_reducible refine sg (kq114 hS) ?_
        refine sb (rq114_5 hS) ?_
        refine sg (kq117 hS) ?_
        refine bgr (by rw [lq117 hS]) (fun g5 => ?_)
        refine bi (fun c => ?_) (fun c => ?_)
        · refine bi (fun c => ?_) (fun c => ?_)
          · exact eX12_wholeMean_l70 hS _ _ _ _ _
          · try with_reducible refine sg (kq114 hS) ?_
            refine bc (eX12_no hS) (fun pp hc18 => ?_)
            obtain ⟨I16, r17⟩ := pp
            rfl
        · refine bi (fun c => ?_) (fun c => ?_)
          · exact eX12_wholeMean_l70 hS _ _ _ _ _
          · try with_reducible refine sg (kq114 hS) ?_
            refine bc (eX12_no hS) (fun pp hc15 => ?_)
            obtain ⟨I13, r14⟩ := pp
            rfl
def gX12_salt_b33  (σ : Shp) (R : Nat → Nat → Option Nat) (I : Nat → Nat → Int32) (x1 : Int32) (x2 : Int32) (x3 : Int32) (s0 : Int32) (s1 : Int32) (s2 : Int32) : Option ((Nat → Nat → Int32) × (Int32)) :=
  if (fX12_in s0 s1 s2) = 0 then
    some (I, (-2 : Int32))
  else
    if ¬ ((((3 : Int32) * x1) + x2) < 0 ∨ 18 ≤ Int32.toNatClampNeg (((3 : Int32) * x1) + x2)) then
    let v2 := (I 188 (Int32.toNatClampNeg (((3 : Int32) * x1) + x2)))
    let I3 := u2 I 188 (Int32.toNatClampNeg (((3 : Int32) * x1) + x2)) x3
    some (I3, v2)
    else none
theorem eX12_salt_b33 {σ : Shp} {I : Nat → Nat → Int32} {R : Nat → Nat → Option Nat} {x1 : Int32} {x2 : Int32} {x3 : Int32} {s0 : Int32} {s1 : Int32} {s2 : Int32} (hS : Skel σ R) : fX12_salt_b33 σ R 114 I x1 x2 x3 s0 s1 s2 = gX12_salt_b33 σ R I x1 x2 x3 s0 s1 s2 := by
  unfold fX12_salt_b33 gX12_salt_b33
  refine bi (fun c => ?_) (fun c => ?_)
  · rfl
  · refine sg (kq114 hS) ?_
    refine sb (rq114_110 hS) ?_
    refine sg (kq188 hS) ?_
    refine bgr (by rw [lq188 hS]) (fun g1 => ?_)
    try with_reducible refine sg (kq114 hS) ?_
    try with_reducible refine sg (kq188 hS) ?_
    try with_reducible refine sg (by rw [lq188 hS]; exact g1) ?_
    rfl
def gX12_salt (σ : Shp) (I : Nat → Nat → Int32) (R : Nat → Nat → Option Nat) (x1 : Int32) (x2 : Int32) (x3 : Int32) : Option ((Nat → Nat → Int32) × (Int32)) :=
  if (fX12_in x1 (0 : Int32) (5 : Int32)) = 0 then
    some (I, (-2 : Int32))
  else
    if (fX12_in x2 (0 : Int32) (2 : Int32)) = 0 then
      some (I, (-2 : Int32))
    else
      if (4 : Int32) ≤ x1 then
        gX12_salt_b33 σ R I x1 x2 x3 x3 (0 : Int32) (999 : Int32)
      else
        gX12_salt_b33 σ R I x1 x2 x3 x3 (0 : Int32) (99 : Int32)
theorem eX12_salt {σ : Shp} {I : Nat → Nat → Int32} {R : Nat → Nat → Option Nat} {x1 : Int32} {x2 : Int32} {x3 : Int32} (hS : Skel σ R) : fX12_salt σ I R 114 x1 x2 x3 = gX12_salt σ I R x1 x2 x3 := by
  unfold fX12_salt gX12_salt
  refine bi (fun c => ?_) (fun c => ?_)
  · rfl
  · refine bi (fun c => ?_) (fun c => ?_)
    · rfl
    · refine bi (fun c => ?_) (fun c => ?_)
      · exact eX12_salt_b33 hS
      · exact eX12_salt_b33 hS
def gX12_fraction_b23  (σ : Shp) (R : Nat → Nat → Option Nat) (J : Nat → Nat → Int64) (x1 : Int32) (x2 : Int64) (x4 : Int64) (s0 : Int64) : Option ((Nat → Nat → Int64)) :=
  if ¬ s0 = 0 then
  if ¬ (x1 < 0 ∨ 24 ≤ Int32.toNatClampNeg x1) then
  let J5 := u2 J 189 (Int32.toNatClampNeg x1) (x2 / s0)
  if ¬ (x1 < 0 ∨ 24 ≤ Int32.toNatClampNeg x1) then
  let J7 := u2 J5 190 (Int32.toNatClampNeg x1) (x4 / s0)
  some J7
  else none
  else none
  else none
theorem eX12_fraction_b23 {σ : Shp} {J : Nat → Nat → Int64} {R : Nat → Nat → Option Nat} {x1 : Int32} {x2 : Int64} {x4 : Int64} {s0 : Int64} (hS : Skel σ R) : fX12_fraction_b23 σ R 114 J x1 x2 x4 s0 = gX12_fraction_b23 σ R J x1 x2 x4 s0 := by
  unfold fX12_fraction_b23 gX12_fraction_b23
  refine sg (kq114 hS) ?_
  refine sb (rq114_111 hS) ?_
  refine bg (fun g3 => ?_)
  refine sg (kq189 hS) ?_
  refine bgr (by rw [lq189 hS]) (fun g4 => ?_)
  try with_reducible refine sg (kq114 hS) ?_
  refine sb (rq114_112 hS) ?_
  refine sg (kq190 hS) ?_
  refine bgr (by rw [lq190 hS]) (fun g6 => ?_)
  rfl
def gX12_fraction (σ : Shp) (J : Nat → Nat → Int64) (R : Nat → Nat → Option Nat) (x1 : Int32) (x2 : Int64) (x4 : Int64) : Option ((Nat → Nat → Int64)) :=
  (fX12_common x2 x4).bind fun r1 =>
  if (0 : Int64) ≤ x4 then
    gX12_fraction_b23 σ R J x1 x2 x4 r1
  else
    gX12_fraction_b23 σ R J x1 x2 x4 (-r1)
theorem eX12_fraction {σ : Shp} {J : Nat → Nat → Int64} {R : Nat → Nat → Option Nat} {x1 : Int32} {x2 : Int64} {x4 : Int64} (hS : Skel σ R) : fX12_fraction σ J R 114 x1 x2 x4 = gX12_fraction σ J R x1 x2 x4 := by
  unfold fX12_fraction gX12_fraction
  refine bc rfl (fun r1 hc2 => ?_)
  refine bi (fun c => ?_) (fun c => ?_)
  · exact eX12_fraction_b23 hS
  · exact eX12_fraction_b23 hS
def gX12_less_b55  (σ : Shp) (R : Nat → Nat → Option Nat) (J : Nat → Nat → Int64) (x1 : Int32) (x2 : Int64) (x4 : Int64) (x6 : Int32) (x7 : Int64) (s0 : Int64) : Option ((Nat → Nat → Int64)) :=
  if ¬ x7 = 0 then
  if ¬ (x6 < 0 ∨ 24 ≤ Int32.toNatClampNeg x6) then
  if ¬ s0 = 0 then
  let v10 := ((x2 / x7) * ((J 189 (Int32.toNatClampNeg x6)) / s0))
  if ¬ (x6 < 0 ∨ 24 ≤ Int32.toNatClampNeg x6) then
  let v12 := ((x4 / s0) * ((J 190 (Int32.toNatClampNeg x6)) / x7))
  if ¬ (x1 < 0 ∨ 24 ≤ Int32.toNatClampNeg x1) then
  (fX12_common (J 190 (Int32.toNatClampNeg x1)) v12).bind fun r14 =>
  if ¬ (x1 < 0 ∨ 24 ≤ Int32.toNatClampNeg x1) then
  if ¬ r14 = 0 then
  (gX12_fraction σ J R x1 (((J 189 (Int32.toNatClampNeg x1)) * (v12 / r14)) - (v10 * ((J 190 (Int32.toNatClampNeg x1)) / r14))) (((J 190 (Int32.toNatClampNeg x1)) / r14) * v12)).bind fun J18 =>
  some J18
  else none
  else none
  else none
  else none
  else none
  else none
  else none
theorem eX12_less_b55 {σ : Shp} {J : Nat → Nat → Int64} {R : Nat → Nat → Option Nat} {x1 : Int32} {x2 : Int64} {x4 : Int64} {x6 : Int32} {x7 : Int64} {s0 : Int64} (hS : Skel σ R) : fX12_less_b55 σ R 114 J x1 x2 x4 x6 x7 s0 = gX12_less_b55 σ R J x1 x2 x4 x6 x7 s0 := by
  unfold fX12_less_b55 gX12_less_b55
  refine bg (fun g7 => ?_)
  refine sg (kq114 hS) ?_
  refine sb (rq114_111 hS) ?_
  refine sg (kq189 hS) ?_
  refine bgr (by rw [lq189 hS]) (fun g8 => ?_)
  refine bg (fun g9 => ?_)
  try with_reducible refine sg (kq114 hS) ?_
  refine sb (rq114_112 hS) ?_
  refine sg (kq190 hS) ?_
  refine bgr (by rw [lq190 hS]) (fun g11 => ?_)
  try with_reducible refine sg (kq114 hS) ?_
  try with_reducible refine sg (kq190 hS) ?_
  refine bgr (by rw [lq190 hS]) (fun g13 => ?_)
  refine bc rfl (fun r14 hc15 => ?_)
  try with_reducible refine sg (kq114 hS) ?_
  try with_reducible refine sg (kq189 hS) ?_
  refine bgr (by rw [lq189 hS]) (fun g16 => ?_)
  refine bg (fun g17 => ?_)
  try with_reducible refine sg (kq114 hS) ?_
  try with_reducible refine sg (kq190 hS) ?_
  try with_reducible refine sg (by rw [lq190 hS]; exact g13) ?_
  try with_reducible refine sg (kq114 hS) ?_
  try with_reducible refine sg (kq190 hS) ?_
  try with_reducible refine sg (by rw [lq190 hS]; exact g13) ?_
  try with_reducible refine sg (kq114 hS) ?_
  refine bc (eX12_fraction hS) (fun J18 hc19 => ?_)
  rfl
def gX12_less (σ : Shp) (J : Nat → Nat → Int64) (R : Nat → Nat → Option Nat) (x1 : Int32) (x2 : Int64) (x4 : Int64) (x6 : Int32) : Option ((Nat → Nat → Int64)) :=
  if ¬ (x6 < 0 ∨ 24 ≤ Int32.toNatClampNeg x6) then
  (fX12_common x2 (J 190 (Int32.toNatClampNeg x6))).bind fun r2 =>
  if ¬ (x6 < 0 ∨ 24 ≤ Int32.toNatClampNeg x6) then
  (fX12_common (J 189 (Int32.toNatClampNeg x6)) x4).bind fun r5 =>
  if r2 = (0 : Int64) then
    if r5 = (0 : Int64) then
      gX12_less_b55 σ R J x1 x2 x4 x6 (1 : Int64) (1 : Int64)
    else
      gX12_less_b55 σ R J x1 x2 x4 x6 (1 : Int64) r5
  else
    if r5 = (0 : Int64) then
      gX12_less_b55 σ R J x1 x2 x4 x6 r2 (1 : Int64)
    else
      gX12_less_b55 σ R J x1 x2 x4 x6 r2 r5
  else none
  else none
theorem eX12_less {σ : Shp} {J : Nat → Nat → Int64} {R : Nat → Nat → Option Nat} {x1 : Int32} {x2 : Int64} {x4 : Int64} {x6 : Int32} (hS : Skel σ R) : fX12_less σ J R 114 x1 x2 x4 x6 = gX12_less σ J R x1 x2 x4 x6 := by
  unfold fX12_less gX12_less
  refine sg (kq114 hS) ?_
  refine sb (rq114_112 hS) ?_
  refine sg (kq190 hS) ?_
  refine bgr (by rw [lq190 hS]) (fun g1 => ?_)
  refine bc rfl (fun r2 hc3 => ?_)
  try with_reducible refine sg (kq114 hS) ?_
  refine sb (rq114_111 hS) ?_
  refine sg (kq189 hS) ?_
  refine bgr (by rw [lq189 hS]) (fun g4 => ?_)
  refine bc rfl (fun r5 hc6 => ?_)
  refine bi (fun c => ?_) (fun c => ?_)
  · refine bi (fun c => ?_) (fun c => ?_)
    · exact eX12_less_b55 hS
    · exact eX12_less_b55 hS
  · refine bi (fun c => ?_) (fun c => ?_)
    · exact eX12_less_b55 hS
    · exact eX12_less_b55 hS
def gX12_liftRow_l2  (σ : Shp) (I : Nat → Nat → Int32) (R : Nat → Nat → Option Nat) : Nat → (Nat → Nat → Int64) → (Int32) → (Int32) → Option ((Nat → Nat → Int64))
  | 0, _, _, _ => none
  | n + 1, J, x1, x2 =>
    if (8 : Int32) ≤ x2 then
      some J
    else
      if ¬ ((((8 : Int32) * x1) + x2) < 0 ∨ 24 ≤ Int32.toNatClampNeg (((8 : Int32) * x1) + x2)) then
      let v2 := (J 189 (Int32.toNatClampNeg (((8 : Int32) * x1) + x2)))
      if ¬ ((((8 : Int32) * x1) + x2) < 0 ∨ 24 ≤ Int32.toNatClampNeg (((8 : Int32) * x1) + x2)) then
      let v4 := (J 190 (Int32.toNatClampNeg (((8 : Int32) * x1) + x2)))
      if ¬ ((((8 : Int32) * (I 114 114)) + x2) < 0 ∨ 24 ≤ Int32.toNatClampNeg (((8 : Int32) * (I 114 114)) + x2)) then
      let J6 := u2 J 189 (Int32.toNatClampNeg (((8 : Int32) * x1) + x2)) (J 189 (Int32.toNatClampNeg (((8 : Int32) * (I 114 114)) + x2)))
      if ¬ ((((8 : Int32) * (I 114 114)) + x2) < 0 ∨ 24 ≤ Int32.toNatClampNeg (((8 : Int32) * (I 114 114)) + x2)) then
      let J8 := u2 J6 190 (Int32.toNatClampNeg (((8 : Int32) * x1) + x2)) (J6 190 (Int32.toNatClampNeg (((8 : Int32) * (I 114 114)) + x2)))
      let J9 := u2 J8 189 (Int32.toNatClampNeg (((8 : Int32) * (I 114 114)) + x2)) v2
      let J10 := u2 J9 190 (Int32.toNatClampNeg (((8 : Int32) * (I 114 114)) + x2)) v4
      let v11 := x2 + (1 : Int32)
      gX12_liftRow_l2 σ I R n J10 x1 v11
      else none
      else none
      else none
      else none
theorem eX12_liftRow_l2 {σ : Shp} {I : Nat → Nat → Int32} {R : Nat → Nat → Option Nat} (hS : Skel σ R) : ∀ (n : Nat) (J : Nat → Nat → Int64) (x1 : Int32) (x2 : Int32), fX12_liftRow_l2 σ I R 114 n J x1 x2 = gX12_liftRow_l2 σ I R n J x1 x2 := by
  intro n
  induction n with
  | zero => intro J x1 x2; rfl
  | succ n ih =>
    intro J x1 x2
    rw [fX12_liftRow_l2, gX12_liftRow_l2]
    refine bi (fun c => ?_) (fun c => ?_)
    · rfl
    · refine sg (kq114 hS) ?_
      refine sb (rq114_111 hS) ?_
      refine sg (kq189 hS) ?_
      refine bgr (by rw [lq189 hS]) (fun g1 => ?_)
      try with_reducible refine sg (kq114 hS) ?_
      refine sb (rq114_112 hS) ?_
      refine sg (kq190 hS) ?_
      refine bgr (by rw [lq190 hS]) (fun g3 => ?_)
      try with_reducible refine sg (kq114 hS) ?_
      try with_reducible refine sg (kq114 hS) ?_
      try with_reducible refine sg (kq114 hS) ?_
      try with_reducible refine sg (kq189 hS) ?_
      refine bgr (by rw [lq189 hS]) (fun g5 => ?_)
      try with_reducible refine sg (kq189 hS) ?_
      try with_reducible refine sg (by rw [lq189 hS]; exact g1) ?_
      try with_reducible refine sg (kq114 hS) ?_
      try with_reducible refine sg (kq114 hS) ?_
      try with_reducible refine sg (kq114 hS) ?_
      try with_reducible refine sg (kq190 hS) ?_
      refine bgr (by rw [lq190 hS]) (fun g7 => ?_)
      try with_reducible refine sg (kq190 hS) ?_
      try with_reducible refine sg (by rw [lq190 hS]; exact g3) ?_
      try with_reducible refine sg (kq114 hS) ?_
      try with_reducible refine sg (kq114 hS) ?_
      try with_reducible refine sg (kq189 hS) ?_
      try with_reducible refine sg (by rw [lq189 hS]; exact g5) ?_
      try with_reducible refine sg (kq114 hS) ?_
      try with_reducible refine sg (kq114 hS) ?_
      try with_reducible refine sg (kq190 hS) ?_
      try with_reducible refine sg (by rw [lq190 hS]; exact g7) ?_
      exact ih _ _ _
def gX12_liftRow (σ : Shp) (I : Nat → Nat → Int32) (J : Nat → Nat → Int64) (R : Nat → Nat → Option Nat) (x1 : Int32) : Option ((Nat → Nat → Int64)) :=
  gX12_liftRow_l2 σ I R FUx J x1 (0 : Int32)
theorem eX12_liftRow {σ : Shp} {I : Nat → Nat → Int32} {J : Nat → Nat → Int64} {R : Nat → Nat → Option Nat} {x1 : Int32} (hS : Skel σ R) : fX12_liftRow σ I J R 114 x1 = gX12_liftRow σ I J R x1 := by
  unfold fX12_liftRow gX12_liftRow
  exact eX12_liftRow_l2 hS _ _ _ _
def gX12_clear_l191 (q154 : (Nat → Nat → Int32) → (Nat → Nat → Int64) → (Int32) → (Int32) → (Option ((Nat → Nat → Int32) × (Nat → Nat → Int64)))) (σ : Shp) (R : Nat → Nat → Option Nat) : Nat → (Nat → Nat → Int32) → (Nat → Nat → Int64) → (Int32) → (Int32) → (Int64) → (Int64) → (Int32) → Option ((Nat → Nat → Int32) × (Nat → Nat → Int64))
  | 0, _, _, _, _, _, _, _ => none
  | n + 1, I, J, x1, x6, x7, x9, x11 =>
    if (8 : Int32) ≤ x11 then
      let v12 := x6 + (1 : Int32)
      q154 I J x1 v12
    else
      if x6 = (I 114 114) then
        let v13 := x6 + (1 : Int32)
        q154 I J x1 v13
      else
        if x7 = (0 : Int64) then
          let v14 := x6 + (1 : Int32)
          q154 I J x1 v14
        else
          (gX12_less σ J R (((8 : Int32) * x6) + x11) x7 x9 (((8 : Int32) * (I 114 114)) + x11)).bind fun J15 =>
          let v17 := x11 + (1 : Int32)
          gX12_clear_l191 q154 σ R n I J15 x1 x6 x7 x9 v17
theorem eX12_clear_l191 {σ : Shp} {R : Nat → Nat → Option Nat} (hS : Skel σ R) {qf154 q154 : (Nat → Nat → Int32) → (Nat → Nat → Int64) → (Int32) → (Int32) → (Option ((Nat → Nat → Int32) × (Nat → Nat → Int64)))} (hq154 : ∀ (I : Nat → Nat → Int32) (J : Nat → Nat → Int64) (x1 : Int32) (x6 : Int32), qf154 I J x1 x6 = q154 I J x1 x6) : ∀ (n : Nat) (I : Nat → Nat → Int32) (J : Nat → Nat → Int64) (x1 : Int32) (x6 : Int32) (x7 : Int64) (x9 : Int64) (x11 : Int32), fX12_clear_l191 qf154 σ R 114 n I J x1 x6 x7 x9 x11 = gX12_clear_l191 q154 σ R n I J x1 x6 x7 x9 x11 := by
  intro n
  induction n with
  | zero => intro I J x1 x6 x7 x9 x11; rfl
  | succ n ih =>
    intro I J x1 x6 x7 x9 x11
    rw [fX12_clear_l191, gX12_clear_l191]
    refine bi (fun c => ?_) (fun c => ?_)
    · exact hq154 _ _ _ _
    · refine sg (kq114 hS) ?_
      refine bi (fun c => ?_) (fun c => ?_)
      · exact hq154 _ _ _ _
      · refine bi (fun c => ?_) (fun c => ?_)
        · exact hq154 _ _ _ _
        · try with_reducible refine sg (kq114 hS) ?_
          try with_reducible refine sg (kq114 hS) ?_
          refine bc (eX12_less hS) (fun J15 hc16 => ?_)
          exact ih _ _ _ _ _ _ _
def gX12_clear_l154  (σ : Shp) (R : Nat → Nat → Option Nat) : Nat → (Nat → Nat → Int32) → (Nat → Nat → Int64) → (Int32) → (Int32) → Option ((Nat → Nat → Int32) × (Nat → Nat → Int64))
  | 0, _, _, _, _ => none
  | n + 1, I, J, x1, x6 =>
    if (3 : Int32) ≤ x6 then
      if ¬ ((I 114 114) < 0 ∨ 3 ≤ Int32.toNatClampNeg (I 114 114)) then
      let I6 := u2 I 191 (Int32.toNatClampNeg (I 114 114)) x1
      let I7 := u2 I6 114 114 ((I6 114 114) + (1 : Int32))
      some (I7, J)
      else none
    else
      if ¬ ((((8 : Int32) * x6) + x1) < 0 ∨ 24 ≤ Int32.toNatClampNeg (((8 : Int32) * x6) + x1)) then
      let v9 := (J 189 (Int32.toNatClampNeg (((8 : Int32) * x6) + x1)))
      if ¬ ((((8 : Int32) * x6) + x1) < 0 ∨ 24 ≤ Int32.toNatClampNeg (((8 : Int32) * x6) + x1)) then
      let v11 := (J 190 (Int32.toNatClampNeg (((8 : Int32) * x6) + x1)))
      gX12_clear_l191 (gX12_clear_l154 σ R n) σ R FUx I J x1 x6 v9 v11 (0 : Int32)
      else none
      else none
theorem eX12_clear_l154 {σ : Shp} {R : Nat → Nat → Option Nat} (hS : Skel σ R) : ∀ (n : Nat) (I : Nat → Nat → Int32) (J : Nat → Nat → Int64) (x1 : Int32) (x6 : Int32), fX12_clear_l154 σ R 114 n I J x1 x6 = gX12_clear_l154 σ R n I J x1 x6 := by
  intro n
  induction n with
  | zero => intro I J x1 x6; rfl
  | succ n ih =>
    intro I J x1 x6
    rw [fX12_clear_l154, gX12_clear_l154]
    refine bi (fun c => ?_) (fun c => ?_)
    · refine sg (kq114 hS) ?_
      refine sb (rq114_113 hS) ?_
      try with_reducible refine sg (kq114 hS) ?_
      refine sg (kq191 hS) ?_
      refine bgr (by rw [lq191 hS]) (fun g5 => ?_)
      try with_reducible refine sg (kq114 hS) ?_
      try with_reducible refine sg (kq114 hS) ?_
      rfl
    · refine sg (kq114 hS) ?_
      refine sb (rq114_111 hS) ?_
      refine sg (kq189 hS) ?_
      refine bgr (by rw [lq189 hS]) (fun g8 => ?_)
      try with_reducible refine sg (kq114 hS) ?_
      refine sb (rq114_112 hS) ?_
      refine sg (kq190 hS) ?_
      refine bgr (by rw [lq190 hS]) (fun g10 => ?_)
      exact eX12_clear_l191 hS ih _ _ _ _ _ _ _ _
def gX12_clear_l34  (σ : Shp) (R : Nat → Nat → Option Nat) : Nat → (Nat → Nat → Int32) → (Nat → Nat → Int64) → (Int32) → (Int64) → (Int64) → (Int32) → Option ((Nat → Nat → Int32) × (Nat → Nat → Int64))
  | 0, _, _, _, _, _, _ => none
  | n + 1, I, J, x1, x2, x4, x6 =>
    if (8 : Int32) ≤ x6 then
      gX12_clear_l154 σ R FUx I J x1 (0 : Int32)
    else
      if ¬ ((((8 : Int32) * (I 114 114)) + x6) < 0 ∨ 24 ≤ Int32.toNatClampNeg (((8 : Int32) * (I 114 114)) + x6)) then
      (fX12_common (J 189 (Int32.toNatClampNeg (((8 : Int32) * (I 114 114)) + x6))) x2).bind fun r19 =>
      if ¬ ((((8 : Int32) * (I 114 114)) + x6) < 0 ∨ 24 ≤ Int32.toNatClampNeg (((8 : Int32) * (I 114 114)) + x6)) then
      (fX12_common x4 (J 190 (Int32.toNatClampNeg (((8 : Int32) * (I 114 114)) + x6)))).bind fun r22 =>
      if ¬ r19 = 0 then
      if ¬ r22 = 0 then
      (gX12_fraction σ J R (((8 : Int32) * (I 114 114)) + x6) (((J 189 (Int32.toNatClampNeg (((8 : Int32) * (I 114 114)) + x6))) / r19) * (x4 / r22)) (((J 190 (Int32.toNatClampNeg (((8 : Int32) * (I 114 114)) + x6))) / r22) * (x2 / r19))).bind fun J26 =>
      let v28 := x6 + (1 : Int32)
      gX12_clear_l34 σ R n I J26 x1 x2 x4 v28
      else none
      else none
      else none
      else none
theorem eX12_clear_l34 {σ : Shp} {R : Nat → Nat → Option Nat} (hS : Skel σ R) : ∀ (n : Nat) (I : Nat → Nat → Int32) (J : Nat → Nat → Int64) (x1 : Int32) (x2 : Int64) (x4 : Int64) (x6 : Int32), fX12_clear_l34 σ R 114 n I J x1 x2 x4 x6 = gX12_clear_l34 σ R n I J x1 x2 x4 x6 := by
  intro n
  induction n with
  | zero => intro I J x1 x2 x4 x6; rfl
  | succ n ih =>
    intro I J x1 x2 x4 x6
    rw [fX12_clear_l34, gX12_clear_l34]
    refine bi (fun c => ?_) (fun c => ?_)
    · exact eX12_clear_l154 hS _ _ _ _ _
    · refine sg (kq114 hS) ?_
      refine sb (rq114_111 hS) ?_
      try with_reducible refine sg (kq114 hS) ?_
      refine sg (kq189 hS) ?_
      refine bgr (by rw [lq189 hS]) (fun g18 => ?_)
      refine bc rfl (fun r19 hc20 => ?_)
      try with_reducible refine sg (kq114 hS) ?_
      refine sb (rq114_112 hS) ?_
      try with_reducible refine sg (kq114 hS) ?_
      refine sg (kq190 hS) ?_
      refine bgr (by rw [lq190 hS]) (fun g21 => ?_)
      refine bc rfl (fun r22 hc23 => ?_)
      try with_reducible refine sg (kq114 hS) ?_
      try with_reducible refine sg (kq114 hS) ?_
      try with_reducible refine sg (kq114 hS) ?_
      try with_reducible refine sg (kq189 hS) ?_
      try with_reducible refine sg (by rw [lq189 hS]; exact g18) ?_
      refine bg (fun g24 => ?_)
      refine bg (fun g25 => ?_)
      try with_reducible refine sg (kq114 hS) ?_
      try with_reducible refine sg (kq114 hS) ?_
      try with_reducible refine sg (kq190 hS) ?_
      try with_reducible refine sg (by rw [lq190 hS]; exact g21) ?_
      try with_reducible refine sg (kq114 hS) ?_
      refine bc (eX12_fraction hS) (fun J26 hc27 => ?_)
      exact ih _ _ _ _ _ _
def gX12_clear (σ : Shp) (I : Nat → Nat → Int32) (J : Nat → Nat → Int64) (R : Nat → Nat → Option Nat) (x1 : Int32) : Option ((Nat → Nat → Int32) × (Nat → Nat → Int64)) :=
  if ¬ ((((8 : Int32) * (I 114 114)) + x1) < 0 ∨ 24 ≤ Int32.toNatClampNeg (((8 : Int32) * (I 114 114)) + x1)) then
  let v2 := (J 189 (Int32.toNatClampNeg (((8 : Int32) * (I 114 114)) + x1)))
  if ¬ ((((8 : Int32) * (I 114 114)) + x1) < 0 ∨ 24 ≤ Int32.toNatClampNeg (((8 : Int32) * (I 114 114)) + x1)) then
  let v4 := (J 190 (Int32.toNatClampNeg (((8 : Int32) * (I 114 114)) + x1)))
  gX12_clear_l34 σ R FUx I J x1 v2 v4 (0 : Int32)
  else none
  else none
theorem eX12_clear {σ : Shp} {I : Nat → Nat → Int32} {J : Nat → Nat → Int64} {R : Nat → Nat → Option Nat} {x1 : Int32} (hS : Skel σ R) : fX12_clear σ I J R 114 x1 = gX12_clear σ I J R x1 := by
  unfold fX12_clear gX12_clear
  refine sg (kq114 hS) ?_
  refine sb (rq114_111 hS) ?_
  try with_reducible refine sg (kq114 hS) ?_
  refine sg (kq189 hS) ?_
  refine bgr (by rw [lq189 hS]) (fun g1 => ?_)
  try with_reducible refine sg (kq114 hS) ?_
  refine sb (rq114_112 hS) ?_
  try with_reducible refine sg (kq114 hS) ?_
  refine sg (kq190 hS) ?_
  refine bgr (by rw [lq190 hS]) (fun g3 => ?_)
  exact eX12_clear_l34 hS _ _ _ _ _ _ _
