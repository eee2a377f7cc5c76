def gX12_air (I : Nat → Nat → Int32) (J : Nat → Nat → Int64) (x1 : Int32) (x2 : Int32) : Option ((Int64)) :=
  if (fX12_in x1 (0 : Int32) (2 : Int32)) = 0 then
    some (0 : Int64)
  else
    if x2 = (0 : Int32) then
      if ¬ (x1 < 0 ∨ 3 ≤ Int32.toNatClampNeg x1) then
      some (J 175 (Int32.toNatClampNeg x1))
      else none
    else
    if x2 = (1 : Int32) then
      if ¬ (x1 < 0 ∨ 3 ≤ Int32.toNatClampNeg x1) then
      some (J 176 (Int32.toNatClampNeg x1))
      else none
    else
    if x2 = (2 : Int32) then
      if ¬ (((6 : Int32) * x1) < 0 ∨ 18 ≤ Int32.toNatClampNeg ((6 : Int32) * x1)) then
      some (J 180 (Int32.toNatClampNeg ((6 : Int32) * x1)))
      else none
    else
    if x2 = (3 : Int32) then
      if ¬ (x1 < 0 ∨ 3 ≤ Int32.toNatClampNeg x1) then
      some (Int32.toInt64 (I 177 (Int32.toNatClampNeg x1)))
      else none
    else
    if x2 = (4 : Int32) then
      if ¬ (x1 < 0 ∨ 3 ≤ Int32.toNatClampNeg x1) then
      some (Int32.toInt64 (I 178 (Int32.toNatClampNeg x1)))
      else none
    else
    if x2 = (5 : Int32) then
      if ¬ (x1 < 0 ∨ 3 ≤ Int32.toNatClampNeg x1) then
      some (Int32.toInt64 (I 179 (Int32.toNatClampNeg x1)))
      else none
    else
    if (fX12_in x2 (6 : Int32) (10 : Int32)) = 0 then
      some (0 : Int64)
    else
      if ¬ (((((6 : Int32) * x1) + x2) - (5 : Int32)) < 0 ∨ 18 ≤ Int32.toNatClampNeg ((((6 : Int32) * x1) + x2) - (5 : Int32))) then
      some (J 180 (Int32.toNatClampNeg ((((6 : Int32) * x1) + x2) - (5 : Int32))))
      else none
theorem eX12_air {σ : Shp} {I : Nat → Nat → Int32} {J : Nat → Nat → Int64} {R : Nat → Nat → Option Nat} {x1 : Int32} {x2 : Int32} (hS : Skel σ R) : fX12_air σ I J R 114 x1 x2 = gX12_air I J x1 x2 := by
  unfold fX12_air gX12_air
  refine bi (fun c => ?_) (fun c => ?_)
  · rfl
  · refine bi (fun c => ?_) (fun c => ?_)
    · refine sg (kq114 hS) ?_
      refine sb (rq114_97 hS) ?_
      refine sg (kq175 hS) ?_
      refine bgr (by rw [lq175 hS]) (fun g13 => ?_)
      rfl
    · refine bi (fun c => ?_) (fun c => ?_)
      · refine sg (kq114 hS) ?_
        refine sb (rq114_98 hS) ?_
        refine sg (kq176 hS) ?_
        refine bgr (by rw [lq176 hS]) (fun g12 => ?_)
        rfl
      · refine bi (fun c => ?_) (fun c => ?_)
        · refine sg (kq114 hS) ?_
          refine sb (rq114_102 hS) ?_
          refine sg (kq180 hS) ?_
          refine bgr (by rw [lq180 hS]) (fun g11 => ?_)
          rfl
        · refine bi (fun c => ?_) (fun c => ?_)
          · refine sg (kq114 hS) ?_
            refine sb (rq114_99 hS) ?_
            refine sg (kq177 hS) ?_
            refine bgr (by rw [lq177 hS]) (fun g10 => ?_)
            rfl
          · refine bi (fun c => ?_) (fun c => ?_)
            · refine sg (kq114 hS) ?_
              refine sb (rq114_100 hS) ?_
              refine sg (kq178 hS) ?_
              refine bgr (by rw [lq178 hS]) (fun g9 => ?_)
              rfl
            · refine bi (fun c => ?_) (fun c => ?_)
              · refine sg (kq114 hS) ?_
                refine sb (rq114_101 hS) ?_
                refine sg (kq179 hS) ?_
                refine bgr (by rw [lq179 hS]) (fun g8 => ?_)
                rfl
              · refine bi (fun c => ?_) (fun c => ?_)
                · rfl
                · refine sg (kq114 hS) ?_
                  refine sb (rq114_102 hS) ?_
                  refine sg (kq180 hS) ?_
                  refine bgr (by rw [lq180 hS]) (fun g7 => ?_)
                  rfl
def gX12_partWhole_l111 (q98 : (Nat → Nat → Int64) → (Int32) → (Int64) → (Option ((Nat → Nat → Int64)))) (σ : Shp) (R : Nat → Nat → Option Nat) : Nat → (Nat → Nat → Int64) → (Int32) → (Int64) → (Int32) → (Int32) → Option ((Nat → Nat → Int64))
  | 0, _, _, _, _, _ => none
  | n + 1, J, x3, x6, x8, x9 =>
    if x3 ≤ x9 then
      if ¬ (x8 < 0 ∨ 40 ≤ Int32.toNatClampNeg x8) then
      let J2 := u2 J 184 (Int32.toNatClampNeg x8) ((J 184 (Int32.toNatClampNeg x8)) + (1 : Int64))
      if ¬ (x8 < 0 ∨ 40 ≤ Int32.toNatClampNeg x8) then
      let J4 := u2 J2 185 (Int32.toNatClampNeg x8) (-1 : Int64)
      let v5 := (x6 - (1 : Int64))
      q98 J4 x3 v5
      else none
      else none
    else
      if ¬ (x9 < 0 ∨ 40 ≤ Int32.toNatClampNeg x9) then
      if ¬ (x8 < 0 ∨ 40 ≤ Int32.toNatClampNeg x8) then
      if (J 185 (Int32.toNatClampNeg x9)) ≤ (J 185 (Int32.toNatClampNeg x8)) then
        let v8 := x9 + (1 : Int32)
        gX12_partWhole_l111 q98 σ R n J x3 x6 x8 v8
      else
        let v9 := x9 + (1 : Int32)
        gX12_partWhole_l111 q98 σ R n J x3 x6 x9 v9
      else none
      else none
theorem eX12_partWhole_l111 {σ : Shp} {R : Nat → Nat → Option Nat} (hS : Skel σ R) {qf98 q98 : (Nat → Nat → Int64) → (Int32) → (Int64) → (Option ((Nat → Nat → Int64)))} (hq98 : ∀ (J : Nat → Nat → Int64) (x3 : Int32) (x6 : Int64), qf98 J x3 x6 = q98 J x3 x6) : ∀ (n : Nat) (J : Nat → Nat → Int64) (x3 : Int32) (x6 : Int64) (x8 : Int32) (x9 : Int32), fX12_partWhole_l111 qf98 σ R 114 n J x3 x6 x8 x9 = gX12_partWhole_l111 q98 σ R n J x3 x6 x8 x9 := by
  intro n
  induction n with
  | zero => intro J x3 x6 x8 x9; rfl
  | succ n ih =>
    intro J x3 x6 x8 x9
    rw [fX12_partWhole_l111, gX12_partWhole_l111]
    refine bi (fun c => ?_) (fun c => ?_)
    · refine sg (kq114 hS) ?_
      refine sb (rq114_106 hS) ?_
      refine sg (kq184 hS) ?_
      refine bgr (by rw [lq184 hS]) (fun g1 => ?_)
      refine sb (rq114_107 hS) ?_
      refine sg (kq185 hS) ?_
      refine bgr (by rw [lq185 hS]) (fun g3 => ?_)
      exact hq98 _ _ _
    · refine sg (kq114 hS) ?_
      refine sb (rq114_107 hS) ?_
      refine sg (kq185 hS) ?_
      refine bgr (by rw [lq185 hS]) (fun g6 => ?_)
      refine bgr (by rw [lq185 hS]) (fun g7 => ?_)
      refine bi (fun c => ?_) (fun c => ?_)
      · exact ih _ _ _ _ _
      · exact ih _ _ _ _ _
def gX12_partWhole_l98  (σ : Shp) (R : Nat → Nat → Option Nat) : Nat → (Nat → Nat → Int64) → (Int32) → (Int64) → Option ((Nat → Nat → Int64))
  | 0, _, _, _ => none
  | n + 1, J, x3, x6 =>
    if x6 ≤ (0 : Int64) then
      some J
    else
      gX12_partWhole_l111 (gX12_partWhole_l98 σ R n) σ R FUx J x3 x6 (0 : Int32) (1 : Int32)
theorem eX12_partWhole_l98 {σ : Shp} {R : Nat → Nat → Option Nat} (hS : Skel σ R) : ∀ (n : Nat) (J : Nat → Nat → Int64) (x3 : Int32) (x6 : Int64), fX12_partWhole_l98 σ R 114 n J x3 x6 = gX12_partWhole_l98 σ R n J x3 x6 := by
  intro n
  induction n with
  | zero => intro J x3 x6; rfl
  | succ n ih =>
    intro J x3 x6
    rw [fX12_partWhole_l98, gX12_partWhole_l98]
    refine bi (fun c => ?_) (fun c => ?_)
    · rfl
    · exact eX12_partWhole_l111 hS ih _ _ _ _ _ _
def gX12_partWhole_l36  (σ : Shp) (R : Nat → Nat → Option Nat) : Nat → (Nat → Nat → Int64) → (Int64) → (Int32) → (Int64) → (Int64) → (Int32) → Option ((Nat → Nat → Int64))
  | 0, _, _, _, _, _, _ => none
  | n + 1, J, x1, x3, x4, x6, x8 =>
    if x3 ≤ x8 then
      gX12_partWhole_l98 σ R FUx J x3 x6
    else
      if ¬ (x8 < 0 ∨ 40 ≤ Int32.toNatClampNeg x8) then
      if ¬ x4 = 0 then
      if ¬ (x8 < 0 ∨ 40 ≤ Int32.toNatClampNeg x8) then
      let J13 := u2 J 184 (Int32.toNatClampNeg x8) ((x1 * (J 186 (Int32.toNatClampNeg x8))) / x4)
      if ¬ (x8 < 0 ∨ 40 ≤ Int32.toNatClampNeg x8) then
      let J15 := u2 J13 185 (Int32.toNatClampNeg x8) ((x1 * (J13 186 (Int32.toNatClampNeg x8))) - (x1 * (J13 186 (Int32.toNatClampNeg x8))) / x4 * x4)
      let v16 := (x6 - (J15 184 (Int32.toNatClampNeg x8)))
      let v17 := x8 + (1 : Int32)
      gX12_partWhole_l36 σ R n J15 x1 x3 x4 v16 v17
      else none
      else none
      else none
      else none
theorem eX12_partWhole_l36 {σ : Shp} {R : Nat → Nat → Option Nat} (hS : Skel σ R) : ∀ (n : Nat) (J : Nat → Nat → Int64) (x1 : Int64) (x3 : Int32) (x4 : Int64) (x6 : Int64) (x8 : Int32), fX12_partWhole_l36 σ R 114 n J x1 x3 x4 x6 x8 = gX12_partWhole_l36 σ R n J x1 x3 x4 x6 x8 := by
  intro n
  induction n with
  | zero => intro J x1 x3 x4 x6 x8; rfl
  | succ n ih =>
    intro J x1 x3 x4 x6 x8
    rw [fX12_partWhole_l36, gX12_partWhole_l36]
    refine bi (fun c => ?_) (fun c => ?_)
    · exact eX12_partWhole_l98 hS _ _ _ _
    · refine sg (kq114 hS) ?_
      refine sb (rq114_106 hS) ?_
      refine sb (rq114_108 hS) ?_
      refine sg (kq186 hS) ?_
      refine bgr (by rw [lq186 hS]) (fun g10 => ?_)
      refine bg (fun g11 => ?_)
      refine sg (kq184 hS) ?_
      refine bgr (by rw [lq184 hS]) (fun g12 => ?_)
      refine sb (rq114_107 hS) ?_
      refine sg (kq185 hS) ?_
      refine bgr (by rw [lq185 hS]) (fun g14 => ?_)
      exact ih _ _ _ _ _ _
def gX12_partWhole_l6  (σ : Shp) (R : Nat → Nat → Option Nat) : Nat → (Nat → Nat → Int64) → (Int64) → (Int32) → (Int64) → (Int32) → Option ((Nat → Nat → Int64))
  | 0, _, _, _, _, _ => none
  | n + 1, J, x1, x3, x4, x6 =>
    if x3 ≤ x6 then
      gX12_partWhole_l36 σ R FUx J x1 x3 x4 x1 (0 : Int32)
    else
      if ¬ (x6 < 0 ∨ 40 ≤ Int32.toNatClampNeg x6) then
      let v19 := (x4 + (J 186 (Int32.toNatClampNeg x6)))
      let v20 := x6 + (1 : Int32)
      gX12_partWhole_l6 σ R n J x1 x3 v19 v20
      else none
theorem eX12_partWhole_l6 {σ : Shp} {R : Nat → Nat → Option Nat} (hS : Skel σ R) : ∀ (n : Nat) (J : Nat → Nat → Int64) (x1 : Int64) (x3 : Int32) (x4 : Int64) (x6 : Int32), fX12_partWhole_l6 σ R 114 n J x1 x3 x4 x6 = gX12_partWhole_l6 σ R n J x1 x3 x4 x6 := by
  intro n
  induction n with
  | zero => intro J x1 x3 x4 x6; rfl
  | succ n ih =>
    intro J x1 x3 x4 x6
    rw [fX12_partWhole_l6, gX12_partWhole_l6]
    refine bi (fun c => ?_) (fun c => ?_)
    · exact eX12_partWhole_l36 hS _ _ _ _ _ _ _
    · refine sg (kq114 hS) ?_
      refine sb (rq114_108 hS) ?_
      refine sg (kq186 hS) ?_
      refine bgr (by rw [lq186 hS]) (fun g18 => ?_)
      exact ih _ _ _ _ _
def gX12_partWhole (σ : Shp) (J : Nat → Nat → Int64) (R : Nat → Nat → Option Nat) (x1 : Int64) (x3 : Int32) : Option ((Nat → Nat → Int64)) :=
  gX12_partWhole_l6 σ R FUx J x1 x3 (0 : Int64) (0 : Int32)
theorem eX12_partWhole {σ : Shp} {J : Nat → Nat → Int64} {R : Nat → Nat → Option Nat} {x1 : Int64} {x3 : Int32} (hS : Skel σ R) : fX12_partWhole σ J R 114 x1 x3 = gX12_partWhole σ J R x1 x3 := by
  unfold fX12_partWhole gX12_partWhole
  exact eX12_partWhole_l6 hS _ _ _ _ _ _
def gX12_shares_l207  (σ : Shp) (R : Nat → Nat → Option Nat) : Nat → (Nat → Nat → Int32) → (Nat → Nat → Int64) → (Int32) → (Int32) → (Int32) → (Int32) → Option ((Nat → Nat → Int32) × (Nat → Nat → Int64) × (Int32))
  | 0, _, _, _, _, _, _ => none
  | n + 1, I, J, x3, x4, x8, x9 =>
    if ¬ (x4 < 0 ∨ 4100 ≤ Int32.toNatClampNeg x4) then
    if (I 117 (Int32.toNatClampNeg x4)) ≤ x9 then
      if ¬ (x3 < 0 ∨ 16 ≤ Int32.toNatClampNeg x3) then
      let I20 := u2 I 115 (Int32.toNatClampNeg x3) x8
      some (I20, J, (1 : Int32))
      else none
    else
      if ¬ (x8 < 0 ∨ 4100 ≤ Int32.toNatClampNeg x8) then
      if ¬ (x9 < 0 ∨ 40 ≤ Int32.toNatClampNeg x9) then
      if ¬ (((I 118 (Int32.toNatClampNeg x8)) + x9) < 0 ∨ 164000 ≤ Int32.toNatClampNeg ((I 118 (Int32.toNatClampNeg x8)) + x9)) then
      let J24 := u2 J 119 (Int32.toNatClampNeg ((I 118 (Int32.toNatClampNeg x8)) + x9)) (J 184 (Int32.toNatClampNeg x9))
      let v25 := x9 + (1 : Int32)
      gX12_shares_l207 σ R n I J24 x3 x4 x8 v25
      else none
      else none
      else none
    else none
theorem eX12_shares_l207 {σ : Shp} {R : Nat → Nat → Option Nat} (hS : Skel σ R) : ∀ (n : Nat) (I : Nat → Nat → Int32) (J : Nat → Nat → Int64) (x3 : Int32) (x4 : Int32) (x8 : Int32) (x9 : Int32), fX12_shares_l207 σ R 114 n I J x3 x4 x8 x9 = gX12_shares_l207 σ R n I J x3 x4 x8 x9 := by
  intro n
  induction n with
  | zero => intro I J x3 x4 x8 x9; rfl
  | succ n ih =>
    intro I J x3 x4 x8 x9
    rw [fX12_shares_l207, gX12_shares_l207]
    refine sg (kq114 hS) ?_
    refine sb (rq114_5 hS) ?_
    refine sg (kq117 hS) ?_
    refine bgr (by rw [lq117 hS]) (fun g18 => ?_)
    refine bi (fun c => ?_) (fun c => ?_)
    · refine sb (rq114_3 hS) ?_
      refine sg (kq115 hS) ?_
      refine bgr (by rw [lq115 hS]) (fun g19 => ?_)
      rfl
    · refine sb (rq114_8 hS) ?_
      refine sb (rq114_6 hS) ?_
      refine sg (kq118 hS) ?_
      refine bgr (by rw [lq118 hS]) (fun g21 => ?_)
      refine sb (rq114_106 hS) ?_
      refine sg (kq184 hS) ?_
      refine bgr (by rw [lq184 hS]) (fun g22 => ?_)
      refine sg (kq119 hS) ?_
      refine bgr (by rw [lq119 hS]) (fun g23 => ?_)
      exact ih _ _ _ _ _ _
def gX12_shares_l76  (σ : Shp) (R : Nat → Nat → Option Nat) : Nat → (Nat → Nat → Int32) → (Nat → Nat → Int64) → (Int32) → (Int32) → (Int32) → (Int32) → (Int64) → (Int32) → Option ((Nat → Nat → Int32) × (Nat → Nat → Int64) × (Int32))
  | 0, _, _, _, _, _, _, _, _ => none
  | n + 1, I, J, x2, x3, x4, x5, x6, x8 =>
    if ¬ (x4 < 0 ∨ 4100 ≤ Int32.toNatClampNeg x4) then
    if (I 117 (Int32.toNatClampNeg x4)) ≤ x8 then
      if x5 = 0 then
        some (I, J, (-3 : Int32))
      else
        if x6 = (0 : Int64) then
          some (I, J, (-3 : Int32))
        else
          (gX12_isFull I).bind fun r11 =>
          if r11 = 0 then
            (gX12_partWhole σ J R (Int32.toInt64 x2) (I 117 (Int32.toNatClampNeg x4))).bind fun J13 =>
            (gX12_newRow I (5 : Int32) (I 117 (Int32.toNatClampNeg x4))).bind fun (I15, r16) =>
            gX12_shares_l207 σ R FUx I15 J13 x3 x4 r16 (0 : Int32)
          else
            some (I, J, (-4 : Int32))
    else
      if ¬ (x4 < 0 ∨ 4100 ≤ Int32.toNatClampNeg x4) then
      if ¬ (((I 118 (Int32.toNatClampNeg x4)) + x8) < 0 ∨ 164000 ≤ Int32.toNatClampNeg ((I 118 (Int32.toNatClampNeg x4)) + x8)) then
      if ¬ (x8 < 0 ∨ 40 ≤ Int32.toNatClampNeg x8) then
      let J29 := u2 J 186 (Int32.toNatClampNeg x8) (J 119 (Int32.toNatClampNeg ((I 118 (Int32.toNatClampNeg x4)) + x8)))
      if x5 = 0 then
        let v30 := (x6 + (J29 186 (Int32.toNatClampNeg x8)))
        let v31 := x8 + (1 : Int32)
        gX12_shares_l76 σ R n I J29 x2 x3 x4 (0 : Int32) v30 v31
      else
        if (J29 186 (Int32.toNatClampNeg x8)) < (0 : Int64) then
          let v32 := (x6 + (J29 186 (Int32.toNatClampNeg x8)))
          let v33 := x8 + (1 : Int32)
          gX12_shares_l76 σ R n I J29 x2 x3 x4 (0 : Int32) v32 v33
        else
          let v34 := (x6 + (J29 186 (Int32.toNatClampNeg x8)))
          let v35 := x8 + (1 : Int32)
          gX12_shares_l76 σ R n I J29 x2 x3 x4 (1 : Int32) v34 v35
      else none
      else none
      else none
    else none
theorem eX12_shares_l76 {σ : Shp} {R : Nat → Nat → Option Nat} (hS : Skel σ R) : ∀ (n : Nat) (I : Nat → Nat → Int32) (J : Nat → Nat → Int64) (x2 : Int32) (x3 : Int32) (x4 : Int32) (x5 : Int32) (x6 : Int64) (x8 : Int32), fX12_shares_l76 σ R 114 n I J x2 x3 x4 x5 x6 x8 = gX12_shares_l76 σ R n I J x2 x3 x4 x5 x6 x8 := by
  intro n
  induction n with
  | zero => intro I J x2 x3 x4 x5 x6 x8; rfl
  | succ n ih =>
    intro I J x2 x3 x4 x5 x6 x8
    rw [fX12_shares_l76, gX12_shares_l76]
    refine sg (kq114 hS) ?_
    refine sb (rq114_5 hS) ?_
    refine sg (kq117 hS) ?_
    refine bgr (by rw [lq117 hS]) (fun g10 => ?_)
    refine bi (fun c => ?_) (fun c => ?_)
    · refine bi (fun c => ?_) (fun c => ?_)
      · rfl
      · refine bi (fun c => ?_) (fun c => ?_)
        · rfl
        · refine bc (eX12_isFull hS) (fun r11 hc12 => ?_)
          refine bi (fun c => ?_) (fun c => ?_)
          · refine bc (eX12_partWhole hS) (fun J13 hc14 => ?_)
            refine bc (eX12_newRow hS) (fun pp hc17 => ?_)
            obtain ⟨I15, r16⟩ := pp
            exact eX12_shares_l207 hS _ _ _ _ _ _ _
          · rfl
    · refine sb (rq114_108 hS) ?_
      refine sb (rq114_8 hS) ?_
      refine sb (rq114_6 hS) ?_
      refine sg (kq118 hS) ?_
      refine bgr (by rw [lq118 hS]) (fun g26 => ?_)
      refine sg (kq119 hS) ?_
      refine bgr (by rw [lq119 hS]) (fun g27 => ?_)
      refine sg (kq186 hS) ?_
      refine bgr (by rw [lq186 hS]) (fun g28 => ?_)
      refine bi (fun c => ?_) (fun c => ?_)
      · exact ih _ _ _ _ _ _ _ _
      · refine bi (fun c => ?_) (fun c => ?_)
        · exact ih _ _ _ _ _ _ _ _
        · exact ih _ _ _ _ _ _ _ _
def gX12_shares (σ : Shp) (I : Nat → Nat → Int32) (J : Nat → Nat → Int64) (R : Nat → Nat → Option Nat) (x1 : Int32) (x2 : Int32) (x3 : Int32) : Option ((Nat → Nat → Int32) × (Nat → Nat → Int64) × (Int32)) :=
  if (fX12_isBin x1) = 0 then
    some (I, J, (-2 : Int32))
  else
    if (fX12_isBin x3) = 0 then
      some (I, J, (-2 : Int32))
    else
      if (fX12_in x2 (0 : Int32) (1000000000 : Int32)) = 0 then
        some (I, J, (-2 : Int32))
      else
        if ¬ (x1 < 0 ∨ 16 ≤ Int32.toNatClampNeg x1) then
        let v2 := (I 115 (Int32.toNatClampNeg x1))
        if v2 = 0 then
          if v2 = 0 then
            (gX12_no I (1 : Int32)).bind fun (I6, r7) =>
            some (I6, J, r7)
          else
            (gX12_no I (4 : Int32)).bind fun (I3, r4) =>
            some (I3, J, r4)
        else
          if ¬ (v2 < 0 ∨ 4100 ≤ Int32.toNatClampNeg v2) then
          if (I 116 (Int32.toNatClampNeg v2)) = (4 : Int32) then
            gX12_shares_l76 σ R FUx I J x2 x3 v2 (1 : Int32) (0 : Int64) (0 : Int32)
          else
            if v2 = 0 then
              (gX12_no I (1 : Int32)).bind fun (I39, r40) =>
              some (I39, J, r40)
            else
              (gX12_no I (4 : Int32)).bind fun (I36, r37) =>
              some (I36, J, r37)
          else none
        else none
theorem eX12_shares {σ : Shp} {I : Nat → Nat → Int32} {J : Nat → Nat → Int64} {R : Nat → Nat → Option Nat} {x1 : Int32} {x2 : Int32} {x3 : Int32} (hS : Skel σ R) : fX12_shares σ I J R 114 x1 x2 x3 = gX12_shares σ I J R x1 x2 x3 := by
  unfold fX12_shares gX12_shares
  refine bi (fun c => ?_) (fun c => ?_)
  · rfl
  · refine bi (fun c => ?_) (fun c => ?_)
    · rfl
    · refine bi (fun c => ?_) (fun c => ?_)
      · rfl
      · refine sg (kq114 hS) ?_
        refine sb (rq114_3 hS) ?_
        refine sg (kq115 hS) ?_
        refine bgr (by rw [lq115 hS]) (fun g1 => ?_)
        refine bi (fun c => ?_) (fun c => ?_)
        · refine bi (fun c => ?_) (fun c => ?_)
          · refine bc (eX12_no hS) (fun pp hc8 => ?_)
            obtain ⟨I6, r7⟩ := pp
            rfl
          · refine bc (eX12_no hS) (fun pp hc5 => ?_)
            obtain ⟨I3, r4⟩ := pp
            rfl
        · refine sb (rq114_4 hS) ?_
          refine sg (kq116 hS) ?_
          refine bgr (by rw [lq116 hS]) (fun g9 => ?_)
          refine bi (fun c => ?_) (fun c => ?_)
          · exact eX12_shares_l76 hS _ _ _ _ _ _ _ _ _
          · refine bi (fun c => ?_) (fun c => ?_)
            · refine bc (eX12_no hS) (fun pp hc41 => ?_)
              obtain ⟨I39, r40⟩ := pp
              rfl
            · refine bc (eX12_no hS) (fun pp hc38 => ?_)
              obtain ⟨I36, r37⟩ := pp
              rfl
def gX12_quotient (I : Nat → Nat → Int32) (x1 : Int32) (x2 : Int64) (x4 : Int64) (x6 : Int32) : Option ((Nat → Nat → Int32) × (Int64)) :=
  if (fX12_in x1 (4 : Int32) (5 : Int32)) = 0 then
    some (I, (0 : Int64))
  else
    if (fX12_in x6 (0 : Int32) (1 : Int32)) = 0 then
      some (I, (0 : Int64))
    else
      if x1 = (4 : Int32) then
        let v6 := (Int64.toInt32 x2)
        let v7 := (Int64.toInt32 x4)
        if v7 = 0 then
          (gX12_noBits I (6 : Int32)).bind fun (I10, r11) =>
          some (I10, r11)
        else
          if x6 = 0 then
            if ¬ v7 = 0 then
            some (I, (Int32.toInt64 (v6 / v7)))
            else none
          else
            if ¬ v7 = 0 then
            some (I, (Int32.toInt64 (v6 - v6 / v7 * v7)))
            else none
      else
        if x4 = (0 : Int64) then
          (gX12_noBits I (6 : Int32)).bind fun (I3, r4) =>
          some (I3, r4)
        else
          if x6 = 0 then
            if ¬ x4 = 0 then
            some (I, (x2 / x4))
            else none
          else
            if ¬ x4 = 0 then
            some (I, (x2 - x2 / x4 * x4))
            else none
theorem eX12_quotient {σ : Shp} {I : Nat → Nat → Int32} {R : Nat → Nat → Option Nat} {x1 : Int32} {x2 : Int64} {x4 : Int64} {x6 : Int32} (hS : Skel σ R) : fX12_quotient σ I 114 x1 x2 x4 x6 = gX12_quotient I x1 x2 x4 x6 := by
  unfold fX12_quotient gX12_quotient
  refine bi (fun c => ?_) (fun c => ?_)
  · rfl
  · refine bi (fun c => ?_) (fun c => ?_)
    · rfl
    · refine bi (fun c => ?_) (fun c => ?_)
      · refine bi (fun c => ?_) (fun c => ?_)
        · refine sg (kq114 hS) ?_
          refine bc (eX12_noBits hS) (fun pp hc12 => ?_)
          obtain ⟨I10, r11⟩ := pp
          rfl
        · refine bi (fun c => ?_) (fun c => ?_)
          · refine bg (fun g9 => ?_)
            rfl
          · refine bg (fun g8 => ?_)
            rfl
      · refine bi (fun c => ?_) (fun c => ?_)
        · refine sg (kq114 hS) ?_
          refine bc (eX12_noBits hS) (fun pp hc5 => ?_)
          obtain ⟨I3, r4⟩ := pp
          rfl
        · refine bi (fun c => ?_) (fun c => ?_)
          · refine bg (fun g2 => ?_)
            rfl
          · refine bg (fun g1 => ?_)
            rfl
def gX12_compare_b97  (σ : Shp) (J : Nat → Nat → Int64) (R : Nat → Nat → Option Nat) (I : Nat → Nat → Int32) (x1 : Int32) (x3 : Int32) (x5 : Int32) (x6 : Int32) (x7 : Int32) (s0 : Int32) : Option ((Nat → Nat → Int32) × (Int32)) :=
  if s0 = 0 then
    if ¬ (x6 < 0 ∨ 4100 ≤ Int32.toNatClampNeg x6) then
    if ¬ (((I 118 (Int32.toNatClampNeg x6)) + x3) < 0 ∨ 164000 ≤ Int32.toNatClampNeg ((I 118 (Int32.toNatClampNeg x6)) + x3)) then
    (fX12_realOf x1 (J 119 (Int32.toNatClampNeg ((I 118 (Int32.toNatClampNeg x6)) + x3)))).bind fun r9 =>
    if ¬ (x7 < 0 ∨ 4100 ≤ Int32.toNatClampNeg x7) then
    if ¬ (((I 118 (Int32.toNatClampNeg x7)) + x5) < 0 ∨ 164000 ≤ Int32.toNatClampNeg ((I 118 (Int32.toNatClampNeg x7)) + x5)) then
    (fX12_realOf x1 (J 119 (Int32.toNatClampNeg ((I 118 (Int32.toNatClampNeg x7)) + x5)))).bind fun r13 =>
    if 0 ≤ (Op.cmpValue (FP.dcmp r9 r13) .g) then
      if (Op.cmpValue (FP.dcmp r9 r13) .l) ≤ 0 then
        if (Op.cmpValue (FP.dcmp r9 r13) .l) = 0 then
          some (I, (26 : Int32))
        else
          some (I, (32 : Int32))
      else
        some (I, (44 : Int32))
    else
      some (I, (35 : Int32))
    else none
    else none
    else none
    else none
  else
    (gX12_no I s0).bind fun (I15, r16) =>
    some (I15, r16)
theorem eX12_compare_b97 {σ : Shp} {I : Nat → Nat → Int32} {J : Nat → Nat → Int64} {R : Nat → Nat → Option Nat} {x1 : Int32} {x3 : Int32} {x5 : Int32} {x6 : Int32} {x7 : Int32} {s0 : Int32} (hS : Skel σ R) : fX12_compare_b97 σ J R 114 I x1 x3 x5 x6 x7 s0 = gX12_compare_b97 σ J R I x1 x3 x5 x6 x7 s0 := by
  unfold fX12_compare_b97 gX12_compare_b97
  refine bi (fun c => ?_) (fun c => ?_)
  · refine sg (kq114 hS) ?_
    refine sb (rq114_8 hS) ?_
    refine sb (rq114_6 hS) ?_
    refine sg (kq118 hS) ?_
    refine bgr (by rw [lq118 hS]) (fun g7 => ?_)
    refine sg (kq119 hS) ?_
    refine bgr (by rw [lq119 hS]) (fun g8 => ?_)
    refine bc rfl (fun r9 hc10 => ?_)
    refine bgr (by rw [lq118 hS]) (fun g11 => ?_)
    refine bgr (by rw [lq119 hS]) (fun g12 => ?_)
    refine bc rfl (fun r13 hc14 => ?_)
    refine bi (fun c => ?_) (fun c => ?_)
    · refine bi (fun c => ?_) (fun c => ?_)
      · refine bi (fun c => ?_) (fun c => ?_)
        · rfl
        · rfl
      · rfl
    · rfl
  · refine sg (kq114 hS) ?_
    refine bc (eX12_no hS) (fun pp hc17 => ?_)
    obtain ⟨I15, r16⟩ := pp
    rfl
def gX12_compare (σ : Shp) (I : Nat → Nat → Int32) (J : Nat → Nat → Int64) (R : Nat → Nat → Option Nat) (x1 : Int32) (x2 : Int32) (x3 : Int32) (x4 : Int32) (x5 : Int32) : Option ((Nat → Nat → Int32) × (Int32)) :=
  if (fX12_in x1 (6 : Int32) (7 : Int32)) = 0 then
    some (I, (-2 : Int32))
  else
    if (fX12_isBin x2) = 0 then
      some (I, (-2 : Int32))
    else
      if (fX12_isBin x4) = 0 then
        some (I, (-2 : Int32))
      else
        if ¬ (x2 < 0 ∨ 16 ≤ Int32.toNatClampNeg x2) then
        let v2 := (I 115 (Int32.toNatClampNeg x2))
        if ¬ (x4 < 0 ∨ 16 ≤ Int32.toNatClampNeg x4) then
        let v4 := (I 115 (Int32.toNatClampNeg x4))
        (gX12_isOf I v2 x1).bind fun r5 =>
        if r5 = 0 then
          if (4 : Int32) = 0 then
            (gX12_looked I v4 x5).bind fun r18 =>
            gX12_compare_b97 σ J R I x1 x3 x5 v2 v4 r18
          else
            gX12_compare_b97 σ J R I x1 x3 x5 v2 v4 (4 : Int32)
        else
          (gX12_isOf I v4 x1).bind fun r20 =>
          if r20 = 0 then
            if (4 : Int32) = 0 then
              (gX12_looked I v4 x5).bind fun r22 =>
              gX12_compare_b97 σ J R I x1 x3 x5 v2 v4 r22
            else
              gX12_compare_b97 σ J R I x1 x3 x5 v2 v4 (4 : Int32)
          else
            (gX12_looked I v2 x3).bind fun r24 =>
            if r24 = 0 then
              (gX12_looked I v4 x5).bind fun r26 =>
              gX12_compare_b97 σ J R I x1 x3 x5 v2 v4 r26
            else
              gX12_compare_b97 σ J R I x1 x3 x5 v2 v4 r24
        else none
        else none
theorem eX12_compare {σ : Shp} {I : Nat → Nat → Int32} {J : Nat → Nat → Int64} {R : Nat → Nat → Option Nat} {x1 : Int32} {x2 : Int32} {x3 : Int32} {x4 : Int32} {x5 : Int32} (hS : Skel σ R) : fX12_compare σ I J R 114 x1 x2 x3 x4 x5 = gX12_compare σ I J R x1 x2 x3 x4 x5 := by
  unfold fX12_compare gX12_compare
  refine bi (fun c => ?_) (fun c => ?_)
  · rfl
  · refine bi (fun c => ?_) (fun c => ?_)
    · rfl
    · refine bi (fun c => ?_) (fun c => ?_)
      · rfl
      · refine sg (kq114 hS) ?_
        refine sb (rq114_3 hS) ?_
        refine sg (kq115 hS) ?_
        refine bgr (by rw [lq115 hS]) (fun g1 => ?_)
        refine bgr (by rw [lq115 hS]) (fun g3 => ?_)
        refine bc (eX12_isOf hS) (fun r5 hc6 => ?_)
        refine bi (fun c => ?_) (fun c => ?_)
        · refine bi (fun c => ?_) (fun c => ?_)
          · refine bc (eX12_looked hS) (fun r18 hc19 => ?_)
            exact eX12_compare_b97 hS
          · exact eX12_compare_b97 hS
        · refine bc (eX12_isOf hS) (fun r20 hc21 => ?_)
          refine bi (fun c => ?_) (fun c => ?_)
          · refine bi (fun c => ?_) (fun c => ?_)
            · refine bc (eX12_looked hS) (fun r22 hc23 => ?_)
              exact eX12_compare_b97 hS
            · exact eX12_compare_b97 hS
          · refine bc (eX12_looked hS) (fun r24 hc25 => ?_)
            refine bi (fun c => ?_) (fun c => ?_)
            · refine bc (eX12_looked hS) (fun r26 hc27 => ?_)
              exact eX12_compare_b97 hS
            · exact eX12_compare_b97 hS
def gX12_parted_l38  (σ : Shp) : Nat → (Nat → Nat → Int32) → (Nat → Nat → Int64) → (Int32) → (UInt64) → Option ((Nat → Nat → Int32) × (Nat → Nat → Int64))
  | 0, _, _, _, _ => none
  | n + 1, I, J, x3, x4 =>
    if 0 ≤ (Op.cmpValue (FP.dcmp x4 (4841369599423283200 : UInt64)) .g) then
      let J2 := u2 J 114 133 (FP.d2l x4)
      some (I, J2)
    else
      if (I 114 134) ≤ x3 then
        let J3 := u2 J 114 133 (FP.d2l x4)
        some (I, J3)
      else
        if (FP.dmul x4 (4611686018427387904 : UInt64)) &&& 0x7fffffffffffffff ≤ 0x7ff0000000000000 then
        let v5 := (FP.dmul x4 (4611686018427387904 : UInt64))
        let I6 := u2 I 114 134 ((I 114 134) - (1 : Int32))
        gX12_parted_l38 σ n I6 J x3 v5
        else none
theorem eX12_parted_l38 {σ : Shp} {R : Nat → Nat → Option Nat} (hS : Skel σ R) : ∀ (n : Nat) (I : Nat → Nat → Int32) (J : Nat → Nat → Int64) (x3 : Int32) (x4 : UInt64), fX12_parted_l38 σ 114 n I J x3 x4 = gX12_parted_l38 σ n I J x3 x4 := by
  intro n
  induction n with
  | zero => intro I J x3 x4; rfl
  | succ n ih =>
    intro I J x3 x4
    rw [fX12_parted_l38, gX12_parted_l38]
    refine bi (fun c => ?_) (fun c => ?_)
    · refine sg (kq114 hS) ?_
      rfl
    · refine sg (kq114 hS) ?_
      refine bi (fun c => ?_) (fun c => ?_)
      · rfl
      · refine bg (fun g4 => ?_)
        exact ih _ _ _ _
def gX12_parted_l8  (σ : Shp) : Nat → (Nat → Nat → Int32) → (Nat → Nat → Int64) → (Int32) → (UInt64) → Option ((Nat → Nat → Int32) × (Nat → Nat → Int64))
  | 0, _, _, _, _ => none
  | n + 1, I, J, x3, x4 =>
    if (Op.cmpValue (FP.dcmp x4 (4845873199050653696 : UInt64)) .l) < 0 then
      gX12_parted_l38 σ FUx I J x3 x4
    else
      if (FP.ddiv x4 (4611686018427387904 : UInt64)) &&& 0x7fffffffffffffff ≤ 0x7ff0000000000000 then
      let v8 := (FP.ddiv x4 (4611686018427387904 : UInt64))
      let I9 := u2 I 114 134 ((I 114 134) + (1 : Int32))
      gX12_parted_l8 σ n I9 J x3 v8
      else none
theorem eX12_parted_l8 {σ : Shp} {R : Nat → Nat → Option Nat} (hS : Skel σ R) : ∀ (n : Nat) (I : Nat → Nat → Int32) (J : Nat → Nat → Int64) (x3 : Int32) (x4 : UInt64), fX12_parted_l8 σ 114 n I J x3 x4 = gX12_parted_l8 σ n I J x3 x4 := by
  intro n
  induction n with
  | zero => intro I J x3 x4; rfl
  | succ n ih =>
    intro I J x3 x4
    rw [fX12_parted_l8, gX12_parted_l8]
    refine bi (fun c => ?_) (fun c => ?_)
    · exact eX12_parted_l38 hS _ _ _ _ _
    · refine bg (fun g7 => ?_)
      refine sg (kq114 hS) ?_
      exact ih _ _ _ _
def gX12_parted (σ : Shp) (I : Nat → Nat → Int32) (J : Nat → Nat → Int64) (x1 : UInt64) (x3 : Int32) : Option ((Nat → Nat → Int32) × (Nat → Nat → Int64)) :=
  let I1 := u2 I 114 134 (0 : Int32)
  gX12_parted_l8 σ FUx I1 J x3 x1
theorem eX12_parted {σ : Shp} {I : Nat → Nat → Int32} {J : Nat → Nat → Int64} {R : Nat → Nat → Option Nat} {x1 : UInt64} {x3 : Int32} (hS : Skel σ R) : fX12_parted σ I J 114 x1 x3 = gX12_parted σ I J x1 x3 := by
  unfold fX12_parted gX12_parted
  refine sg (kq114 hS) ?_
  exact eX12_parted_l8 hS _ _ _ _ _
def gX12_bits_b57  (σ : Shp) (I : Nat → Nat → Int32) (J : Nat → Nat → Int64) (x3 : Int32) (x4 : UInt64) (x6 : Int64) : Option ((Nat → Nat → Int32) × (Nat → Nat → Int64) × (Int64)) :=
  if (Op.cmpValue (FP.dcmp x4 (FP.dconst0)) .l) ≤ 0 then
    if x3 = 0 then
      some (I, J, x6)
    else
      some (I, J, (x6 ||| (-9223372036854775808 : Int64)))
  else
    (gX12_parted σ I J x4 (-1074 : Int32)).bind fun (I3, J4) =>
    if (4503599627370496 : Int64) ≤ (J4 114 133) then
      let v6 := (((Int32.toInt64 ((I3 114 134) + (1075 : Int32))) <<< (Int32.toInt64 (52 : Int32) &&& 63)) ||| ((J4 114 133) &&& (4503599627370495 : Int64)))
      if x3 = 0 then
        some (I3, J4, v6)
      else
        some (I3, J4, (v6 ||| (-9223372036854775808 : Int64)))
    else
      let v7 := (J4 114 133)
      if x3 = 0 then
        some (I3, J4, v7)
      else
        some (I3, J4, (v7 ||| (-9223372036854775808 : Int64)))
theorem eX12_bits_b57 {σ : Shp} {I : Nat → Nat → Int32} {J : Nat → Nat → Int64} {R : Nat → Nat → Option Nat} {x3 : Int32} {x4 : UInt64} {x6 : Int64} (hS : Skel σ R) : fX12_bits_b57 σ 114 I J x3 x4 x6 = gX12_bits_b57 σ I J x3 x4 x6 := by
  unfold fX12_bits_b57 gX12_bits_b57
  refine bi (fun c => ?_) (fun c => ?_)
  · refine bi (fun c => ?_) (fun c => ?_)
    · rfl
    · rfl
  · refine sg (kq114 hS) ?_
    refine bc (eX12_parted hS) (fun pp hc5 => ?_)
    obtain ⟨I3, J4⟩ := pp
    refine bi (fun c => ?_) (fun c => ?_)
    · refine bi (fun c => ?_) (fun c => ?_)
      · rfl
      · rfl
    · refine bi (fun c => ?_) (fun c => ?_)
      · rfl
      · rfl
def gX12_bits_b25  (σ : Shp) (I : Nat → Nat → Int32) (J : Nat → Nat → Int64) (x3 : Int32) (s0 : UInt64) : Option ((Nat → Nat → Int32) × (Nat → Nat → Int64) × (Int64)) :=
  if (Op.cmpValue (FP.dcmp s0 (FP.dconst0)) .l) ≤ 0 then
    gX12_bits_b57 σ I J x3 s0 (0 : Int64)
  else
    if (FP.ddiv s0 (4611686018427387904 : UInt64)) &&& 0x7fffffffffffffff ≤ 0x7ff0000000000000 then
    if (Op.cmpValue (FP.dcmp (FP.ddiv s0 (4611686018427387904 : UInt64)) s0) .l) = 0 then
      if x3 = 0 then
        some (I, J, (9218868437227405312 : Int64))
      else
        some (I, J, ((9218868437227405312 : Int64) ||| (-9223372036854775808 : Int64)))
    else
      gX12_bits_b57 σ I J x3 s0 (0 : Int64)
    else none
theorem eX12_bits_b25 {σ : Shp} {I : Nat → Nat → Int32} {J : Nat → Nat → Int64} {R : Nat → Nat → Option Nat} {x3 : Int32} {s0 : UInt64} (hS : Skel σ R) : fX12_bits_b25 σ 114 I J x3 s0 = gX12_bits_b25 σ I J x3 s0 := by
  unfold fX12_bits_b25 gX12_bits_b25
  refine bi (fun c => ?_) (fun c => ?_)
  · exact eX12_bits_b57 hS
  · refine bg (fun g8 => ?_)
    refine bi (fun c => ?_) (fun c => ?_)
    · refine bi (fun c => ?_) (fun c => ?_)
      · rfl
      · rfl
    · exact eX12_bits_b57 hS
def gX12_bits (σ : Shp) (I : Nat → Nat → Int32) (J : Nat → Nat → Int64) (x1 : UInt64) : Option ((Nat → Nat → Int32) × (Nat → Nat → Int64) × (Int64)) :=
  if (Op.cmpValue (FP.dcmp x1 x1) .l) = 0 then
    (fX12_isMinus x1).bind fun r1 =>
    if r1 = 0 then
      gX12_bits_b25 σ I J r1 x1
    else
      gX12_bits_b25 σ I J r1 (FP.dneg x1)
  else
    some (I, J, (9221120237041090560 : Int64))
theorem eX12_bits {σ : Shp} {I : Nat → Nat → Int32} {J : Nat → Nat → Int64} {R : Nat → Nat → Option Nat} {x1 : UInt64} (hS : Skel σ R) : fX12_bits σ I J 114 x1 = gX12_bits σ I J x1 := by
  unfold fX12_bits gX12_bits
  refine bi (fun c => ?_) (fun c => ?_)
  · refine bc rfl (fun r1 hc2 => ?_)
    refine bi (fun c => ?_) (fun c => ?_)
    · exact eX12_bits_b25 hS
    · exact eX12_bits_b25 hS
  · rfl
def gX12_real_l131 (q77 : (Nat → Nat → Int32) → (Nat → Nat → Int64) → (Nat → Nat → UInt64) → (Int32) → (Int32) → (Int32) → (Int32) → (UInt64) → (Int32) → (Option ((Nat → Nat → Int32) × (Nat → Nat → Int64) × (Nat → Nat → UInt64) × (Int64)))) (σ : Shp) (R : Nat → Nat → Option Nat) : Nat → (Nat → Nat → Int32) → (Nat → Nat → Int64) → (Nat → Nat → UInt64) → (Int32) → (Int32) → (Int32) → (Int32) → (UInt64) → (Int32) → (UInt64) → (Int32) → Option ((Nat → Nat → Int32) × (Nat → Nat → Int64) × (Nat → Nat → UInt64) × (Int64))
  | 0, _, _, _, _, _, _, _, _, _, _, _ => none
  | n + 1, I, J, D, x1, x3, x4, x5, x6, x8, x9, x11 =>
    if x11 ≤ 0 then
      if ¬ (x11 < 0 ∨ 40 ≤ Int32.toNatClampNeg x11) then
      let D41 := u2 D 187 (Int32.toNatClampNeg x11) x9
      let v42 := x5 + (1 : Int32)
      let v43 := x8 + (1 : Int32)
      q77 I J D41 x1 x3 x4 v42 x6 v43
      else none
    else
      if ¬ ((x11 - (1 : Int32)) < 0 ∨ 40 ≤ Int32.toNatClampNeg (x11 - (1 : Int32))) then
      (fX12_isLess x9 (D 187 (Int32.toNatClampNeg (x11 - (1 : Int32))))).bind fun r45 =>
      if r45 = 0 then
        if ¬ (x11 < 0 ∨ 40 ≤ Int32.toNatClampNeg x11) then
        let D48 := u2 D 187 (Int32.toNatClampNeg x11) x9
        let v49 := x5 + (1 : Int32)
        let v50 := x8 + (1 : Int32)
        q77 I J D48 x1 x3 x4 v49 x6 v50
        else none
      else
        if ¬ (x11 < 0 ∨ 40 ≤ Int32.toNatClampNeg x11) then
        let D52 := u2 D 187 (Int32.toNatClampNeg x11) (D 187 (Int32.toNatClampNeg (x11 - (1 : Int32))))
        let v53 := x11 + (-1 : Int32)
        gX12_real_l131 q77 σ R n I J D52 x1 x3 x4 x5 x6 x8 x9 v53
        else none
      else none
theorem eX12_real_l131 {σ : Shp} {R : Nat → Nat → Option Nat} (hS : Skel σ R) {qf77 q77 : (Nat → Nat → Int32) → (Nat → Nat → Int64) → (Nat → Nat → UInt64) → (Int32) → (Int32) → (Int32) → (Int32) → (UInt64) → (Int32) → (Option ((Nat → Nat → Int32) × (Nat → Nat → Int64) × (Nat → Nat → UInt64) × (Int64)))} (hq77 : ∀ (I : Nat → Nat → Int32) (J : Nat → Nat → Int64) (D : Nat → Nat → UInt64) (x1 : Int32) (x3 : Int32) (x4 : Int32) (x5 : Int32) (x6 : UInt64) (x8 : Int32), qf77 I J D x1 x3 x4 x5 x6 x8 = q77 I J D x1 x3 x4 x5 x6 x8) : ∀ (n : Nat) (I : Nat → Nat → Int32) (J : Nat → Nat → Int64) (D : Nat → Nat → UInt64) (x1 : Int32) (x3 : Int32) (x4 : Int32) (x5 : Int32) (x6 : UInt64) (x8 : Int32) (x9 : UInt64) (x11 : Int32), fX12_real_l131 qf77 σ R 114 n I J D x1 x3 x4 x5 x6 x8 x9 x11 = gX12_real_l131 q77 σ R n I J D x1 x3 x4 x5 x6 x8 x9 x11 := by
  intro n
  induction n with
  | zero => intro I J D x1 x3 x4 x5 x6 x8 x9 x11; rfl
  | succ n ih =>
    intro I J D x1 x3 x4 x5 x6 x8 x9 x11
    rw [fX12_real_l131, gX12_real_l131]
    refine bi (fun c => ?_) (fun c => ?_)
    · refine sg (kq114 hS) ?_
      refine sb (rq114_109 hS) ?_
      refine sg (kq187 hS) ?_
      refine bgr (by rw [lq187 hS]) (fun g40 => ?_)
      exact hq77 _ _ _ _ _ _ _ _ _
    · refine sg (kq114 hS) ?_
      refine sb (rq114_109 hS) ?_
      refine sg (kq187 hS) ?_
      refine bgr (by rw [lq187 hS]) (fun g44 => ?_)
      refine bc rfl (fun r45 hc46 => ?_)
      refine bi (fun c => ?_) (fun c => ?_)
      · refine bgr (by rw [lq187 hS]) (fun g47 => ?_)
        exact hq77 _ _ _ _ _ _ _ _ _
      · refine bgr (by rw [lq187 hS]) (fun g51 => ?_)
        exact ih _ _ _ _ _ _ _ _ _ _ _
def gX12_real_l77  (σ : Shp) (R : Nat → Nat → Option Nat) : Nat → (Nat → Nat → Int32) → (Nat → Nat → Int64) → (Nat → Nat → UInt64) → (Int32) → (Int32) → (Int32) → (Int32) → (UInt64) → (Int32) → Option ((Nat → Nat → Int32) × (Nat → Nat → Int64) × (Nat → Nat → UInt64) × (Int64))
  | 0, _, _, _, _, _, _, _, _, _ => none
  | n + 1, I, J, D, x1, x3, x4, x5, x6, x8 =>
    if ¬ (x4 < 0 ∨ 4100 ≤ Int32.toNatClampNeg x4) then
    if (I 117 (Int32.toNatClampNeg x4)) ≤ x8 then
      if x5 = 0 then
        some (I, J, D, (9221120237041090560 : Int64))
      else
        if x3 = 0 then
          if ¬ ((0 : Int32) < 0 ∨ 40 ≤ Int32.toNatClampNeg (0 : Int32)) then
          (gX12_bits σ I J (D 187 (Int32.toNatClampNeg (0 : Int32)))).bind fun (I29, J30, r31) =>
          some (I29, J30, D, r31)
          else none
        else
          if x3 = (1 : Int32) then
            if ¬ ((x5 - (1 : Int32)) < 0 ∨ 40 ≤ Int32.toNatClampNeg (x5 - (1 : Int32))) then
            (gX12_bits σ I J (D 187 (Int32.toNatClampNeg (x5 - (1 : Int32))))).bind fun (I24, J25, r26) =>
            some (I24, J25, D, r26)
            else none
          else
            if x3 = (2 : Int32) then
              (fX12_overReal x6 (FP.i2d x5)).bind fun r17 =>
              (gX12_bits σ I J r17).bind fun (I19, J20, r21) =>
              some (I19, J20, D, r21)
            else
              if ¬ (((x5 - (1 : Int32)) / (2 : Int32)) < 0 ∨ 40 ≤ Int32.toNatClampNeg ((x5 - (1 : Int32)) / (2 : Int32))) then
              (gX12_bits σ I J (D 187 (Int32.toNatClampNeg ((x5 - (1 : Int32)) / (2 : Int32))))).bind fun (I13, J14, r15) =>
              some (I13, J14, D, r15)
              else none
    else
      if ¬ (x4 < 0 ∨ 4100 ≤ Int32.toNatClampNeg x4) then
      if ¬ (((I 118 (Int32.toNatClampNeg x4)) + x8) < 0 ∨ 164000 ≤ Int32.toNatClampNeg ((I 118 (Int32.toNatClampNeg x4)) + x8)) then
      (fX12_realOf x1 (J 119 (Int32.toNatClampNeg ((I 118 (Int32.toNatClampNeg x4)) + x8)))).bind fun r35 =>
      if (Op.cmpValue (FP.dcmp r35 r35) .l) = 0 then
        (fX12_plusReal x6 r35).bind fun r38 =>
        gX12_real_l131 (gX12_real_l77 σ R n) σ R FUx I J D x1 x3 x4 x5 r38 x8 r35 x5
      else
        let v37 := x8 + (1 : Int32)
        gX12_real_l77 σ R n I J D x1 x3 x4 x5 x6 v37
      else none
      else none
    else none
theorem eX12_real_l77 {σ : Shp} {R : Nat → Nat → Option Nat} (hS : Skel σ R) : ∀ (n : Nat) (I : Nat → Nat → Int32) (J : Nat → Nat → Int64) (D : Nat → Nat → UInt64) (x1 : Int32) (x3 : Int32) (x4 : Int32) (x5 : Int32) (x6 : UInt64) (x8 : Int32), fX12_real_l77 σ R 114 n I J D x1 x3 x4 x5 x6 x8 = gX12_real_l77 σ R n I J D x1 x3 x4 x5 x6 x8 := by
  intro n
  induction n with
  | zero => intro I J D x1 x3 x4 x5 x6 x8; rfl
  | succ n ih =>
    intro I J D x1 x3 x4 x5 x6 x8
    rw [fX12_real_l77, gX12_real_l77]
    refine sg (kq114 hS) ?_
    refine sb (rq114_5 hS) ?_
    refine sg (kq117 hS) ?_
    refine bgr (by rw [lq117 hS]) (fun g11 => ?_)
    refine bi (fun c => ?_) (fun c => ?_)
    · refine bi (fun c => ?_) (fun c => ?_)
      · rfl
      · refine bi (fun c => ?_) (fun c => ?_)
        · refine sb (rq114_109 hS) ?_
          refine sg (kq187 hS) ?_
          refine bgr (by rw [lq187 hS]) (fun g28 => ?_)
          refine bc (eX12_bits hS) (fun pp hc32 => ?_)
          obtain ⟨I29, J30, r31⟩ := pp
          rfl
        · refine bi (fun c => ?_) (fun c => ?_)
          · refine sb (rq114_109 hS) ?_
            refine sg (kq187 hS) ?_
            refine bgr (by rw [lq187 hS]) (fun g23 => ?_)
            refine bc (eX12_bits hS) (fun pp hc27 => ?_)
            obtain ⟨I24, J25, r26⟩ := pp
            rfl
          · refine bi (fun c => ?_) (fun c => ?_)
            · refine bc rfl (fun r17 hc18 => ?_)
              refine bc (eX12_bits hS) (fun pp hc22 => ?_)
              obtain ⟨I19, J20, r21⟩ := pp
              rfl
            · refine sb (rq114_109 hS) ?_
              refine sg (kq187 hS) ?_
              refine bgr (by rw [lq187 hS]) (fun g12 => ?_)
              refine bc (eX12_bits hS) (fun pp hc16 => ?_)
              obtain ⟨I13, J14, r15⟩ := pp
              rfl
    · refine sb (rq114_8 hS) ?_
      refine sb (rq114_6 hS) ?_
      refine sg (kq118 hS) ?_
      refine bgr (by rw [lq118 hS]) (fun g33 => ?_)
      refine sg (kq119 hS) ?_
      refine bgr (by rw [lq119 hS]) (fun g34 => ?_)
      refine bc rfl (fun r35 hc36 => ?_)
      refine bi (fun c => ?_) (fun c => ?_)
      · refine bc rfl (fun r38 hc39 => ?_)
        exact eX12_real_l131 hS ih _ _ _ _ _ _ _ _ _ _ _ _
      · exact ih _ _ _ _ _ _ _ _ _
def gX12_real (σ : Shp) (I : Nat → Nat → Int32) (J : Nat → Nat → Int64) (D : Nat → Nat → UInt64) (R : Nat → Nat → Option Nat) (x1 : Int32) (x2 : Int32) (x3 : Int32) : Option ((Nat → Nat → Int32) × (Nat → Nat → Int64) × (Nat → Nat → UInt64) × (Int64)) :=
  if (fX12_in x1 (6 : Int32) (7 : Int32)) = 0 then
    some (I, J, D, (0 : Int64))
  else
    if (fX12_isBin x2) = 0 then
      some (I, J, D, (0 : Int64))
    else
      if (fX12_in x3 (0 : Int32) (3 : Int32)) = 0 then
        some (I, J, D, (0 : Int64))
      else
        if ¬ (x2 < 0 ∨ 16 ≤ Int32.toNatClampNeg x2) then
        let v2 := (I 115 (Int32.toNatClampNeg x2))
        if v2 = 0 then
          if v2 = 0 then
            (gX12_noBits I (1 : Int32)).bind fun (I6, r7) =>
            some (I6, J, D, r7)
          else
            (gX12_noBits I (4 : Int32)).bind fun (I3, r4) =>
            some (I3, J, D, r4)
        else
          if ¬ (v2 < 0 ∨ 4100 ≤ Int32.toNatClampNeg v2) then
          if (I 116 (Int32.toNatClampNeg v2)) = x1 then
            let v10 := FP.dconst0
            gX12_real_l77 σ R FUx I J D x1 x3 v2 (0 : Int32) v10 (0 : Int32)
          else
            if v2 = 0 then
              (gX12_noBits I (1 : Int32)).bind fun (I57, r58) =>
              some (I57, J, D, r58)
            else
              (gX12_noBits I (4 : Int32)).bind fun (I54, r55) =>
              some (I54, J, D, r55)
          else none
        else none
theorem eX12_real {σ : Shp} {I : Nat → Nat → Int32} {J : Nat → Nat → Int64} {D : Nat → Nat → UInt64} {R : Nat → Nat → Option Nat} {x1 : Int32} {x2 : Int32} {x3 : Int32} (hS : Skel σ R) : fX12_real σ I J D R 114 x1 x2 x3 = gX12_real σ I J D R x1 x2 x3 := by
  unfold fX12_real gX12_real
  refine bi (fun c => ?_) (fun c => ?_)
  · rfl
  · refine bi (fun c => ?_) (fun c => ?_)
    · rfl
    · refine bi (fun c => ?_) (fun c => ?_)
      · rfl
      · refine sg (kq114 hS) ?_
        refine sb (rq114_3 hS) ?_
        refine sg (kq115 hS) ?_
        refine bgr (by rw [lq115 hS]) (fun g1 => ?_)
        refine bi (fun c => ?_) (fun c => ?_)
        · refine bi (fun c => ?_) (fun c => ?_)
          · refine bc (eX12_noBits hS) (fun pp hc8 => ?_)
            obtain ⟨I6, r7⟩ := pp
            rfl
          · refine bc (eX12_noBits hS) (fun pp hc5 => ?_)
            obtain ⟨I3, r4⟩ := pp
            rfl
        · refine sb (rq114_4 hS) ?_
          refine sg (kq116 hS) ?_
          refine bgr (by rw [lq116 hS]) (fun g9 => ?_)
          refine bi (fun c => ?_) (fun c => ?_)
          · exact eX12_real_l77 hS _ _ _ _ _ _ _ _ _ _
          · refine bi (fun c => ?_) (fun c => ?_)
            · refine bc (eX12_noBits hS) (fun pp hc59 => ?_)
              obtain ⟨I57, r58⟩ := pp
              rfl
            · refine bc (eX12_noBits hS) (fun pp hc56 => ?_)
              obtain ⟨I54, r55⟩ := pp
              rfl
def gX12_wholeMean_l70  (σ : Shp) (J : Nat → Nat → Int64) (R : Nat → Nat → Option Nat) : Nat → (Nat → Nat → Int32) → (Int32) → (Int64) → (Int32) → Option ((Nat → Nat → Int32) × (Int32))
  | 0, _, _, _, _ => none
  | n + 1, I, x2, x4, x6 =>
    if ¬ (x2 < 0 ∨ 4100 ≤ Int32.toNatClampNeg x2) then
    if (I 117 (Int32.toNatClampNeg x2)) ≤ x6 then
      if ¬ (Int32.toInt64 (I 117 (Int32.toNatClampNeg x2))) = 0 then
      let I8 := u2 I 114 25 (Int64.toInt32 (x4 / (Int32.toInt64 (I 117 (Int32.toNatClampNeg x2)))))
      some (I8, (1 : Int32))
      else none
    else
      if ¬ (x2 < 0 ∨ 4100 ≤ Int32.toNatClampNeg x2) then
      if ¬ (((I 118 (Int32.toNatClampNeg x2)) + x6) < 0 ∨ 164000 ≤ Int32.toNatClampNeg ((I 118 (Int32.toNatClampNeg x2)) + x6)) then
      let v11 := (x4 + (J 119 (Int32.toNatClampNeg ((I 118 (Int32.toNatClampNeg x2)) + x6))))
      let v12 := x6 + (1 : Int32)
      gX12_wholeMean_l70 σ J R n I x2 v11 v12
      else none
      else none
    else none
theorem eX12_wholeMean_l70 {σ : Shp} {J : Nat → Nat → Int64} {R : Nat → Nat → Option Nat} (hS : Skel σ R) : ∀ (n : Nat) (I : Nat → Nat → Int32) (x2 : Int32) (x4 : Int64) (x6 : Int32), fX12_wholeMean_l70 σ J R 114 n I x2 x4 x6 = gX12_wholeMean_l70 σ J R n I x2 x4 x6 := by
  intro n
  induction n with
  | zero => intro I x2 x4 x6; rfl
  | succ n ih =>
    intro I x2 x4 x6
    rw [fX12_wholeMean_l70, gX12_wholeMean_l70]
    refine sg (kq114 hS) ?_
    refine sb (rq114_5 hS) ?_
    refine sg (kq117 hS) ?_
    refine bgr (by rw [lq117 hS]) (fun g6 => ?_)
    refine bi (fun c => ?_) (fun c => ?_)
    · refine bg (fun g7 => ?_)
      rfl
    · refine sb (rq114_8 hS) ?_
      refine sb (rq114_6 hS) ?_
      refine sg (kq118 hS) ?_
      refine bgr (by rw [lq118 hS]) (fun g9 => ?_)
      refine sg (kq119 hS) ?_
      refine bgr (by rw [lq119 hS]) (fun g10 => ?_)
      exact ih _ _ _ _
def gX12_wholeMean (σ : Shp) (I : Nat → Nat → Int32) (J : Nat → Nat → Int64) (R : Nat → Nat → Option Nat) (x1 : Int32) : Option ((Nat → Nat → Int32) × (Int32)) :=
  if (fX12_isBin x1) = 0 then
    some (I, (-2 : Int32))
  else
    if ¬ (x1 < 0 ∨ 16 ≤ Int32.toNatClampNeg x1) then
    let v2 := (I 115 (Int32.toNatClampNeg x1))
    (gX12_isOf I v2 (4 : Int32)).bind fun r3 =>
    if r3 = 0 then
      if (4 : Int32) = 0 then
        gX12_wholeMean_l70 σ J R FUx I v2 (0 : Int64) (0 : Int32)
      else
        (gX12_no I (4 : Int32)).bind fun (I22, r23) =>
        some (I22, r23)
    else
      if v2 = 0 then
        if (1 : Int32) = 0 then
          gX12_wholeMean_l70 σ J R FUx I v2 (0 : Int64) (0 : Int32)
        else
          (gX12_no I (1 : Int32)).bind fun (I19, r20) =>
          some (I19, r20)
      else
        if ¬ (v2 < 0 ∨ 4100 ≤ Int32.toNatClampNeg v2) then
        if (I 117 (Int32.toNatClampNeg v2)) = 0 then
          if (6 : Int32) = 0 then
            gX12_wholeMean_l70 σ J R FUx I v2 (0 : Int64) (0 : Int32)
          else
            (gX12_no I (6 : Int32)).bind fun (I16, r17) =>
            some (I16, r17)
        else
          if (0 : Int32) = 0 then
            gX12_wholeMean_l70 σ J R FUx I v2 (0 : Int64) (0 : Int32)
          else
            (gX12_no I (0 : Int32)).bind fun (I13, r14) =>
            some (I13, r14)
        else none
    else none
theorem eX12_wholeMean {σ : Shp} {I : Nat → Nat → Int32} {J : Nat → Nat → Int64} {R : Nat → Nat → Option Nat} {x1 : Int32} (hS : Skel σ R) : fX12_wholeMean σ I J R 114 x1 = gX12_wholeMean σ I J R x1 := by
  unfold fX12_wholeMean gX12_wholeMean
  refine bi (fun c => ?_) (fun c => ?_)
  · rfl
  · refine sg (kq114 hS) ?_
    refine sb (rq114_3 hS) ?_
    refine sg (kq115 hS) ?_
    refine bgr (by rw [lq115 hS]) (fun g1 => ?_)
    refine bc (eX12_isOf hS) (fun r3 hc4 => ?_)
    refine bi (fun c => ?_) (fun c => ?_)
    · refine bi (fun c => ?_) (fun c => ?_)
      · exact eX12_wholeMean_l70 hS _ _ _ _ _
      · refine bc (eX12_no hS) (fun pp hc24 => ?_)
        obtain ⟨I22, r23⟩ := pp
        rfl
    · refine bi (fun c => ?_) (fun c => ?_)
      · refine bi (fun c => ?_) (fun c => ?_)
        · exact eX12_wholeMean_l70 hS _ _ _ _ _
        · refine bc (eX12_no hS) (fun pp hc21 => ?_)
          obtain ⟨I19, r20⟩ := pp
          rfl
      · refine sb (rq114_5 hS) ?_
        refine sg (kq117 hS) ?_
        refine bgr (by rw [lq117 hS]) (fun g5 => ?_)
        refine bi (fun c => ?_) (fun c => ?_)
        · refine bi (fun c => ?_) (fun c => ?_)
          · exact eX12_wholeMean_l70 hS _ _ _ _ _
          · refine bc (eX12_no hS) (fun pp hc18 => ?_)
            obtain ⟨I16, r17⟩ := pp
            rfl
        · refine bi (fun c => ?_) (fun c => ?_)
          · exact eX12_wholeMean_l70 hS _ _ _ _ _
          · refine bc (eX12_no hS) (fun pp hc15 => ?_)
            obtain ⟨I13, r14⟩ := pp
            rfl
def gX12_salt_b33  (σ : Shp) (R : Nat → Nat → Option Nat) (I : Nat → Nat → Int32) (x1 : Int32) (x2 : Int32) (x3 : Int32) (s0 : Int32) (s1 : Int32) (s2 : Int32) : Option ((Nat → Nat → Int32) × (Int32)) :=
  if (fX12_in s0 s1 s2) = 0 then
    some (I, (-2 : Int32))
  else
    if ¬ ((((3 : Int32) * x1) + x2) < 0 ∨ 18 ≤ Int32.toNatClampNeg (((3 : Int32) * x1) + x2)) then
    let v2 := (I 188 (Int32.toNatClampNeg (((3 : Int32) * x1) + x2)))
    let I3 := u2 I 188 (Int32.toNatClampNeg (((3 : Int32) * x1) + x2)) x3
    some (I3, v2)
    else none
theorem eX12_salt_b33 {σ : Shp} {I : Nat → Nat → Int32} {R : Nat → Nat → Option Nat} {x1 : Int32} {x2 : Int32} {x3 : Int32} {s0 : Int32} {s1 : Int32} {s2 : Int32} (hS : Skel σ R) : fX12_salt_b33 σ R 114 I x1 x2 x3 s0 s1 s2 = gX12_salt_b33 σ R I x1 x2 x3 s0 s1 s2 := by
  unfold fX12_salt_b33 gX12_salt_b33
  refine bi (fun c => ?_) (fun c => ?_)
  · rfl
  · refine sg (kq114 hS) ?_
    refine sb (rq114_110 hS) ?_
    refine sg (kq188 hS) ?_
    refine bgr (by rw [lq188 hS]) (fun g1 => ?_)
    rfl
def gX12_salt (σ : Shp) (I : Nat → Nat → Int32) (R : Nat → Nat → Option Nat) (x1 : Int32) (x2 : Int32) (x3 : Int32) : Option ((Nat → Nat → Int32) × (Int32)) :=
  if (fX12_in x1 (0 : Int32) (5 : Int32)) = 0 then
    some (I, (-2 : Int32))
  else
    if (fX12_in x2 (0 : Int32) (2 : Int32)) = 0 then
      some (I, (-2 : Int32))
    else
      if (4 : Int32) ≤ x1 then
        gX12_salt_b33 σ R I x1 x2 x3 x3 (0 : Int32) (999 : Int32)
      else
        gX12_salt_b33 σ R I x1 x2 x3 x3 (0 : Int32) (99 : Int32)
theorem eX12_salt {σ : Shp} {I : Nat → Nat → Int32} {R : Nat → Nat → Option Nat} {x1 : Int32} {x2 : Int32} {x3 : Int32} (hS : Skel σ R) : fX12_salt σ I R 114 x1 x2 x3 = gX12_salt σ I R x1 x2 x3 := by
  unfold fX12_salt gX12_salt
  refine bi (fun c => ?_) (fun c => ?_)
  · rfl
  · refine bi (fun c => ?_) (fun c => ?_)
    · rfl
    · refine bi (fun c => ?_) (fun c => ?_)
      · exact eX12_salt_b33 hS
      · exact eX12_salt_b33 hS
def gX12_fraction_b23  (σ : Shp) (R : Nat → Nat → Option Nat) (J : Nat → Nat → Int64) (x1 : Int32) (x2 : Int64) (x4 : Int64) (s0 : Int64) : Option ((Nat → Nat → Int64)) :=
  if ¬ s0 = 0 then
  if ¬ (x1 < 0 ∨ 24 ≤ Int32.toNatClampNeg x1) then
  let J5 := u2 J 189 (Int32.toNatClampNeg x1) (x2 / s0)
  if ¬ (x1 < 0 ∨ 24 ≤ Int32.toNatClampNeg x1) then
  let J7 := u2 J5 190 (Int32.toNatClampNeg x1) (x4 / s0)
  some J7
  else none
  else none
  else none
theorem eX12_fraction_b23 {σ : Shp} {J : Nat → Nat → Int64} {R : Nat → Nat → Option Nat} {x1 : Int32} {x2 : Int64} {x4 : Int64} {s0 : Int64} (hS : Skel σ R) : fX12_fraction_b23 σ R 114 J x1 x2 x4 s0 = gX12_fraction_b23 σ R J x1 x2 x4 s0 := by
  unfold fX12_fraction_b23 gX12_fraction_b23
  refine sg (kq114 hS) ?_
  refine sb (rq114_111 hS) ?_
  refine bg (fun g3 => ?_)
  refine sg (kq189 hS) ?_
  refine bgr (by rw [lq189 hS]) (fun g4 => ?_)
  refine sb (rq114_112 hS) ?_
  refine sg (kq190 hS) ?_
  refine bgr (by rw [lq190 hS]) (fun g6 => ?_)
  rfl
def gX12_fraction (σ : Shp) (J : Nat → Nat → Int64) (R : Nat → Nat → Option Nat) (x1 : Int32) (x2 : Int64) (x4 : Int64) : Option ((Nat → Nat → Int64)) :=
  (fX12_common x2 x4).bind fun r1 =>
  if (0 : Int64) ≤ x4 then
    gX12_fraction_b23 σ R J x1 x2 x4 r1
  else
    gX12_fraction_b23 σ R J x1 x2 x4 (-r1)
theorem eX12_fraction {σ : Shp} {J : Nat → Nat → Int64} {R : Nat → Nat → Option Nat} {x1 : Int32} {x2 : Int64} {x4 : Int64} (hS : Skel σ R) : fX12_fraction σ J R 114 x1 x2 x4 = gX12_fraction σ J R x1 x2 x4 := by
  unfold fX12_fraction gX12_fraction
  refine bc rfl (fun r1 hc2 => ?_)
  refine bi (fun c => ?_) (fun c => ?_)
  · exact eX12_fraction_b23 hS
  · exact eX12_fraction_b23 hS
def gX12_less_b55  (σ : Shp) (R : Nat → Nat → Option Nat) (J : Nat → Nat → Int64) (x1 : Int32) (x2 : Int64) (x4 : Int64) (x6 : Int32) (x7 : Int64) (s0 : Int64) : Option ((Nat → Nat → Int64)) :=
  if ¬ x7 = 0 then
  if ¬ (x6 < 0 ∨ 24 ≤ Int32.toNatClampNeg x6) then
  if ¬ s0 = 0 then
  let v10 := ((x2 / x7) * ((J 189 (Int32.toNatClampNeg x6)) / s0))
  if ¬ (x6 < 0 ∨ 24 ≤ Int32.toNatClampNeg x6) then
  let v12 := ((x4 / s0) * ((J 190 (Int32.toNatClampNeg x6)) / x7))
  if ¬ (x1 < 0 ∨ 24 ≤ Int32.toNatClampNeg x1) then
  (fX12_common (J 190 (Int32.toNatClampNeg x1)) v12).bind fun r14 =>
  if ¬ (x1 < 0 ∨ 24 ≤ Int32.toNatClampNeg x1) then
  if ¬ r14 = 0 then
  (gX12_fraction σ J R x1 (((J 189 (Int32.toNatClampNeg x1)) * (v12 / r14)) - (v10 * ((J 190 (Int32.toNatClampNeg x1)) / r14))) (((J 190 (Int32.toNatClampNeg x1)) / r14) * v12)).bind fun J18 =>
  some J18
  else none
  else none
  else none
  else none
  else none
  else none
  else none
theorem eX12_less_b55 {σ : Shp} {J : Nat → Nat → Int64} {R : Nat → Nat → Option Nat} {x1 : Int32} {x2 : Int64} {x4 : Int64} {x6 : Int32} {x7 : Int64} {s0 : Int64} (hS : Skel σ R) : fX12_less_b55 σ R 114 J x1 x2 x4 x6 x7 s0 = gX12_less_b55 σ R J x1 x2 x4 x6 x7 s0 := by
  unfold fX12_less_b55 gX12_less_b55
  refine bg (fun g7 => ?_)
  refine sg (kq114 hS) ?_
  refine sb (rq114_111 hS) ?_
  refine sg (kq189 hS) ?_
  refine bgr (by rw [lq189 hS]) (fun g8 => ?_)
  refine bg (fun g9 => ?_)
  refine sb (rq114_112 hS) ?_
  refine sg (kq190 hS) ?_
  refine bgr (by rw [lq190 hS]) (fun g11 => ?_)
  refine bgr (by rw [lq190 hS]) (fun g13 => ?_)
  refine bc rfl (fun r14 hc15 => ?_)
  refine bgr (by rw [lq189 hS]) (fun g16 => ?_)
  refine bg (fun g17 => ?_)
  refine bc (eX12_fraction hS) (fun J18 hc19 => ?_)
  rfl
def gX12_less (σ : Shp) (J : Nat → Nat → Int64) (R : Nat → Nat → Option Nat) (x1 : Int32) (x2 : Int64) (x4 : Int64) (x6 : Int32) : Option ((Nat → Nat → Int64)) :=
  if ¬ (x6 < 0 ∨ 24 ≤ Int32.toNatClampNeg x6) then
  (fX12_common x2 (J 190 (Int32.toNatClampNeg x6))).bind fun r2 =>
  if ¬ (x6 < 0 ∨ 24 ≤ Int32.toNatClampNeg x6) then
  (fX12_common (J 189 (Int32.toNatClampNeg x6)) x4).bind fun r5 =>
  if r2 = (0 : Int64) then
    if r5 = (0 : Int64) then
      gX12_less_b55 σ R J x1 x2 x4 x6 (1 : Int64) (1 : Int64)
    else
      gX12_less_b55 σ R J x1 x2 x4 x6 (1 : Int64) r5
  else
    if r5 = (0 : Int64) then
      gX12_less_b55 σ R J x1 x2 x4 x6 r2 (1 : Int64)
    else
      gX12_less_b55 σ R J x1 x2 x4 x6 r2 r5
  else none
  else none
theorem eX12_less {σ : Shp} {J : Nat → Nat → Int64} {R : Nat → Nat → Option Nat} {x1 : Int32} {x2 : Int64} {x4 : Int64} {x6 : Int32} (hS : Skel σ R) : fX12_less σ J R 114 x1 x2 x4 x6 = gX12_less σ J R x1 x2 x4 x6 := by
  unfold fX12_less gX12_less
  refine sg (kq114 hS) ?_
  refine sb (rq114_112 hS) ?_
  refine sg (kq190 hS) ?_
  refine bgr (by rw [lq190 hS]) (fun g1 => ?_)
  refine bc rfl (fun r2 hc3 => ?_)
  refine sb (rq114_111 hS) ?_
  refine sg (kq189 hS) ?_
  refine bgr (by rw [lq189 hS]) (fun g4 => ?_)
  refine bc rfl (fun r5 hc6 => ?_)
  refine bi (fun c => ?_) (fun c => ?_)
  · refine bi (fun c => ?_) (fun c => ?_)
    · exact eX12_less_b55 hS
    · exact eX12_less_b55 hS
  · refine bi (fun c => ?_) (fun c => ?_)
    · exact eX12_less_b55 hS
    · exact eX12_less_b55 hS
def gX12_liftRow_l2  (σ : Shp) (I : Nat → Nat → Int32) (R : Nat → Nat → Option Nat) : Nat → (Nat → Nat → Int64) → (Int32) → (Int32) → Option ((Nat → Nat → Int64))
  | 0, _, _, _ => none
  | n + 1, J, x1, x2 =>
    if (8 : Int32) ≤ x2 then
      some J
    else
      if ¬ ((((8 : Int32) * x1) + x2) < 0 ∨ 24 ≤ Int32.toNatClampNeg (((8 : Int32) * x1) + x2)) then
      let v2 := (J 189 (Int32.toNatClampNeg (((8 : Int32) * x1) + x2)))
      if ¬ ((((8 : Int32) * x1) + x2) < 0 ∨ 24 ≤ Int32.toNatClampNeg (((8 : Int32) * x1) + x2)) then
      let v4 := (J 190 (Int32.toNatClampNeg (((8 : Int32) * x1) + x2)))
      if ¬ ((((8 : Int32) * (I 114 114)) + x2) < 0 ∨ 24 ≤ Int32.toNatClampNeg (((8 : Int32) * (I 114 114)) + x2)) then
      let J6 := u2 J 189 (Int32.toNatClampNeg (((8 : Int32) * x1) + x2)) (J 189 (Int32.toNatClampNeg (((8 : Int32) * (I 114 114)) + x2)))
      if ¬ ((((8 : Int32) * (I 114 114)) + x2) < 0 ∨ 24 ≤ Int32.toNatClampNeg (((8 : Int32) * (I 114 114)) + x2)) then
      let J8 := u2 J6 190 (Int32.toNatClampNeg (((8 : Int32) * x1) + x2)) (J6 190 (Int32.toNatClampNeg (((8 : Int32) * (I 114 114)) + x2)))
      let J9 := u2 J8 189 (Int32.toNatClampNeg (((8 : Int32) * (I 114 114)) + x2)) v2
      let J10 := u2 J9 190 (Int32.toNatClampNeg (((8 : Int32) * (I 114 114)) + x2)) v4
      let v11 := x2 + (1 : Int32)
      gX12_liftRow_l2 σ I R n J10 x1 v11
      else none
      else none
      else none
      else none
theorem eX12_liftRow_l2 {σ : Shp} {I : Nat → Nat → Int32} {R : Nat → Nat → Option Nat} (hS : Skel σ R) : ∀ (n : Nat) (J : Nat → Nat → Int64) (x1 : Int32) (x2 : Int32), fX12_liftRow_l2 σ I R 114 n J x1 x2 = gX12_liftRow_l2 σ I R n J x1 x2 := by
  intro n
  induction n with
  | zero => intro J x1 x2; rfl
  | succ n ih =>
    intro J x1 x2
    rw [fX12_liftRow_l2, gX12_liftRow_l2]
    refine bi (fun c => ?_) (fun c => ?_)
    · rfl
    · refine sg (kq114 hS) ?_
      refine sb (rq114_111 hS) ?_
      refine sg (kq189 hS) ?_
      refine bgr (by rw [lq189 hS]) (fun g1 => ?_)
      refine sb (rq114_112 hS) ?_
      refine sg (kq190 hS) ?_
      refine bgr (by rw [lq190 hS]) (fun g3 => ?_)
      refine bgr (by rw [lq189 hS]) (fun g5 => ?_)
      refine bgr (by rw [lq190 hS]) (fun g7 => ?_)
      exact ih _ _ _
def gX12_liftRow (σ : Shp) (I : Nat → Nat → Int32) (J : Nat → Nat → Int64) (R : Nat → Nat → Option Nat) (x1 : Int32) : Option ((Nat → Nat → Int64)) :=
  gX12_liftRow_l2 σ I R FUx J x1 (0 : Int32)
theorem eX12_liftRow {σ : Shp} {I : Nat → Nat → Int32} {J : Nat → Nat → Int64} {R : Nat → Nat → Option Nat} {x1 : Int32} (hS : Skel σ R) : fX12_liftRow σ I J R 114 x1 = gX12_liftRow σ I J R x1 := by
  unfold fX12_liftRow gX12_liftRow
  exact eX12_liftRow_l2 hS _ _ _ _
def gX12_clear_l191 (q154 : (Nat → Nat → Int32) → (Nat → Nat → Int64) → (Int32) → (Int32) → (Option ((Nat → Nat → Int32) × (Nat → Nat → Int64)))) (σ : Shp) (R : Nat → Nat → Option Nat) : Nat → (Nat → Nat → Int32) → (Nat → Nat → Int64) → (Int32) → (Int32) → (Int64) → (Int64) → (Int32) → Option ((Nat → Nat → Int32) × (Nat → Nat → Int64))
  | 0, _, _, _, _, _, _, _ => none
  | n + 1, I, J, x1, x6, x7, x9, x11 =>
    if (8 : Int32) ≤ x11 then
      let v12 := x6 + (1 : Int32)
      q154 I J x1 v12
    else
      if x6 = (I 114 114) then
        let v13 := x6 + (1 : Int32)
        q154 I J x1 v13
      else
        if x7 = (0 : Int64) then
          let v14 := x6 + (1 : Int32)
          q154 I J x1 v14
        else
          (gX12_less σ J R (((8 : Int32) * x6) + x11) x7 x9 (((8 : Int32) * (I 114 114)) + x11)).bind fun J15 =>
          let v17 := x11 + (1 : Int32)
          gX12_clear_l191 q154 σ R n I J15 x1 x6 x7 x9 v17
theorem eX12_clear_l191 {σ : Shp} {R : Nat → Nat → Option Nat} (hS : Skel σ R) {qf154 q154 : (Nat → Nat → Int32) → (Nat → Nat → Int64) → (Int32) → (Int32) → (Option ((Nat → Nat → Int32) × (Nat → Nat → Int64)))} (hq154 : ∀ (I : Nat → Nat → Int32) (J : Nat → Nat → Int64) (x1 : Int32) (x6 : Int32), qf154 I J x1 x6 = q154 I J x1 x6) : ∀ (n : Nat) (I : Nat → Nat → Int32) (J : Nat → Nat → Int64) (x1 : Int32) (x6 : Int32) (x7 : Int64) (x9 : Int64) (x11 : Int32), fX12_clear_l191 qf154 σ R 114 n I J x1 x6 x7 x9 x11 = gX12_clear_l191 q154 σ R n I J x1 x6 x7 x9 x11 := by
  intro n
  induction n with
  | zero => intro I J x1 x6 x7 x9 x11; rfl
  | succ n ih =>
    intro I J x1 x6 x7 x9 x11
    rw [fX12_clear_l191, gX12_clear_l191]
    refine bi (fun c => ?_) (fun c => ?_)
    · exact hq154 _ _ _ _
    · refine sg (kq114 hS) ?_
      refine bi (fun c => ?_) (fun c => ?_)
      · exact hq154 _ _ _ _
      · refine bi (fun c => ?_) (fun c => ?_)
        · exact hq154 _ _ _ _
        · refine bc (eX12_less hS) (fun J15 hc16 => ?_)
          exact ih _ _ _ _ _ _ _
def gX12_clear_l154  (σ : Shp) (R : Nat → Nat → Option Nat) : Nat → (Nat → Nat → Int32) → (Nat → Nat → Int64) → (Int32) → (Int32) → Option ((Nat → Nat → Int32) × (Nat → Nat → Int64))
  | 0, _, _, _, _ => none
  | n + 1, I, J, x1, x6 =>
    if (3 : Int32) ≤ x6 then
      if ¬ ((I 114 114) < 0 ∨ 3 ≤ Int32.toNatClampNeg (I 114 114)) then
      let I6 := u2 I 191 (Int32.toNatClampNeg (I 114 114)) x1
      let I7 := u2 I6 114 114 ((I6 114 114) + (1 : Int32))
      some (I7, J)
      else none
    else
      if ¬ ((((8 : Int32) * x6) + x1) < 0 ∨ 24 ≤ Int32.toNatClampNeg (((8 : Int32) * x6) + x1)) then
      let v9 := (J 189 (Int32.toNatClampNeg (((8 : Int32) * x6) + x1)))
      if ¬ ((((8 : Int32) * x6) + x1) < 0 ∨ 24 ≤ Int32.toNatClampNeg (((8 : Int32) * x6) + x1)) then
      let v11 := (J 190 (Int32.toNatClampNeg (((8 : Int32) * x6) + x1)))
      gX12_clear_l191 (gX12_clear_l154 σ R n) σ R FUx I J x1 x6 v9 v11 (0 : Int32)
      else none
      else none
theorem eX12_clear_l154 {σ : Shp} {R : Nat → Nat → Option Nat} (hS : Skel σ R) : ∀ (n : Nat) (I : Nat → Nat → Int32) (J : Nat → Nat → Int64) (x1 : Int32) (x6 : Int32), fX12_clear_l154 σ R 114 n I J x1 x6 = gX12_clear_l154 σ R n I J x1 x6 := by
  intro n
  induction n with
  | zero => intro I J x1 x6; rfl
  | succ n ih =>
    intro I J x1 x6
    rw [fX12_clear_l154, gX12_clear_l154]
    refine bi (fun c => ?_) (fun c => ?_)
    · refine sg (kq114 hS) ?_
      refine sb (rq114_113 hS) ?_
      refine sg (kq191 hS) ?_
      refine bgr (by rw [lq191 hS]) (fun g5 => ?_)
      rfl
    · refine sg (kq114 hS) ?_
      refine sb (rq114_111 hS) ?_
      refine sg (kq189 hS) ?_
      refine bgr (by rw [lq189 hS]) (fun g8 => ?_)
      refine sb (rq114_112 hS) ?_
      refine sg (kq190 hS) ?_
      refine bgr (by rw [lq190 hS]) (fun g10 => ?_)
      exact eX12_clear_l191 hS ih _ _ _ _ _ _ _ _
def gX12_clear_l34  (σ : Shp) (R : Nat → Nat → Option Nat) : Nat → (Nat → Nat → Int32) → (Nat → Nat → Int64) → (Int32) → (Int64) → (Int64) → (Int32) → Option ((Nat → Nat → Int32) × (Nat → Nat → Int64))
  | 0, _, _, _, _, _, _ => none
  | n + 1, I, J, x1, x2, x4, x6 =>
    if (8 : Int32) ≤ x6 then
      gX12_clear_l154 σ R FUx I J x1 (0 : Int32)
    else
      if ¬ ((((8 : Int32) * (I 114 114)) + x6) < 0 ∨ 24 ≤ Int32.toNatClampNeg (((8 : Int32) * (I 114 114)) + x6)) then
      (fX12_common (J 189 (Int32.toNatClampNeg (((8 : Int32) * (I 114 114)) + x6))) x2).bind fun r19 =>
      if ¬ ((((8 : Int32) * (I 114 114)) + x6) < 0 ∨ 24 ≤ Int32.toNatClampNeg (((8 : Int32) * (I 114 114)) + x6)) then
      (fX12_common x4 (J 190 (Int32.toNatClampNeg (((8 : Int32) * (I 114 114)) + x6)))).bind fun r22 =>
      if ¬ r19 = 0 then
      if ¬ r22 = 0 then
      (gX12_fraction σ J R (((8 : Int32) * (I 114 114)) + x6) (((J 189 (Int32.toNatClampNeg (((8 : Int32) * (I 114 114)) + x6))) / r19) * (x4 / r22)) (((J 190 (Int32.toNatClampNeg (((8 : Int32) * (I 114 114)) + x6))) / r22) * (x2 / r19))).bind fun J26 =>
      let v28 := x6 + (1 : Int32)
      gX12_clear_l34 σ R n I J26 x1 x2 x4 v28
      else none
      else none
      else none
      else none
theorem eX12_clear_l34 {σ : Shp} {R : Nat → Nat → Option Nat} (hS : Skel σ R) : ∀ (n : Nat) (I : Nat → Nat → Int32) (J : Nat → Nat → Int64) (x1 : Int32) (x2 : Int64) (x4 : Int64) (x6 : Int32), fX12_clear_l34 σ R 114 n I J x1 x2 x4 x6 = gX12_clear_l34 σ R n I J x1 x2 x4 x6 := by
  intro n
  induction n with
  | zero => intro I J x1 x2 x4 x6; rfl
  | succ n ih =>
    intro I J x1 x2 x4 x6
    rw [fX12_clear_l34, gX12_clear_l34]
    refine bi (fun c => ?_) (fun c => ?_)
    · exact eX12_clear_l154 hS _ _ _ _ _
    · refine sg (kq114 hS) ?_
      refine sb (rq114_111 hS) ?_
      refine sg (kq189 hS) ?_
      refine bgr (by rw [lq189 hS]) (fun g18 => ?_)
      refine bc rfl (fun r19 hc20 => ?_)
      refine sb (rq114_112 hS) ?_
      refine sg (kq190 hS) ?_
      refine bgr (by rw [lq190 hS]) (fun g21 => ?_)
      refine bc rfl (fun r22 hc23 => ?_)
      refine bg (fun g24 => ?_)
      refine bg (fun g25 => ?_)
      refine bc (eX12_fraction hS) (fun J26 hc27 => ?_)
      exact ih _ _ _ _ _ _
def gX12_clear (σ : Shp) (I : Nat → Nat → Int32) (J : Nat → Nat → Int64) (R : Nat → Nat → Option Nat) (x1 : Int32) : Option ((Nat → Nat → Int32) × (Nat → Nat → Int64)) :=
  if ¬ ((((8 : Int32) * (I 114 114)) + x1) < 0 ∨ 24 ≤ Int32.toNatClampNeg (((8 : Int32) * (I 114 114)) + x1)) then
  let v2 := (J 189 (Int32.toNatClampNeg (((8 : Int32) * (I 114 114)) + x1)))
  if ¬ ((((8 : Int32) * (I 114 114)) + x1) < 0 ∨ 24 ≤ Int32.toNatClampNeg (((8 : Int32) * (I 114 114)) + x1)) then
  let v4 := (J 190 (Int32.toNatClampNeg (((8 : Int32) * (I 114 114)) + x1)))
  gX12_clear_l34 σ R FUx I J x1 v2 v4 (0 : Int32)
  else none
  else none
theorem eX12_clear {σ : Shp} {I : Nat → Nat → Int32} {J : Nat → Nat → Int64} {R : Nat → Nat → Option Nat} {x1 : Int32} (hS : Skel σ R) : fX12_clear σ I J R 114 x1 = gX12_clear σ I J R x1 := by
  unfold fX12_clear gX12_clear
  refine sg (kq114 hS) ?_
  refine sb (rq114_111 hS) ?_
  refine sg (kq189 hS) ?_
  refine bgr (by rw [lq189 hS]) (fun g1 => ?_)
  refine sb (rq114_112 hS) ?_
  refine sg (kq190 hS) ?_
  refine bgr (by rw [lq190 hS]) (fun g3 => ?_)
  exact eX12_clear_l34 hS _ _ _ _ _ _ _
def gX12_makeWitness_l142  (σ : Shp) (R : Nat → Nat → Option Nat) : Nat → (Nat → Nat → Int64) → (Int64) → (Int64) → (Int32) → Option ((Nat → Nat → Int64))
  | 0, _, _, _, _ => none
  | n + 1, J, x4, x6, x8 =>
    if (3 : Int32) ≤ x8 then
      some J
    else
      if ¬ (x8 < 0 ∨ 3 ≤ Int32.toNatClampNeg x8) then
      if ¬ x4 = 0 then
      if (0 : Int64) ≤ x6 then
        let J3 := u2 J 194 (Int32.toNatClampNeg x8) (((J 194 (Int32.toNatClampNeg x8)) / x4) * (1 : Int64))
        let v4 := x8 + (1 : Int32)
        gX12_makeWitness_l142 σ R n J3 x4 x6 v4
      else
        let J5 := u2 J 194 (Int32.toNatClampNeg x8) (((J 194 (Int32.toNatClampNeg x8)) / x4) * (-1 : Int64))
        let v6 := x8 + (1 : Int32)
        gX12_makeWitness_l142 σ R n J5 x4 x6 v6
      else none
      else none
theorem eX12_makeWitness_l142 {σ : Shp} {R : Nat → Nat → Option Nat} (hS : Skel σ R) : ∀ (n : Nat) (J : Nat → Nat → Int64) (x4 : Int64) (x6 : Int64) (x8 : Int32), fX12_makeWitness_l142 σ R 114 n J x4 x6 x8 = gX12_makeWitness_l142 σ R n J x4 x6 x8 := by
  intro n
  induction n with
  | zero => intro J x4 x6 x8; rfl
  | succ n ih =>
    intro J x4 x6 x8
    rw [fX12_makeWitness_l142, gX12_makeWitness_l142]
    refine bi (fun c => ?_) (fun c => ?_)
    · rfl
    · refine sg (kq114 hS) ?_
      refine sb (rq114_119 hS) ?_
      refine sg (kq194 hS) ?_
      refine bgr (by rw [lq194 hS]) (fun g1 => ?_)
      refine bg (fun g2 => ?_)
      refine bi (fun c => ?_) (fun c => ?_)
      · exact ih _ _ _ _
      · exact ih _ _ _ _
def gX12_makeWitness_l54  (σ : Shp) (R : Nat → Nat → Option Nat) : Nat → (Nat → Nat → Int64) → (Int32) → (Int64) → (Int64) → (Int64) → (Int32) → Option ((Nat → Nat → Int64))
  | 0, _, _, _, _, _, _ => none
  | n + 1, J, x1, x2, x4, x6, x8 =>
    if (3 : Int32) ≤ x8 then
      gX12_makeWitness_l142 σ R FUx J x4 x6 (0 : Int32)
    else
      if ¬ (((((8 : Int32) * x1) + (5 : Int32)) + x8) < 0 ∨ 24 ≤ Int32.toNatClampNeg ((((8 : Int32) * x1) + (5 : Int32)) + x8)) then
      if ¬ (((((8 : Int32) * x1) + (5 : Int32)) + x8) < 0 ∨ 24 ≤ Int32.toNatClampNeg ((((8 : Int32) * x1) + (5 : Int32)) + x8)) then
      if ¬ (J 190 (Int32.toNatClampNeg ((((8 : Int32) * x1) + (5 : Int32)) + x8))) = 0 then
      if ¬ (x8 < 0 ∨ 3 ≤ Int32.toNatClampNeg x8) then
      let J11 := u2 J 194 (Int32.toNatClampNeg x8) ((J 189 (Int32.toNatClampNeg ((((8 : Int32) * x1) + (5 : Int32)) + x8))) * (x2 / (J 190 (Int32.toNatClampNeg ((((8 : Int32) * x1) + (5 : Int32)) + x8)))))
      (fX12_common x4 (J11 194 (Int32.toNatClampNeg x8))).bind fun r12 =>
      if x6 = (0 : Int64) then
        let v15 := (J11 194 (Int32.toNatClampNeg x8))
        let v16 := x8 + (1 : Int32)
        gX12_makeWitness_l54 σ R n J11 x1 x2 r12 v15 v16
      else
        let v14 := x8 + (1 : Int32)
        gX12_makeWitness_l54 σ R n J11 x1 x2 r12 x6 v14
      else none
      else none
      else none
      else none
theorem eX12_makeWitness_l54 {σ : Shp} {R : Nat → Nat → Option Nat} (hS : Skel σ R) : ∀ (n : Nat) (J : Nat → Nat → Int64) (x1 : Int32) (x2 : Int64) (x4 : Int64) (x6 : Int64) (x8 : Int32), fX12_makeWitness_l54 σ R 114 n J x1 x2 x4 x6 x8 = gX12_makeWitness_l54 σ R n J x1 x2 x4 x6 x8 := by
  intro n
  induction n with
  | zero => intro J x1 x2 x4 x6 x8; rfl
  | succ n ih =>
    intro J x1 x2 x4 x6 x8
    rw [fX12_makeWitness_l54, gX12_makeWitness_l54]
    refine bi (fun c => ?_) (fun c => ?_)
    · exact eX12_makeWitness_l142 hS _ _ _ _ _
    · refine sg (kq114 hS) ?_
      refine sb (rq114_119 hS) ?_
      refine sb (rq114_111 hS) ?_
      refine sg (kq189 hS) ?_
      refine bgr (by rw [lq189 hS]) (fun g7 => ?_)
      refine sb (rq114_112 hS) ?_
      refine sg (kq190 hS) ?_
      refine bgr (by rw [lq190 hS]) (fun g8 => ?_)
      refine bg (fun g9 => ?_)
      refine sg (kq194 hS) ?_
      refine bgr (by rw [lq194 hS]) (fun g10 => ?_)
      refine bc rfl (fun r12 hc13 => ?_)
      refine bi (fun c => ?_) (fun c => ?_)
      · exact ih _ _ _ _ _ _
      · exact ih _ _ _ _ _ _
def gX12_makeWitness_l5  (σ : Shp) (R : Nat → Nat → Option Nat) : Nat → (Nat → Nat → Int64) → (Int32) → (Int64) → (Int32) → Option ((Nat → Nat → Int64))
  | 0, _, _, _, _ => none
  | n + 1, J, x1, x2, x4 =>
    if (3 : Int32) ≤ x4 then
      gX12_makeWitness_l54 σ R FUx J x1 x2 (0 : Int64) (0 : Int64) (0 : Int32)
    else
      if ¬ (((((8 : Int32) * x1) + (5 : Int32)) + x4) < 0 ∨ 24 ≤ Int32.toNatClampNeg ((((8 : Int32) * x1) + (5 : Int32)) + x4)) then
      let v18 := (J 190 (Int32.toNatClampNeg ((((8 : Int32) * x1) + (5 : Int32)) + x4)))
      (fX12_common x2 v18).bind fun r19 =>
      if ¬ r19 = 0 then
      let v22 := ((x2 / r19) * v18)
      let v23 := x4 + (1 : Int32)
      gX12_makeWitness_l5 σ R n J x1 v22 v23
      else none
      else none
theorem eX12_makeWitness_l5 {σ : Shp} {R : Nat → Nat → Option Nat} (hS : Skel σ R) : ∀ (n : Nat) (J : Nat → Nat → Int64) (x1 : Int32) (x2 : Int64) (x4 : Int32), fX12_makeWitness_l5 σ R 114 n J x1 x2 x4 = gX12_makeWitness_l5 σ R n J x1 x2 x4 := by
  intro n
  induction n with
  | zero => intro J x1 x2 x4; rfl
  | succ n ih =>
    intro J x1 x2 x4
    rw [fX12_makeWitness_l5, gX12_makeWitness_l5]
    refine bi (fun c => ?_) (fun c => ?_)
    · exact eX12_makeWitness_l54 hS _ _ _ _ _ _ _
    · refine sg (kq114 hS) ?_
      refine sb (rq114_112 hS) ?_
      refine sg (kq190 hS) ?_
      refine bgr (by rw [lq190 hS]) (fun g17 => ?_)
      refine bc rfl (fun r19 hc20 => ?_)
      refine bg (fun g21 => ?_)
      exact ih _ _ _ _
def gX12_makeWitness (σ : Shp) (J : Nat → Nat → Int64) (R : Nat → Nat → Option Nat) (x1 : Int32) : Option ((Nat → Nat → Int64)) :=
  gX12_makeWitness_l5 σ R FUx J x1 (1 : Int64) (0 : Int32)
theorem eX12_makeWitness {σ : Shp} {J : Nat → Nat → Int64} {R : Nat → Nat → Option Nat} {x1 : Int32} (hS : Skel σ R) : fX12_makeWitness σ J R 114 x1 = gX12_makeWitness σ J R x1 := by
  unfold fX12_makeWitness gX12_makeWitness
  exact eX12_makeWitness_l5 hS _ _ _ _ _
def gX12_work_l273  (σ : Shp) (R : Nat → Nat → Option Nat) : Nat → (Nat → Nat → Int32) → (Nat → Nat → Int64) → (Int32) → (Int32) → Option ((Nat → Nat → Int32) × (Nat → Nat → Int64) × (Int32))
  | 0, _, _, _, _ => none
  | n + 1, I, J, x1, x2 =>
    if (I 114 114) ≤ x2 then
      if x1 = 0 then
        some (I, J, (1 : Int32))
      else
        some (I, J, (2 : Int32))
    else
      if ¬ (x2 < 0 ∨ 3 ≤ Int32.toNatClampNeg x2) then
      if ¬ ((((8 : Int32) * x2) + (4 : Int32)) < 0 ∨ 24 ≤ Int32.toNatClampNeg (((8 : Int32) * x2) + (4 : Int32))) then
      if ¬ ((I 191 (Int32.toNatClampNeg x2)) < 0 ∨ 4 ≤ Int32.toNatClampNeg (I 191 (Int32.toNatClampNeg x2))) then
      let J8 := u2 J 192 (Int32.toNatClampNeg (I 191 (Int32.toNatClampNeg x2))) (J 189 (Int32.toNatClampNeg (((8 : Int32) * x2) + (4 : Int32))))
      if ¬ ((((8 : Int32) * x2) + (4 : Int32)) < 0 ∨ 24 ≤ Int32.toNatClampNeg (((8 : Int32) * x2) + (4 : Int32))) then
      if ¬ ((I 191 (Int32.toNatClampNeg x2)) < 0 ∨ 4 ≤ Int32.toNatClampNeg (I 191 (Int32.toNatClampNeg x2))) then
      let J11 := u2 J8 193 (Int32.toNatClampNeg (I 191 (Int32.toNatClampNeg x2))) (J8 190 (Int32.toNatClampNeg (((8 : Int32) * x2) + (4 : Int32))))
      if x1 = 0 then
        if (0 : Int64) ≤ (J11 189 (Int32.toNatClampNeg (((8 : Int32) * x2) + (4 : Int32)))) then
          let v13 := x2 + (1 : Int32)
          gX12_work_l273 σ R n I J11 (0 : Int32) v13
        else
          let v14 := x2 + (1 : Int32)
          gX12_work_l273 σ R n I J11 (1 : Int32) v14
      else
        let v12 := x2 + (1 : Int32)
        gX12_work_l273 σ R n I J11 (1 : Int32) v12
      else none
      else none
      else none
      else none
      else none
theorem eX12_work_l273 {σ : Shp} {R : Nat → Nat → Option Nat} (hS : Skel σ R) : ∀ (n : Nat) (I : Nat → Nat → Int32) (J : Nat → Nat → Int64) (x1 : Int32) (x2 : Int32), fX12_work_l273 σ R 114 n I J x1 x2 = gX12_work_l273 σ R n I J x1 x2 := by
  intro n
  induction n with
  | zero => intro I J x1 x2; rfl
  | succ n ih =>
    intro I J x1 x2
    rw [fX12_work_l273, gX12_work_l273]
    refine sg (kq114 hS) ?_
    refine bi (fun c => ?_) (fun c => ?_)
    · refine bi (fun c => ?_) (fun c => ?_)
      · rfl
      · rfl
    · refine sb (rq114_117 hS) ?_
      refine sb (rq114_113 hS) ?_
      refine sg (kq191 hS) ?_
      refine bgr (by rw [lq191 hS]) (fun g5 => ?_)
      refine sb (rq114_111 hS) ?_
      refine sg (kq189 hS) ?_
      refine bgr (by rw [lq189 hS]) (fun g6 => ?_)
      refine sg (kq192 hS) ?_
      refine bgr (by rw [lq192 hS]) (fun g7 => ?_)
      refine sb (rq114_118 hS) ?_
      refine sb (rq114_112 hS) ?_
      refine sg (kq190 hS) ?_
      refine bgr (by rw [lq190 hS]) (fun g9 => ?_)
      refine sg (kq193 hS) ?_
      refine bgr (by rw [lq193 hS]) (fun g10 => ?_)
      refine bi (fun c => ?_) (fun c => ?_)
      · refine bi (fun c => ?_) (fun c => ?_)
        · exact ih _ _ _ _
        · exact ih _ _ _ _
      · exact ih _ _ _ _
def gX12_work_l246  (σ : Shp) (R : Nat → Nat → Option Nat) : Nat → (Nat → Nat → Int32) → (Nat → Nat → Int64) → (Int32) → (Int32) → Option ((Nat → Nat → Int32) × (Nat → Nat → Int64) × (Int32))
  | 0, _, _, _, _ => none
  | n + 1, I, J, x1, x2 =>
    if (4 : Int32) ≤ x2 then
      gX12_work_l273 σ R FUx I J x1 (0 : Int32)
    else
      if ¬ (x2 < 0 ∨ 4 ≤ Int32.toNatClampNeg x2) then
      let J16 := u2 J 192 (Int32.toNatClampNeg x2) (0 : Int64)
      if ¬ (x2 < 0 ∨ 4 ≤ Int32.toNatClampNeg x2) then
      let J18 := u2 J16 193 (Int32.toNatClampNeg x2) (1 : Int64)
      let v19 := x2 + (1 : Int32)
      gX12_work_l246 σ R n I J18 x1 v19
      else none
      else none
theorem eX12_work_l246 {σ : Shp} {R : Nat → Nat → Option Nat} (hS : Skel σ R) : ∀ (n : Nat) (I : Nat → Nat → Int32) (J : Nat → Nat → Int64) (x1 : Int32) (x2 : Int32), fX12_work_l246 σ R 114 n I J x1 x2 = gX12_work_l246 σ R n I J x1 x2 := by
  intro n
  induction n with
  | zero => intro I J x1 x2; rfl
  | succ n ih =>
    intro I J x1 x2
    rw [fX12_work_l246, gX12_work_l246]
    refine bi (fun c => ?_) (fun c => ?_)
    · exact eX12_work_l273 hS _ _ _ _ _
    · refine sg (kq114 hS) ?_
      refine sb (rq114_117 hS) ?_
      refine sg (kq192 hS) ?_
      refine bgr (by rw [lq192 hS]) (fun g15 => ?_)
      refine sb (rq114_118 hS) ?_
      refine sg (kq193 hS) ?_
      refine bgr (by rw [lq193 hS]) (fun g17 => ?_)
      exact ih _ _ _ _
def gX12_work_l189  (σ : Shp) (R : Nat → Nat → Option Nat) : Nat → (Nat → Nat → Int32) → (Nat → Nat → Int64) → (Int32) → Option ((Nat → Nat → Int32) × (Nat → Nat → Int64) × (Int32))
  | 0, _, _, _ => none
  | n + 1, I, J, x1 =>
    if (3 : Int32) ≤ x1 then
      if (I 114 116) = 0 then
        gX12_work_l246 σ R FUx I J (0 : Int32) (0 : Int32)
      else
        some (I, J, (0 : Int32))
    else
      if (I 114 116) = 0 then
        if ¬ ((((8 : Int32) * x1) + (4 : Int32)) < 0 ∨ 24 ≤ Int32.toNatClampNeg (((8 : Int32) * x1) + (4 : Int32))) then
        if (J 189 (Int32.toNatClampNeg (((8 : Int32) * x1) + (4 : Int32)))) = (0 : Int64) then
          let v21 := x1 + (1 : Int32)
          gX12_work_l189 σ R n I J v21
        else
          let I22 := u2 I 114 116 (1 : Int32)
          (gX12_makeWitness σ J R x1).bind fun J23 =>
          let v25 := x1 + (1 : Int32)
          gX12_work_l189 σ R n I22 J23 v25
        else none
      else
        if (I 114 116) = 0 then
          gX12_work_l246 σ R FUx I J (0 : Int32) (0 : Int32)
        else
          some (I, J, (0 : Int32))
theorem eX12_work_l189 {σ : Shp} {R : Nat → Nat → Option Nat} (hS : Skel σ R) : ∀ (n : Nat) (I : Nat → Nat → Int32) (J : Nat → Nat → Int64) (x1 : Int32), fX12_work_l189 σ R 114 n I J x1 = gX12_work_l189 σ R n I J x1 := by
  intro n
  induction n with
  | zero => intro I J x1; rfl
  | succ n ih =>
    intro I J x1
    rw [fX12_work_l189, gX12_work_l189]
    refine bi (fun c => ?_) (fun c => ?_)
    · refine sg (kq114 hS) ?_
      refine bi (fun c => ?_) (fun c => ?_)
      · exact eX12_work_l246 hS _ _ _ _ _
      · rfl
    · refine sg (kq114 hS) ?_
      refine bi (fun c => ?_) (fun c => ?_)
      · refine sb (rq114_111 hS) ?_
        refine sg (kq189 hS) ?_
        refine bgr (by rw [lq189 hS]) (fun g20 => ?_)
        refine bi (fun c => ?_) (fun c => ?_)
        · exact ih _ _ _
        · refine bc (eX12_makeWitness hS) (fun J23 hc24 => ?_)
          exact ih _ _ _
      · refine bi (fun c => ?_) (fun c => ?_)
        · exact eX12_work_l246 hS _ _ _ _ _
        · rfl
def gX12_work_b153 (q116 : (Nat → Nat → Int32) → (Nat → Nat → Int64) → (Int32) → (Option ((Nat → Nat → Int32) × (Nat → Nat → Int64) × (Int32)))) (σ : Shp) (R : Nat → Nat → Option Nat) (I : Nat → Nat → Int32) (J : Nat → Nat → Int64) (x1 : Int32) (x2 : Int32) : Option ((Nat → Nat → Int32) × (Nat → Nat → Int64) × (Int32)) :=
  if (3 : Int32) ≤ x2 then
    let v27 := x1 + (1 : Int32)
    q116 I J v27
  else
    (gX12_liftRow σ I J R x2).bind fun J28 =>
    (gX12_clear σ I J28 R x1).bind fun (I30, J31) =>
    let v33 := x1 + (1 : Int32)
    q116 I30 J31 v33
theorem eX12_work_b153 {σ : Shp} {I : Nat → Nat → Int32} {J : Nat → Nat → Int64} {R : Nat → Nat → Option Nat} {x1 : Int32} {x2 : Int32} (hS : Skel σ R) {qf116 q116 : (Nat → Nat → Int32) → (Nat → Nat → Int64) → (Int32) → (Option ((Nat → Nat → Int32) × (Nat → Nat → Int64) × (Int32)))} (hq116 : ∀ (I : Nat → Nat → Int32) (J : Nat → Nat → Int64) (x1 : Int32), qf116 I J x1 = q116 I J x1) : fX12_work_b153 qf116 σ R 114 I J x1 x2 = gX12_work_b153 q116 σ R I J x1 x2 := by
  unfold fX12_work_b153 gX12_work_b153
  refine bi (fun c => ?_) (fun c => ?_)
  · exact hq116 _ _ _
  · refine sg (kq114 hS) ?_
    refine bc (eX12_liftRow hS) (fun J28 hc29 => ?_)
    refine bc (eX12_clear hS) (fun pp hc32 => ?_)
    obtain ⟨I30, J31⟩ := pp
    exact hq116 _ _ _
def gX12_work_l126 (q116 : (Nat → Nat → Int32) → (Nat → Nat → Int64) → (Int32) → (Option ((Nat → Nat → Int32) × (Nat → Nat → Int64) × (Int32)))) (σ : Shp) (R : Nat → Nat → Option Nat) : Nat → (Nat → Nat → Int32) → (Nat → Nat → Int64) → (Int32) → (Int32) → Option ((Nat → Nat → Int32) × (Nat → Nat → Int64) × (Int32))
  | 0, _, _, _, _ => none
  | n + 1, I, J, x1, x2 =>
    if (3 : Int32) ≤ x2 then
      gX12_work_b153 q116 σ R I J x1 x2
    else
      if ¬ ((((8 : Int32) * x2) + x1) < 0 ∨ 24 ≤ Int32.toNatClampNeg (((8 : Int32) * x2) + x1)) then
      if (J 189 (Int32.toNatClampNeg (((8 : Int32) * x2) + x1))) = (0 : Int64) then
        let v35 := x2 + (1 : Int32)
        gX12_work_l126 q116 σ R n I J x1 v35
      else
        gX12_work_b153 q116 σ R I J x1 x2
      else none
theorem eX12_work_l126 {σ : Shp} {R : Nat → Nat → Option Nat} (hS : Skel σ R) {qf116 q116 : (Nat → Nat → Int32) → (Nat → Nat → Int64) → (Int32) → (Option ((Nat → Nat → Int32) × (Nat → Nat → Int64) × (Int32)))} (hq116 : ∀ (I : Nat → Nat → Int32) (J : Nat → Nat → Int64) (x1 : Int32), qf116 I J x1 = q116 I J x1) : ∀ (n : Nat) (I : Nat → Nat → Int32) (J : Nat → Nat → Int64) (x1 : Int32) (x2 : Int32), fX12_work_l126 qf116 σ R 114 n I J x1 x2 = gX12_work_l126 q116 σ R n I J x1 x2 := by
  intro n
  induction n with
  | zero => intro I J x1 x2; rfl
  | succ n ih =>
    intro I J x1 x2
    rw [fX12_work_l126, gX12_work_l126]
    refine bi (fun c => ?_) (fun c => ?_)
    · exact eX12_work_b153 hS hq116
    · refine sg (kq114 hS) ?_
      refine sb (rq114_111 hS) ?_
      refine sg (kq189 hS) ?_
      refine bgr (by rw [lq189 hS]) (fun g34 => ?_)
      refine bi (fun c => ?_) (fun c => ?_)
      · exact ih _ _ _ _
      · exact eX12_work_b153 hS hq116
def gX12_work_l116  (σ : Shp) (R : Nat → Nat → Option Nat) : Nat → (Nat → Nat → Int32) → (Nat → Nat → Int64) → (Int32) → Option ((Nat → Nat → Int32) × (Nat → Nat → Int64) × (Int32))
  | 0, _, _, _ => none
  | n + 1, I, J, x1 =>
    if (4 : Int32) ≤ x1 then
      let I2 := u2 I 114 115 (1 : Int32)
      let I3 := u2 I2 114 116 (0 : Int32)
      let v4 := (I3 114 114)
      gX12_work_l189 σ R FUx I3 J v4
    else
      let v26 := (I 114 114)
      gX12_work_l126 (gX12_work_l116 σ R n) σ R FUx I J x1 v26
theorem eX12_work_l116 {σ : Shp} {R : Nat → Nat → Option Nat} (hS : Skel σ R) : ∀ (n : Nat) (I : Nat → Nat → Int32) (J : Nat → Nat → Int64) (x1 : Int32), fX12_work_l116 σ R 114 n I J x1 = gX12_work_l116 σ R n I J x1 := by
  intro n
  induction n with
  | zero => intro I J x1; rfl
  | succ n ih =>
    intro I J x1
    rw [fX12_work_l116, gX12_work_l116]
    refine bi (fun c => ?_) (fun c => ?_)
    · refine sg (kq114 hS) ?_
      exact eX12_work_l189 hS _ _ _ _
    · refine sg (kq114 hS) ?_
      exact eX12_work_l126 hS ih _ _ _ _ _
def gX12_work_l9 (q2 : (Nat → Nat → Int32) → (Nat → Nat → Int64) → (Int32) → (Option ((Nat → Nat → Int32) × (Nat → Nat → Int64) × (Int32)))) (σ : Shp) (R : Nat → Nat → Option Nat) : Nat → (Nat → Nat → Int32) → (Nat → Nat → Int64) → (Int32) → (Int32) → Option ((Nat → Nat → Int32) × (Nat → Nat → Int64) × (Int32))
  | 0, _, _, _, _ => none
  | n + 1, I, J, x1, x2 =>
    if (8 : Int32) ≤ x2 then
      let v36 := x1 + (1 : Int32)
      q2 I J v36
    else
      if (4 : Int32) ≤ x2 then
        if x2 = (4 : Int32) then
          if ¬ (((12 : Int32) + x1) < 0 ∨ 18 ≤ Int32.toNatClampNeg ((12 : Int32) + x1)) then
          if ¬ (((15 : Int32) + x1) < 0 ∨ 18 ≤ Int32.toNatClampNeg ((15 : Int32) + x1)) then
          if ¬ ((((8 : Int32) * x1) + x2) < 0 ∨ 24 ≤ Int32.toNatClampNeg (((8 : Int32) * x1) + x2)) then
          let J50 := u2 J 189 (Int32.toNatClampNeg (((8 : Int32) * x1) + x2)) (Int32.toInt64 ((I 188 (Int32.toNatClampNeg ((12 : Int32) + x1))) - (I 188 (Int32.toNatClampNeg ((15 : Int32) + x1)))))
          if ¬ ((((8 : Int32) * x1) + x2) < 0 ∨ 24 ≤ Int32.toNatClampNeg (((8 : Int32) * x1) + x2)) then
          let J52 := u2 J50 190 (Int32.toNatClampNeg (((8 : Int32) * x1) + x2)) (1 : Int64)
          let v53 := x2 + (1 : Int32)
          gX12_work_l9 q2 σ R n I J52 x1 v53
          else none
          else none
          else none
          else none
        else
          if (x2 - (5 : Int32)) = x1 then
            if ¬ ((((8 : Int32) * x1) + x2) < 0 ∨ 24 ≤ Int32.toNatClampNeg (((8 : Int32) * x1) + x2)) then
            let J43 := u2 J 189 (Int32.toNatClampNeg (((8 : Int32) * x1) + x2)) (1 : Int64)
            if ¬ ((((8 : Int32) * x1) + x2) < 0 ∨ 24 ≤ Int32.toNatClampNeg (((8 : Int32) * x1) + x2)) then
            let J45 := u2 J43 190 (Int32.toNatClampNeg (((8 : Int32) * x1) + x2)) (1 : Int64)
            let v46 := x2 + (1 : Int32)
            gX12_work_l9 q2 σ R n I J45 x1 v46
            else none
            else none
          else
            if ¬ ((((8 : Int32) * x1) + x2) < 0 ∨ 24 ≤ Int32.toNatClampNeg (((8 : Int32) * x1) + x2)) then
            let J38 := u2 J 189 (Int32.toNatClampNeg (((8 : Int32) * x1) + x2)) (0 : Int64)
            if ¬ ((((8 : Int32) * x1) + x2) < 0 ∨ 24 ≤ Int32.toNatClampNeg (((8 : Int32) * x1) + x2)) then
            let J40 := u2 J38 190 (Int32.toNatClampNeg (((8 : Int32) * x1) + x2)) (1 : Int64)
            let v41 := x2 + (1 : Int32)
            gX12_work_l9 q2 σ R n I J40 x1 v41
            else none
            else none
      else
        if ¬ ((((3 : Int32) * x2) + x1) < 0 ∨ 18 ≤ Int32.toNatClampNeg (((3 : Int32) * x2) + x1)) then
        if ¬ ((((8 : Int32) * x1) + x2) < 0 ∨ 24 ≤ Int32.toNatClampNeg (((8 : Int32) * x1) + x2)) then
        let J56 := u2 J 189 (Int32.toNatClampNeg (((8 : Int32) * x1) + x2)) (Int32.toInt64 (I 188 (Int32.toNatClampNeg (((3 : Int32) * x2) + x1))))
        if ¬ ((((8 : Int32) * x1) + x2) < 0 ∨ 24 ≤ Int32.toNatClampNeg (((8 : Int32) * x1) + x2)) then
        let J58 := u2 J56 190 (Int32.toNatClampNeg (((8 : Int32) * x1) + x2)) (1 : Int64)
        let v59 := x2 + (1 : Int32)
        gX12_work_l9 q2 σ R n I J58 x1 v59
        else none
        else none
        else none
theorem eX12_work_l9 {σ : Shp} {R : Nat → Nat → Option Nat} (hS : Skel σ R) {qf2 q2 : (Nat → Nat → Int32) → (Nat → Nat → Int64) → (Int32) → (Option ((Nat → Nat → Int32) × (Nat → Nat → Int64) × (Int32)))} (hq2 : ∀ (I : Nat → Nat → Int32) (J : Nat → Nat → Int64) (x1 : Int32), qf2 I J x1 = q2 I J x1) : ∀ (n : Nat) (I : Nat → Nat → Int32) (J : Nat → Nat → Int64) (x1 : Int32) (x2 : Int32), fX12_work_l9 qf2 σ R 114 n I J x1 x2 = gX12_work_l9 q2 σ R n I J x1 x2 := by
  intro n
  induction n with
  | zero => intro I J x1 x2; rfl
  | succ n ih =>
    intro I J x1 x2
    rw [fX12_work_l9, gX12_work_l9]
    refine bi (fun c => ?_) (fun c => ?_)
    · exact hq2 _ _ _
    · refine sg (kq114 hS) ?_
      refine sb (rq114_111 hS) ?_
      refine bi (fun c => ?_) (fun c => ?_)
      · refine bi (fun c => ?_) (fun c => ?_)
        · refine sb (rq114_110 hS) ?_
          refine sg (kq188 hS) ?_
          refine bgr (by rw [lq188 hS]) (fun g47 => ?_)
          refine bgr (by rw [lq188 hS]) (fun g48 => ?_)
          refine sg (kq189 hS) ?_
          refine bgr (by rw [lq189 hS]) (fun g49 => ?_)
          refine sb (rq114_112 hS) ?_
          refine sg (kq190 hS) ?_
          refine bgr (by rw [lq190 hS]) (fun g51 => ?_)
          exact ih _ _ _ _
        · refine bi (fun c => ?_) (fun c => ?_)
          · refine sg (kq189 hS) ?_
            refine bgr (by rw [lq189 hS]) (fun g42 => ?_)
            refine sb (rq114_112 hS) ?_
            refine sg (kq190 hS) ?_
            refine bgr (by rw [lq190 hS]) (fun g44 => ?_)
            exact ih _ _ _ _
          · refine sg (kq189 hS) ?_
            refine bgr (by rw [lq189 hS]) (fun g37 => ?_)
            refine sb (rq114_112 hS) ?_
            refine sg (kq190 hS) ?_
            refine bgr (by rw [lq190 hS]) (fun g39 => ?_)
            exact ih _ _ _ _
      · refine sb (rq114_110 hS) ?_
        refine sg (kq188 hS) ?_
        refine bgr (by rw [lq188 hS]) (fun g54 => ?_)
        refine sg (kq189 hS) ?_
        refine bgr (by rw [lq189 hS]) (fun g55 => ?_)
        refine sb (rq114_112 hS) ?_
        refine sg (kq190 hS) ?_
        refine bgr (by rw [lq190 hS]) (fun g57 => ?_)
        exact ih _ _ _ _
def gX12_work_l2  (σ : Shp) (R : Nat → Nat → Option Nat) : Nat → (Nat → Nat → Int32) → (Nat → Nat → Int64) → (Int32) → Option ((Nat → Nat → Int32) × (Nat → Nat → Int64) × (Int32))
  | 0, _, _, _ => none
  | n + 1, I, J, x1 =>
    if (3 : Int32) ≤ x1 then
      let I1 := u2 I 114 114 (0 : Int32)
      gX12_work_l116 σ R FUx I1 J (0 : Int32)
    else
      gX12_work_l9 (gX12_work_l2 σ R n) σ R FUx I J x1 (0 : Int32)
theorem eX12_work_l2 {σ : Shp} {R : Nat → Nat → Option Nat} (hS : Skel σ R) : ∀ (n : Nat) (I : Nat → Nat → Int32) (J : Nat → Nat → Int64) (x1 : Int32), fX12_work_l2 σ R 114 n I J x1 = gX12_work_l2 σ R n I J x1 := by
  intro n
  induction n with
  | zero => intro I J x1; rfl
  | succ n ih =>
    intro I J x1
    rw [fX12_work_l2, gX12_work_l2]
    refine bi (fun c => ?_) (fun c => ?_)
    · refine sg (kq114 hS) ?_
      exact eX12_work_l116 hS _ _ _ _
    · exact eX12_work_l9 hS ih _ _ _ _ _
def gX12_work (σ : Shp) (I : Nat → Nat → Int32) (J : Nat → Nat → Int64) (R : Nat → Nat → Option Nat) : Option ((Nat → Nat → Int32) × (Nat → Nat → Int64) × (Int32)) :=
  gX12_work_l2 σ R FUx I J (0 : Int32)
theorem eX12_work {σ : Shp} {I : Nat → Nat → Int32} {J : Nat → Nat → Int64} {R : Nat → Nat → Option Nat}  (hS : Skel σ R) : fX12_work σ I J R 114 = gX12_work σ I J R := by
  unfold fX12_work gX12_work
  exact eX12_work_l2 hS _ _ _ _
def gX12_worked (I : Nat → Nat → Int32) (J : Nat → Nat → Int64) (x1 : Int32) (x2 : Int32) : Option ((Int64)) :=
  if (I 114 115) = 0 then
    some (0 : Int64)
  else
    if x1 = (0 : Int32) then
      if (I 114 116) = 0 then
        if (fX12_in x2 (0 : Int32) (3 : Int32)) = 0 then
          some (0 : Int64)
        else
          if ¬ (x2 < 0 ∨ 4 ≤ Int32.toNatClampNeg x2) then
          some (J 192 (Int32.toNatClampNeg x2))
          else none
      else
        some (0 : Int64)
    else
    if x1 = (1 : Int32) then
      if (I 114 116) = 0 then
        if (fX12_in x2 (0 : Int32) (3 : Int32)) = 0 then
          some (0 : Int64)
        else
          if ¬ (x2 < 0 ∨ 4 ≤ Int32.toNatClampNeg x2) then
          some (J 193 (Int32.toNatClampNeg x2))
          else none
      else
        some (0 : Int64)
    else
    if x1 = (2 : Int32) then
      if (I 114 116) = 0 then
        some (0 : Int64)
      else
        if (fX12_in x2 (0 : Int32) (2 : Int32)) = 0 then
          some (0 : Int64)
        else
          if ¬ (x2 < 0 ∨ 3 ≤ Int32.toNatClampNeg x2) then
          some (J 194 (Int32.toNatClampNeg x2))
          else none
    else
    if x1 = (3 : Int32) then
      some (Int32.toInt64 (I 114 114))
    else
    some (0 : Int64)
theorem eX12_worked {σ : Shp} {I : Nat → Nat → Int32} {J : Nat → Nat → Int64} {R : Nat → Nat → Option Nat} {x1 : Int32} {x2 : Int32} (hS : Skel σ R) : fX12_worked σ I J R 114 x1 x2 = gX12_worked I J x1 x2 := by
  unfold fX12_worked gX12_worked
  refine sg (kq114 hS) ?_
  refine bi (fun c => ?_) (fun c => ?_)
  · rfl
  · refine bi (fun c => ?_) (fun c => ?_)
    · refine bi (fun c => ?_) (fun c => ?_)
      · refine bi (fun c => ?_) (fun c => ?_)
        · rfl
        · refine sb (rq114_117 hS) ?_
          refine sg (kq192 hS) ?_
          refine bgr (by rw [lq192 hS]) (fun g7 => ?_)
          rfl
      · rfl
    · refine bi (fun c => ?_) (fun c => ?_)
      · refine bi (fun c => ?_) (fun c => ?_)
        · refine bi (fun c => ?_) (fun c => ?_)
          · rfl
          · refine sb (rq114_118 hS) ?_
            refine sg (kq193 hS) ?_
            refine bgr (by rw [lq193 hS]) (fun g6 => ?_)
            rfl
        · rfl
      · refine bi (fun c => ?_) (fun c => ?_)
        · refine bi (fun c => ?_) (fun c => ?_)
          · rfl
          · refine bi (fun c => ?_) (fun c => ?_)
            · rfl
            · refine sb (rq114_119 hS) ?_
              refine sg (kq194 hS) ?_
              refine bgr (by rw [lq194 hS]) (fun g5 => ?_)
              rfl
        · refine bi (fun c => ?_) (fun c => ?_)
          · rfl
          · rfl
def gX12_count (J : Nat → Nat → Int64) (x1 : Int32) (x2 : Int32) (x3 : Int32) : Option ((Nat → Nat → Int64) × (Int32)) :=
  if (fX12_isStage x1 x2) = 0 then
    some (J, (-2 : Int32))
  else
    if (fX12_in x3 (0 : Int32) (1000000000 : Int32)) = 0 then
      some (J, (-2 : Int32))
    else
      if ¬ ((((4 : Int32) * x1) + x2) < 0 ∨ 8 ≤ Int32.toNatClampNeg (((4 : Int32) * x1) + x2)) then
      let J2 := u2 J 195 (Int32.toNatClampNeg (((4 : Int32) * x1) + x2)) (Int32.toInt64 x3)
      some (J2, (1 : Int32))
      else none
theorem eX12_count {σ : Shp} {J : Nat → Nat → Int64} {R : Nat → Nat → Option Nat} {x1 : Int32} {x2 : Int32} {x3 : Int32} (hS : Skel σ R) : fX12_count σ J R 114 x1 x2 x3 = gX12_count J x1 x2 x3 := by
  unfold fX12_count gX12_count
  refine bi (fun c => ?_) (fun c => ?_)
  · rfl
  · refine bi (fun c => ?_) (fun c => ?_)
    · rfl
    · refine sg (kq114 hS) ?_
      refine sb (rq114_120 hS) ?_
      refine sg (kq195 hS) ?_
      refine bgr (by rw [lq195 hS]) (fun g1 => ?_)
      rfl
def gX12_parts (I : Nat → Nat → Int32) (x1 : Int32) (x2 : Int32) (x3 : Int32) (x4 : Int32) (x5 : Int32) : Option ((Nat → Nat → Int32) × (Int32)) :=
  if (fX12_isStage x1 x2) = 0 then
    some (I, (-2 : Int32))
  else
    if (fX12_in x3 (0 : Int32) (1000 : Int32)) = 0 then
      some (I, (-2 : Int32))
    else
      if (fX12_in x4 (0 : Int32) (1000 : Int32)) = 0 then
        some (I, (-2 : Int32))
      else
        if (fX12_in x5 (0 : Int32) (1000 : Int32)) = 0 then
          some (I, (-2 : Int32))
        else
          if ¬ ((((4 : Int32) * x1) + x2) < 0 ∨ 8 ≤ Int32.toNatClampNeg (((4 : Int32) * x1) + x2)) then
          let I2 := u2 I 196 (Int32.toNatClampNeg (((4 : Int32) * x1) + x2)) x3
          if ¬ ((((4 : Int32) * x1) + x2) < 0 ∨ 8 ≤ Int32.toNatClampNeg (((4 : Int32) * x1) + x2)) then
          let I4 := u2 I2 197 (Int32.toNatClampNeg (((4 : Int32) * x1) + x2)) x4
          if ¬ ((((4 : Int32) * x1) + x2) < 0 ∨ 8 ≤ Int32.toNatClampNeg (((4 : Int32) * x1) + x2)) then
          let I6 := u2 I4 198 (Int32.toNatClampNeg (((4 : Int32) * x1) + x2)) x5
          some (I6, (1 : Int32))
          else none
          else none
          else none
theorem eX12_parts {σ : Shp} {I : Nat → Nat → Int32} {R : Nat → Nat → Option Nat} {x1 : Int32} {x2 : Int32} {x3 : Int32} {x4 : Int32} {x5 : Int32} (hS : Skel σ R) : fX12_parts σ I R 114 x1 x2 x3 x4 x5 = gX12_parts I x1 x2 x3 x4 x5 := by
  unfold fX12_parts gX12_parts
  refine bi (fun c => ?_) (fun c => ?_)
  · rfl
  · refine bi (fun c => ?_) (fun c => ?_)
    · rfl
    · refine bi (fun c => ?_) (fun c => ?_)
      · rfl
      · refine bi (fun c => ?_) (fun c => ?_)
        · rfl
        · refine sg (kq114 hS) ?_
          refine sb (rq114_121 hS) ?_
          refine sg (kq196 hS) ?_
          refine bgr (by rw [lq196 hS]) (fun g1 => ?_)
          refine sb (rq114_122 hS) ?_
          refine sg (kq197 hS) ?_
          refine bgr (by rw [lq197 hS]) (fun g3 => ?_)
          refine sb (rq114_123 hS) ?_
          refine sg (kq198 hS) ?_
          refine bgr (by rw [lq198 hS]) (fun g5 => ?_)
          rfl
def gX12_oneDay_l180  (σ : Shp) (I : Nat → Nat → Int32) (R : Nat → Nat → Option Nat) : Nat → (Nat → Nat → Int64) → (Int32) → (Int32) → Option ((Nat → Nat → Int64))
  | 0, _, _, _ => none
  | n + 1, J, x1, x2 =>
    if (4 : Int32) ≤ x2 then
      some J
    else
      if ¬ ((((4 : Int32) * x1) + x2) < 0 ∨ 8 ≤ Int32.toNatClampNeg (((4 : Int32) * x1) + x2)) then
      if (J 199 (Int32.toNatClampNeg (((4 : Int32) * x1) + x2))) ≤ (1000000000 : Int64) then
        if ¬ ((((4 : Int32) * x1) + x2) < 0 ∨ 8 ≤ Int32.toNatClampNeg (((4 : Int32) * x1) + x2)) then
        let J7 := u2 J 195 (Int32.toNatClampNeg (((4 : Int32) * x1) + x2)) (J 199 (Int32.toNatClampNeg (((4 : Int32) * x1) + x2)))
        let v8 := x2 + (1 : Int32)
        gX12_oneDay_l180 σ I R n J7 x1 v8
        else none
      else
        if ¬ ((((4 : Int32) * x1) + x2) < 0 ∨ 8 ≤ Int32.toNatClampNeg (((4 : Int32) * x1) + x2)) then
        let J10 := u2 J 195 (Int32.toNatClampNeg (((4 : Int32) * x1) + x2)) (1000000000 : Int64)
        let v11 := x2 + (1 : Int32)
        gX12_oneDay_l180 σ I R n J10 x1 v11
        else none
      else none
theorem eX12_oneDay_l180 {σ : Shp} {I : Nat → Nat → Int32} {R : Nat → Nat → Option Nat} (hS : Skel σ R) : ∀ (n : Nat) (J : Nat → Nat → Int64) (x1 : Int32) (x2 : Int32), fX12_oneDay_l180 σ I R 114 n J x1 x2 = gX12_oneDay_l180 σ I R n J x1 x2 := by
  intro n
  induction n with
  | zero => intro J x1 x2; rfl
  | succ n ih =>
    intro J x1 x2
    rw [fX12_oneDay_l180, gX12_oneDay_l180]
    refine bi (fun c => ?_) (fun c => ?_)
    · rfl
    · refine sg (kq114 hS) ?_
      refine sb (rq114_120 hS) ?_
      refine sb (rq114_124 hS) ?_
      refine sg (kq199 hS) ?_
      refine bgr (by rw [lq199 hS]) (fun g5 => ?_)
      refine bi (fun c => ?_) (fun c => ?_)
      · refine sg (kq195 hS) ?_
        refine bgr (by rw [lq195 hS]) (fun g6 => ?_)
        exact ih _ _ _
      · refine sg (kq195 hS) ?_
        refine bgr (by rw [lq195 hS]) (fun g9 => ?_)
        exact ih _ _ _
def gX12_oneDay_l26  (σ : Shp) (I : Nat → Nat → Int32) (R : Nat → Nat → Option Nat) : Nat → (Nat → Nat → Int64) → (Int32) → (Int32) → Option ((Nat → Nat → Int64))
  | 0, _, _, _ => none
  | n + 1, J, x1, x2 =>
    if (4 : Int32) ≤ x2 then
      if ¬ (((4 : Int32) * x1) < 0 ∨ 8 ≤ Int32.toNatClampNeg ((4 : Int32) * x1)) then
      if ¬ ((((4 : Int32) * x1) + (3 : Int32)) < 0 ∨ 8 ≤ Int32.toNatClampNeg (((4 : Int32) * x1) + (3 : Int32))) then
      if ¬ ((((4 : Int32) * x1) + (3 : Int32)) < 0 ∨ 8 ≤ Int32.toNatClampNeg (((4 : Int32) * x1) + (3 : Int32))) then
      let J4 := u2 J 199 (Int32.toNatClampNeg ((4 : Int32) * x1)) ((J 199 (Int32.toNatClampNeg ((4 : Int32) * x1))) + (((J 195 (Int32.toNatClampNeg (((4 : Int32) * x1) + (3 : Int32)))) * (Int32.toInt64 (I 198 (Int32.toNatClampNeg (((4 : Int32) * x1) + (3 : Int32)))))) / (100 : Int64)))
      gX12_oneDay_l180 σ I R FUx J4 x1 (0 : Int32)
      else none
      else none
      else none
    else
      let v12 := (((4 : Int32) * x1) + x2)
      if ¬ (v12 < 0 ∨ 8 ≤ Int32.toNatClampNeg v12) then
      if ¬ ((0 : Int32) < 0 ∨ 40 ≤ Int32.toNatClampNeg (0 : Int32)) then
      let J15 := u2 J 186 (Int32.toNatClampNeg (0 : Int32)) (Int32.toInt64 (I 196 (Int32.toNatClampNeg v12)))
      if ¬ (v12 < 0 ∨ 8 ≤ Int32.toNatClampNeg v12) then
      if ¬ ((1 : Int32) < 0 ∨ 40 ≤ Int32.toNatClampNeg (1 : Int32)) then
      let J18 := u2 J15 186 (Int32.toNatClampNeg (1 : Int32)) (Int32.toInt64 (I 197 (Int32.toNatClampNeg v12)))
      if ¬ ((2 : Int32) < 0 ∨ 40 ≤ Int32.toNatClampNeg (2 : Int32)) then
      let J20 := u2 J18 186 (Int32.toNatClampNeg (2 : Int32)) (Int32.toInt64 (((2000 : Int32) - (I 196 (Int32.toNatClampNeg v12))) - (I 197 (Int32.toNatClampNeg v12))))
      if ¬ (v12 < 0 ∨ 8 ≤ Int32.toNatClampNeg v12) then
      (gX12_partWhole σ J20 R (J20 195 (Int32.toNatClampNeg v12)) (3 : Int32)).bind fun J22 =>
      if ¬ (v12 < 0 ∨ 8 ≤ Int32.toNatClampNeg v12) then
      if ¬ ((1 : Int32) < 0 ∨ 40 ≤ Int32.toNatClampNeg (1 : Int32)) then
      let J26 := u2 J22 199 (Int32.toNatClampNeg v12) ((J22 199 (Int32.toNatClampNeg v12)) + (J22 184 (Int32.toNatClampNeg (1 : Int32))))
      if (3 : Int32) ≤ x2 then
        let v27 := x2 + (1 : Int32)
        gX12_oneDay_l26 σ I R n J26 x1 v27
      else
        if ¬ ((v12 + (1 : Int32)) < 0 ∨ 8 ≤ Int32.toNatClampNeg (v12 + (1 : Int32))) then
        if ¬ ((0 : Int32) < 0 ∨ 40 ≤ Int32.toNatClampNeg (0 : Int32)) then
        let J30 := u2 J26 199 (Int32.toNatClampNeg (v12 + (1 : Int32))) ((J26 199 (Int32.toNatClampNeg (v12 + (1 : Int32)))) + (J26 184 (Int32.toNatClampNeg (0 : Int32))))
        let v31 := x2 + (1 : Int32)
        gX12_oneDay_l26 σ I R n J30 x1 v31
        else none
        else none
      else none
      else none
      else none
      else none
      else none
      else none
      else none
      else none
theorem eX12_oneDay_l26 {σ : Shp} {I : Nat → Nat → Int32} {R : Nat → Nat → Option Nat} (hS : Skel σ R) : ∀ (n : Nat) (J : Nat → Nat → Int64) (x1 : Int32) (x2 : Int32), fX12_oneDay_l26 σ I R 114 n J x1 x2 = gX12_oneDay_l26 σ I R n J x1 x2 := by
  intro n
  induction n with
  | zero => intro J x1 x2; rfl
  | succ n ih =>
    intro J x1 x2
    rw [fX12_oneDay_l26, gX12_oneDay_l26]
    refine bi (fun c => ?_) (fun c => ?_)
    · refine sg (kq114 hS) ?_
      refine sb (rq114_124 hS) ?_
      refine sg (kq199 hS) ?_
      refine bgr (by rw [lq199 hS]) (fun g1 => ?_)
      refine sb (rq114_120 hS) ?_
      refine sg (kq195 hS) ?_
      refine bgr (by rw [lq195 hS]) (fun g2 => ?_)
      refine sb (rq114_123 hS) ?_
      refine sg (kq198 hS) ?_
      refine bgr (by rw [lq198 hS]) (fun g3 => ?_)
      exact eX12_oneDay_l180 hS _ _ _ _
    · refine sg (kq114 hS) ?_
      refine sb (rq114_108 hS) ?_
      refine sb (rq114_121 hS) ?_
      refine sg (kq196 hS) ?_
      refine bgr (by rw [lq196 hS]) (fun g13 => ?_)
      refine sg (kq186 hS) ?_
      refine bgr (by rw [lq186 hS]) (fun g14 => ?_)
      refine sb (rq114_122 hS) ?_
      refine sg (kq197 hS) ?_
      refine bgr (by rw [lq197 hS]) (fun g16 => ?_)
      refine bgr (by rw [lq186 hS]) (fun g17 => ?_)
      refine bgr (by rw [lq186 hS]) (fun g19 => ?_)
      refine sb (rq114_120 hS) ?_
      refine sg (kq195 hS) ?_
      refine bgr (by rw [lq195 hS]) (fun g21 => ?_)
      refine bc (eX12_partWhole hS) (fun J22 hc23 => ?_)
      refine sb (rq114_124 hS) ?_
      refine sg (kq199 hS) ?_
      refine bgr (by rw [lq199 hS]) (fun g24 => ?_)
      refine sb (rq114_106 hS) ?_
      refine sg (kq184 hS) ?_
      refine bgr (by rw [lq184 hS]) (fun g25 => ?_)
      refine bi (fun c => ?_) (fun c => ?_)
      · exact ih _ _ _
      · refine bgr (by rw [lq199 hS]) (fun g28 => ?_)
        refine bgr (by rw [lq184 hS]) (fun g29 => ?_)
        exact ih _ _ _
def gX12_oneDay_l2  (σ : Shp) (I : Nat → Nat → Int32) (R : Nat → Nat → Option Nat) : Nat → (Nat → Nat → Int64) → (Int32) → (Int32) → Option ((Nat → Nat → Int64))
  | 0, _, _, _ => none
  | n + 1, J, x1, x2 =>
    if (4 : Int32) ≤ x2 then
      gX12_oneDay_l26 σ I R FUx J x1 (0 : Int32)
    else
      if ¬ ((((4 : Int32) * x1) + x2) < 0 ∨ 8 ≤ Int32.toNatClampNeg (((4 : Int32) * x1) + x2)) then
      let J33 := u2 J 199 (Int32.toNatClampNeg (((4 : Int32) * x1) + x2)) (0 : Int64)
      let v34 := x2 + (1 : Int32)
      gX12_oneDay_l2 σ I R n J33 x1 v34
      else none
theorem eX12_oneDay_l2 {σ : Shp} {I : Nat → Nat → Int32} {R : Nat → Nat → Option Nat} (hS : Skel σ R) : ∀ (n : Nat) (J : Nat → Nat → Int64) (x1 : Int32) (x2 : Int32), fX12_oneDay_l2 σ I R 114 n J x1 x2 = gX12_oneDay_l2 σ I R n J x1 x2 := by
  intro n
  induction n with
  | zero => intro J x1 x2; rfl
  | succ n ih =>
    intro J x1 x2
    rw [fX12_oneDay_l2, gX12_oneDay_l2]
    refine bi (fun c => ?_) (fun c => ?_)
    · exact eX12_oneDay_l26 hS _ _ _ _
    · refine sg (kq114 hS) ?_
      refine sb (rq114_124 hS) ?_
      refine sg (kq199 hS) ?_
      refine bgr (by rw [lq199 hS]) (fun g32 => ?_)
      exact ih _ _ _
def gX12_oneDay (σ : Shp) (I : Nat → Nat → Int32) (J : Nat → Nat → Int64) (R : Nat → Nat → Option Nat) (x1 : Int32) : Option ((Nat → Nat → Int64)) :=
  gX12_oneDay_l2 σ I R FUx J x1 (0 : Int32)
theorem eX12_oneDay {σ : Shp} {I : Nat → Nat → Int32} {J : Nat → Nat → Int64} {R : Nat → Nat → Option Nat} {x1 : Int32} (hS : Skel σ R) : fX12_oneDay σ I J R 114 x1 = gX12_oneDay σ I J R x1 := by
  unfold fX12_oneDay gX12_oneDay
  exact eX12_oneDay_l2 hS _ _ _ _
def gX12_day_l30  (σ : Shp) (R : Nat → Nat → Option Nat) : Nat → (Nat → Nat → Int32) → (Nat → Nat → Int64) → (Int32) → (Int32) → Option ((Nat → Nat → Int32) × (Nat → Nat → Int64) × (Int32))
  | 0, _, _, _, _ => none
  | n + 1, I, J, x1, x2 =>
    if x1 ≤ x2 then
      some (I, J, (I 114 125))
    else
      (gX12_oneDay σ I J R (0 : Int32)).bind fun J1 =>
      (gX12_oneDay σ I J1 R (1 : Int32)).bind fun J3 =>
      let I5 := u2 I 114 125 ((I 114 125) + (1 : Int32))
      if (I5 114 126) ≤ 0 then
        let I6 := u2 I5 114 126 ((I5 114 126) - (0 : Int32))
        let v7 := x2 + (1 : Int32)
        gX12_day_l30 σ R n I6 J3 x1 v7
      else
        let I8 := u2 I5 114 126 ((I5 114 126) - (1 : Int32))
        let v9 := x2 + (1 : Int32)
        gX12_day_l30 σ R n I8 J3 x1 v9
theorem eX12_day_l30 {σ : Shp} {R : Nat → Nat → Option Nat} (hS : Skel σ R) : ∀ (n : Nat) (I : Nat → Nat → Int32) (J : Nat → Nat → Int64) (x1 : Int32) (x2 : Int32), fX12_day_l30 σ R 114 n I J x1 x2 = gX12_day_l30 σ R n I J x1 x2 := by
  intro n
  induction n with
  | zero => intro I J x1 x2; rfl
  | succ n ih =>
    intro I J x1 x2
    rw [fX12_day_l30, gX12_day_l30]
    refine bi (fun c => ?_) (fun c => ?_)
    · refine sg (kq114 hS) ?_
      rfl
    · refine sg (kq114 hS) ?_
      refine bc (eX12_oneDay hS) (fun J1 hc2 => ?_)
      refine bc (eX12_oneDay hS) (fun J3 hc4 => ?_)
      refine bi (fun c => ?_) (fun c => ?_)
      · exact ih _ _ _ _
      · exact ih _ _ _ _
def gX12_day (σ : Shp) (I : Nat → Nat → Int32) (J : Nat → Nat → Int64) (R : Nat → Nat → Option Nat) (x1 : Int32) : Option ((Nat → Nat → Int32) × (Nat → Nat → Int64) × (Int32)) :=
  if (fX12_in x1 (1 : Int32) (50 : Int32)) = 0 then
    some (I, J, (-2 : Int32))
  else
    if ((I 114 125) + x1) ≤ (10000 : Int32) then
      gX12_day_l30 σ R FUx I J x1 (0 : Int32)
    else
      some (I, J, (-4 : Int32))
theorem eX12_day {σ : Shp} {I : Nat → Nat → Int32} {J : Nat → Nat → Int64} {R : Nat → Nat → Option Nat} {x1 : Int32} (hS : Skel σ R) : fX12_day σ I J R 114 x1 = gX12_day σ I J R x1 := by
  unfold fX12_day gX12_day
  refine bi (fun c => ?_) (fun c => ?_)
  · rfl
  · refine sg (kq114 hS) ?_
    refine bi (fun c => ?_) (fun c => ?_)
    · exact eX12_day_l30 hS _ _ _ _ _
    · rfl
def gX12_spray_l14  (σ : Shp) (R : Nat → Nat → Option Nat) : Nat → (Nat → Nat → Int32) → (Nat → Nat → Int64) → (Int32) → (Int32) → Option ((Nat → Nat → Int32) × (Nat → Nat → Int64) × (Int32))
  | 0, _, _, _, _ => none
  | n + 1, I, J, x1, x2 =>
    if (4 : Int32) ≤ x2 then
      let I1 := u2 I 114 126 (7 : Int32)
      some (I1, J, (1 : Int32))
    else
      if ¬ ((((4 : Int32) * x1) + x2) < 0 ∨ 8 ≤ Int32.toNatClampNeg (((4 : Int32) * x1) + x2)) then
      let J3 := u2 J 195 (Int32.toNatClampNeg (((4 : Int32) * x1) + x2)) ((J 195 (Int32.toNatClampNeg (((4 : Int32) * x1) + x2))) / (4 : Int64))
      let v4 := x2 + (1 : Int32)
      gX12_spray_l14 σ R n I J3 x1 v4
      else none
theorem eX12_spray_l14 {σ : Shp} {R : Nat → Nat → Option Nat} (hS : Skel σ R) : ∀ (n : Nat) (I : Nat → Nat → Int32) (J : Nat → Nat → Int64) (x1 : Int32) (x2 : Int32), fX12_spray_l14 σ R 114 n I J x1 x2 = gX12_spray_l14 σ R n I J x1 x2 := by
  intro n
  induction n with
  | zero => intro I J x1 x2; rfl
  | succ n ih =>
    intro I J x1 x2
    rw [fX12_spray_l14, gX12_spray_l14]
    refine bi (fun c => ?_) (fun c => ?_)
    · refine sg (kq114 hS) ?_
      rfl
    · refine sg (kq114 hS) ?_
      refine sb (rq114_120 hS) ?_
      refine sg (kq195 hS) ?_
      refine bgr (by rw [lq195 hS]) (fun g2 => ?_)
      exact ih _ _ _ _
def gX12_spray (σ : Shp) (I : Nat → Nat → Int32) (J : Nat → Nat → Int64) (R : Nat → Nat → Option Nat) (x1 : Int32) : Option ((Nat → Nat → Int32) × (Nat → Nat → Int64) × (Int32)) :=
  if (fX12_in x1 (0 : Int32) (1 : Int32)) = 0 then
    some (I, J, (-2 : Int32))
  else
    gX12_spray_l14 σ R FUx I J x1 (0 : Int32)
theorem eX12_spray {σ : Shp} {I : Nat → Nat → Int32} {J : Nat → Nat → Int64} {R : Nat → Nat → Option Nat} {x1 : Int32} (hS : Skel σ R) : fX12_spray σ I J R 114 x1 = gX12_spray σ I J R x1 := by
  unfold fX12_spray gX12_spray
  refine bi (fun c => ?_) (fun c => ?_)
  · rfl
  · exact eX12_spray_l14 hS _ _ _ _ _
def gX12_pest (J : Nat → Nat → Int64) (x1 : Int32) (x2 : Int32) : Option ((Int32)) :=
  if (fX12_isStage x1 x2) = 0 then
    some (-2 : Int32)
  else
    if ¬ ((((4 : Int32) * x1) + x2) < 0 ∨ 8 ≤ Int32.toNatClampNeg (((4 : Int32) * x1) + x2)) then
    some (Int64.toInt32 (J 195 (Int32.toNatClampNeg (((4 : Int32) * x1) + x2))))
    else none
theorem eX12_pest {σ : Shp} {J : Nat → Nat → Int64} {R : Nat → Nat → Option Nat} {x1 : Int32} {x2 : Int32} (hS : Skel σ R) : fX12_pest σ J R 114 x1 x2 = gX12_pest J x1 x2 := by
  unfold fX12_pest gX12_pest
  refine bi (fun c => ?_) (fun c => ?_)
  · rfl
  · refine sg (kq114 hS) ?_
    refine sb (rq114_120 hS) ?_
    refine sg (kq195 hS) ?_
    refine bgr (by rw [lq195 hS]) (fun g1 => ?_)
    rfl
def gX12_wait1 (I : Nat → Nat → Int32) : Option ((Int32)) :=
  some (I 114 126)
theorem eX12_wait1 {σ : Shp} {I : Nat → Nat → Int32} {R : Nat → Nat → Option Nat}  (hS : Skel σ R) : fX12_wait1 σ I 114 = gX12_wait1 I := by
  unfold fX12_wait1 gX12_wait1
  refine sg (kq114 hS) ?_
  rfl
def gX12_sumOf_l4  (σ : Shp) (I : Nat → Nat → Int32) : Nat → (Option Nat) → (Int32) → (Int32) → (Int32) → Option ((Int32))
  | 0, _, _, _, _ => none
  | n + 1, x0, x1, x2, x3 =>
    if (60 : Int32) ≤ x3 then
      some x2
    else
      (x0 : Option Nat).bind fun a1 =>
      if kdx σ a1 = 20 then
      if ¬ ((x1 + x3) < 0 ∨ lnx σ a1 ≤ Int32.toNatClampNeg (x1 + x3)) then
      let v4 := (x2 ^^^ (I a1 (Int32.toNatClampNeg (x1 + x3))))
      let v5 := (((v4 <<< ((11 : Int32) &&& 31)) ||| ((Int32.toUInt32 v4 >>> (Int32.toUInt32 (21 : Int32) &&& Int32.toUInt32 31)).toInt32)) * (-1028477387 : Int32))
      let v6 := x3 + (1 : Int32)
      gX12_sumOf_l4 σ I n x0 x1 v5 v6
      else none
      else none
theorem eX12_sumOf_l4 {σ : Shp} {I : Nat → Nat → Int32} {R : Nat → Nat → Option Nat} (hS : Skel σ R) : ∀ (n : Nat) (x0 : Option Nat) (x1 : Int32) (x2 : Int32) (x3 : Int32), fX12_sumOf_l4 σ I n x0 x1 x2 x3 = gX12_sumOf_l4 σ I n x0 x1 x2 x3 := by
  intro n
  induction n with
  | zero => intro x0 x1 x2 x3; rfl
  | succ n ih =>
    intro x0 x1 x2 x3
    rw [fX12_sumOf_l4, gX12_sumOf_l4]
    refine bi (fun c => ?_) (fun c => ?_)
    · rfl
    · refine bb (fun a1 ha1 => ?_)
      refine bg (fun g2 => ?_)
      refine bg (fun g3 => ?_)
      exact ih _ _ _ _
def gX12_sumOf (σ : Shp) (I : Nat → Nat → Int32) (x0 : Option Nat) (x1 : Int32) : Option ((Int32)) :=
  gX12_sumOf_l4 σ I FUx x0 x1 (0 : Int32) (0 : Int32)
theorem eX12_sumOf {σ : Shp} {I : Nat → Nat → Int32} {R : Nat → Nat → Option Nat} {x0 : Option Nat} {x1 : Int32} (hS : Skel σ R) : fX12_sumOf σ I x0 x1 = gX12_sumOf σ I x0 x1 := by
  unfold fX12_sumOf gX12_sumOf
  exact eX12_sumOf_l4 hS _ _ _ _ _
def gX12_wide_l5  (σ : Shp) (I : Nat → Nat → Int32) : Nat → (Option Nat) → (Int32) → (Int32) → (Int64) → (Int32) → Option ((Int64))
  | 0, _, _, _, _, _ => none
  | n + 1, x0, x1, x2, x3, x5 =>
    if x2 ≤ x5 then
      some x3
    else
      (x0 : Option Nat).bind fun a1 =>
      if kdx σ a1 = 20 then
      if ¬ ((x1 + x5) < 0 ∨ lnx σ a1 ≤ Int32.toNatClampNeg (x1 + x5)) then
      let v4 := ((x3 <<< (Int32.toInt64 (8 : Int32) &&& 63)) ||| (Int32.toInt64 (I a1 (Int32.toNatClampNeg (x1 + x5)))))
      let v5 := x5 + (1 : Int32)
      gX12_wide_l5 σ I n x0 x1 x2 v4 v5
      else none
      else none
theorem eX12_wide_l5 {σ : Shp} {I : Nat → Nat → Int32} {R : Nat → Nat → Option Nat} (hS : Skel σ R) : ∀ (n : Nat) (x0 : Option Nat) (x1 : Int32) (x2 : Int32) (x3 : Int64) (x5 : Int32), fX12_wide_l5 σ I n x0 x1 x2 x3 x5 = gX12_wide_l5 σ I n x0 x1 x2 x3 x5 := by
  intro n
  induction n with
  | zero => intro x0 x1 x2 x3 x5; rfl
  | succ n ih =>
    intro x0 x1 x2 x3 x5
    rw [fX12_wide_l5, gX12_wide_l5]
    refine bi (fun c => ?_) (fun c => ?_)
    · rfl
    · refine bb (fun a1 ha1 => ?_)
      refine bg (fun g2 => ?_)
      refine bg (fun g3 => ?_)
      exact ih _ _ _ _ _
def gX12_wide (σ : Shp) (I : Nat → Nat → Int32) (x0 : Option Nat) (x1 : Int32) (x2 : Int32) : Option ((Int64)) :=
  gX12_wide_l5 σ I FUx x0 x1 x2 (0 : Int64) (0 : Int32)
theorem eX12_wide {σ : Shp} {I : Nat → Nat → Int32} {R : Nat → Nat → Option Nat} {x0 : Option Nat} {x1 : Int32} {x2 : Int32} (hS : Skel σ R) : fX12_wide σ I x0 x1 x2 = gX12_wide σ I x0 x1 x2 := by
  unfold fX12_wide gX12_wide
  exact eX12_wide_l5 hS _ _ _ _ _ _
def gX12_layWide_l3  (σ : Shp) (R : Nat → Nat → Option Nat) : Nat → (Nat → Nat → Int32) → (Int32) → (Int32) → (Int64) → (Int32) → Option ((Nat → Nat → Int32))
  | 0, _, _, _, _, _ => none
  | n + 1, I, x1, x2, x3, x5 =>
    if x2 ≤ x5 then
      some I
    else
      if ¬ ((x1 + x5) < 0 ∨ 64 ≤ Int32.toNatClampNeg (x1 + x5)) then
      let I2 := u2 I 201 (Int32.toNatClampNeg (x1 + x5)) (Int64.toInt32 ((x3 >>> (Int32.toInt64 ((8 : Int32) * ((x2 - (1 : Int32)) - x5)) &&& 63)) &&& (255 : Int64)))
      let v3 := x5 + (1 : Int32)
      gX12_layWide_l3 σ R n I2 x1 x2 x3 v3
      else none
theorem eX12_layWide_l3 {σ : Shp} {R : Nat → Nat → Option Nat} (hS : Skel σ R) : ∀ (n : Nat) (I : Nat → Nat → Int32) (x1 : Int32) (x2 : Int32) (x3 : Int64) (x5 : Int32), fX12_layWide_l3 σ R 114 n I x1 x2 x3 x5 = gX12_layWide_l3 σ R n I x1 x2 x3 x5 := by
  intro n
  induction n with
  | zero => intro I x1 x2 x3 x5; rfl
  | succ n ih =>
    intro I x1 x2 x3 x5
    rw [fX12_layWide_l3, gX12_layWide_l3]
    refine bi (fun c => ?_) (fun c => ?_)
    · rfl
    · refine sg (kq114 hS) ?_
      refine sb (rq114_128 hS) ?_
      refine sg (kq201 hS) ?_
      refine bgr (by rw [lq201 hS]) (fun g1 => ?_)
      exact ih _ _ _ _ _
def gX12_layWide (σ : Shp) (I : Nat → Nat → Int32) (R : Nat → Nat → Option Nat) (x1 : Int32) (x2 : Int32) (x3 : Int64) : Option ((Nat → Nat → Int32)) :=
  gX12_layWide_l3 σ R FUx I x1 x2 x3 (0 : Int32)
theorem eX12_layWide {σ : Shp} {I : Nat → Nat → Int32} {R : Nat → Nat → Option Nat} {x1 : Int32} {x2 : Int32} {x3 : Int64} (hS : Skel σ R) : fX12_layWide σ I R 114 x1 x2 x3 = gX12_layWide σ I R x1 x2 x3 := by
  unfold fX12_layWide gX12_layWide
  exact eX12_layWide_l3 hS _ _ _ _ _ _
def gX12_write_b282 (q219 : (Nat → Nat → Int32) → (Int32) → (Int32) → (Option ((Nat → Nat → Int32) × (Int32)))) (σ : Shp) (J : Nat → Nat → Int64) (R : Nat → Nat → Option Nat) (I : Nat → Nat → Int32) (x3 : Int32) (x4 : Int32) (s0 : Option Nat) (s1 : Int32) (s2 : Int32) : Option ((Nat → Nat → Int32) × (Int32)) :=
  (s0 : Option Nat).bind fun a27 =>
  if kdx σ a27 = 13 then
  let I29 := u2 I a27 132 (s1 - s2)
  if ¬ (x4 < 0 ∨ 64 ≤ Int32.toNatClampNeg x4) then
  if ¬ ((x3 + x4) < 0 ∨ 1280 ≤ Int32.toNatClampNeg (x3 + x4)) then
  let I32 := u2 I29 200 (Int32.toNatClampNeg (x3 + x4)) (I29 201 (Int32.toNatClampNeg x4))
  let v33 := x4 + (1 : Int32)
  q219 I32 x3 v33
  else none
  else none
  else none
theorem eX12_write_b282 {σ : Shp} {I : Nat → Nat → Int32} {J : Nat → Nat → Int64} {R : Nat → Nat → Option Nat} {x3 : Int32} {x4 : Int32} {s0 : Option Nat} {s1 : Int32} {s2 : Int32} (hS : Skel σ R) {qf219 q219 : (Nat → Nat → Int32) → (Int32) → (Int32) → (Option ((Nat → Nat → Int32) × (Int32)))} (hq219 : ∀ (I : Nat → Nat → Int32) (x3 : Int32) (x4 : Int32), qf219 I x3 x4 = q219 I x3 x4) : fX12_write_b282 qf219 σ J R 114 I x3 x4 s0 s1 s2 = gX12_write_b282 q219 σ J R I x3 x4 s0 s1 s2 := by
  unfold fX12_write_b282 gX12_write_b282
  refine bb (fun a27 ha27 => ?_)
  refine bg (fun g28 => ?_)
  refine sg (kq114 hS) ?_
  refine sb (rq114_127 hS) ?_
  refine sb (rq114_128 hS) ?_
  refine sg (kq201 hS) ?_
  refine bgr (by rw [lq201 hS]) (fun g30 => ?_)
  refine sg (kq200 hS) ?_
  refine bgr (by rw [lq200 hS]) (fun g31 => ?_)
  exact hq219 _ _ _
def gX12_write_l219  (σ : Shp) (J : Nat → Nat → Int64) (R : Nat → Nat → Option Nat) : Nat → (Nat → Nat → Int32) → (Int32) → (Int32) → Option ((Nat → Nat → Int32) × (Int32))
  | 0, _, _, _ => none
  | n + 1, I, x3, x4 =>
    if (64 : Int32) ≤ x4 then
      let I25 := u2 I 114 130 ((I 114 130) + (1 : Int32))
      let I26 := u2 I25 114 129 ((I25 114 129) + (1 : Int32))
      some (I26, (I26 114 129))
    else
      if (I 114 132) = 0 then
        let I34 := u2 I 114 131 (1 : Int32)
        let I35 := u2 I34 114 132 (-1 : Int32)
        if x4 ≤ 0 then
          let I36 := u2 I35 114 130 ((I35 114 130) + (0 : Int32))
          some (I36, (-3 : Int32))
        else
          let I37 := u2 I35 114 130 ((I35 114 130) + (1 : Int32))
          some (I37, (-3 : Int32))
      else
        if (I 114 132) ≤ 0 then
          gX12_write_b282 (gX12_write_l219 σ J R n) σ J R I x3 x4 (some 114) (I 114 132) (0 : Int32)
        else
          gX12_write_b282 (gX12_write_l219 σ J R n) σ J R I x3 x4 (some 114) (I 114 132) (1 : Int32)
theorem eX12_write_l219 {σ : Shp} {J : Nat → Nat → Int64} {R : Nat → Nat → Option Nat} (hS : Skel σ R) : ∀ (n : Nat) (I : Nat → Nat → Int32) (x3 : Int32) (x4 : Int32), fX12_write_l219 σ J R 114 n I x3 x4 = gX12_write_l219 σ J R n I x3 x4 := by
  intro n
  induction n with
  | zero => intro I x3 x4; rfl
  | succ n ih =>
    intro I x3 x4
    rw [fX12_write_l219, gX12_write_l219]
    refine bi (fun c => ?_) (fun c => ?_)
    · refine sg (kq114 hS) ?_
      rfl
    · refine sg (kq114 hS) ?_
      refine bi (fun c => ?_) (fun c => ?_)
      · refine bi (fun c => ?_) (fun c => ?_)
        · rfl
        · rfl
      · refine bi (fun c => ?_) (fun c => ?_)
        · exact eX12_write_b282 hS ih
        · exact eX12_write_b282 hS ih
def gX12_write_l150  (σ : Shp) (J : Nat → Nat → Int64) (R : Nat → Nat → Option Nat) : Nat → (Nat → Nat → Int32) → (Int32) → (Int32) → Option ((Nat → Nat → Int32) × (Int32))
  | 0, _, _, _ => none
  | n + 1, I, x2, x3 =>
    if ¬ (x2 < 0 ∨ 4100 ≤ Int32.toNatClampNeg x2) then
    if (I 117 (Int32.toNatClampNeg x2)) ≤ x3 then
      (gX12_sumOf σ I (some 201) (0 : Int32)).bind fun r20 =>
      (gX12_layWide σ I R (60 : Int32) (4 : Int32) (Int32.toInt64 r20)).bind fun I22 =>
      let v24 := ((64 : Int32) * (I22 114 130))
      gX12_write_l219 σ J R FUx I22 v24 (0 : Int32)
    else
      if ¬ (x2 < 0 ∨ 4100 ≤ Int32.toNatClampNeg x2) then
      if ¬ (((I 118 (Int32.toNatClampNeg x2)) + x3) < 0 ∨ 164000 ≤ Int32.toNatClampNeg ((I 118 (Int32.toNatClampNeg x2)) + x3)) then
      (gX12_layWide σ I R ((12 : Int32) + ((8 : Int32) * x3)) (8 : Int32) (J 119 (Int32.toNatClampNeg ((I 118 (Int32.toNatClampNeg x2)) + x3)))).bind fun I40 =>
      let v42 := x3 + (1 : Int32)
      gX12_write_l150 σ J R n I40 x2 v42
      else none
      else none
    else none
theorem eX12_write_l150 {σ : Shp} {J : Nat → Nat → Int64} {R : Nat → Nat → Option Nat} (hS : Skel σ R) : ∀ (n : Nat) (I : Nat → Nat → Int32) (x2 : Int32) (x3 : Int32), fX12_write_l150 σ J R 114 n I x2 x3 = gX12_write_l150 σ J R n I x2 x3 := by
  intro n
  induction n with
  | zero => intro I x2 x3; rfl
  | succ n ih =>
    intro I x2 x3
    rw [fX12_write_l150, gX12_write_l150]
    refine sg (kq114 hS) ?_
    refine sb (rq114_5 hS) ?_
    refine sg (kq117 hS) ?_
    refine bgr (by rw [lq117 hS]) (fun g19 => ?_)
    refine bi (fun c => ?_) (fun c => ?_)
    · refine sb (rq114_128 hS) ?_
      refine bc (eX12_sumOf hS) (fun r20 hc21 => ?_)
      refine bc (eX12_layWide hS) (fun I22 hc23 => ?_)
      exact eX12_write_l219 hS _ _ _ _
    · refine sb (rq114_8 hS) ?_
      refine sb (rq114_6 hS) ?_
      refine sg (kq118 hS) ?_
      refine bgr (by rw [lq118 hS]) (fun g38 => ?_)
      refine sg (kq119 hS) ?_
      refine bgr (by rw [lq119 hS]) (fun g39 => ?_)
      refine bc (eX12_layWide hS) (fun I40 hc41 => ?_)
      exact ih _ _ _
def gX12_write_l92  (σ : Shp) (J : Nat → Nat → Int64) (R : Nat → Nat → Option Nat) : Nat → (Nat → Nat → Int32) → (Int32) → (Int32) → Option ((Nat → Nat → Int32) × (Int32))
  | 0, _, _, _ => none
  | n + 1, I, x2, x3 =>
    if (64 : Int32) ≤ x3 then
      (gX12_layWide σ I R (0 : Int32) (4 : Int32) (Int32.toInt64 ((I 114 129) + (1 : Int32)))).bind fun I11 =>
      if ¬ (x2 < 0 ∨ 4100 ≤ Int32.toNatClampNeg x2) then
      if ¬ ((4 : Int32) < 0 ∨ 64 ≤ Int32.toNatClampNeg (4 : Int32)) then
      let I15 := u2 I11 201 (Int32.toNatClampNeg (4 : Int32)) (I11 116 (Int32.toNatClampNeg x2))
      if ¬ (x2 < 0 ∨ 4100 ≤ Int32.toNatClampNeg x2) then
      if ¬ ((5 : Int32) < 0 ∨ 64 ≤ Int32.toNatClampNeg (5 : Int32)) then
      let I18 := u2 I15 201 (Int32.toNatClampNeg (5 : Int32)) (I15 117 (Int32.toNatClampNeg x2))
      gX12_write_l150 σ J R FUx I18 x2 (0 : Int32)
      else none
      else none
      else none
      else none
    else
      if ¬ (x3 < 0 ∨ 64 ≤ Int32.toNatClampNeg x3) then
      let I44 := u2 I 201 (Int32.toNatClampNeg x3) (0 : Int32)
      let v45 := x3 + (1 : Int32)
      gX12_write_l92 σ J R n I44 x2 v45
      else none
theorem eX12_write_l92 {σ : Shp} {J : Nat → Nat → Int64} {R : Nat → Nat → Option Nat} (hS : Skel σ R) : ∀ (n : Nat) (I : Nat → Nat → Int32) (x2 : Int32) (x3 : Int32), fX12_write_l92 σ J R 114 n I x2 x3 = gX12_write_l92 σ J R n I x2 x3 := by
  intro n
  induction n with
  | zero => intro I x2 x3; rfl
  | succ n ih =>
    intro I x2 x3
    rw [fX12_write_l92, gX12_write_l92]
    refine bi (fun c => ?_) (fun c => ?_)
    · refine sg (kq114 hS) ?_
      refine bc (eX12_layWide hS) (fun I11 hc12 => ?_)
      refine sb (rq114_128 hS) ?_
      refine sb (rq114_4 hS) ?_
      refine sg (kq116 hS) ?_
      refine bgr (by rw [lq116 hS]) (fun g13 => ?_)
      refine sg (kq201 hS) ?_
      refine bgr (by rw [lq201 hS]) (fun g14 => ?_)
      refine sb (rq114_5 hS) ?_
      refine sg (kq117 hS) ?_
      refine bgr (by rw [lq117 hS]) (fun g16 => ?_)
      refine bgr (by rw [lq201 hS]) (fun g17 => ?_)
      exact eX12_write_l150 hS _ _ _ _
    · refine sg (kq114 hS) ?_
      refine sb (rq114_128 hS) ?_
      refine sg (kq201 hS) ?_
      refine bgr (by rw [lq201 hS]) (fun g43 => ?_)
      exact ih _ _ _
def gX12_write (σ : Shp) (I : Nat → Nat → Int32) (J : Nat → Nat → Int64) (R : Nat → Nat → Option Nat) (x1 : Int32) : Option ((Nat → Nat → Int32) × (Int32)) :=
  if (fX12_isBin x1) = 0 then
    some (I, (-2 : Int32))
  else
    if ¬ (x1 < 0 ∨ 16 ≤ Int32.toNatClampNeg x1) then
    let v2 := (I 115 (Int32.toNatClampNeg x1))
    if v2 = 0 then
      if v2 = 0 then
        (gX12_no I (1 : Int32)).bind fun (I6, r7) =>
        some (I6, r7)
      else
        (gX12_no I (4 : Int32)).bind fun (I3, r4) =>
        some (I3, r4)
    else
      if ¬ (v2 < 0 ∨ 4100 ≤ Int32.toNatClampNeg v2) then
      if (fX12_isPageLane (I 116 (Int32.toNatClampNeg v2))) = 0 then
        if v2 = 0 then
          (gX12_no I (1 : Int32)).bind fun (I49, r50) =>
          some (I49, r50)
        else
          (gX12_no I (4 : Int32)).bind fun (I46, r47) =>
          some (I46, r47)
      else
        if (I 114 131) = 0 then
          if ¬ (v2 < 0 ∨ 4100 ≤ Int32.toNatClampNeg v2) then
          if (6 : Int32) < (I 117 (Int32.toNatClampNeg v2)) then
            some (I, (-4 : Int32))
          else
            if (I 114 130) = (20 : Int32) then
              some (I, (-4 : Int32))
            else
              if (I 114 129) = (2147483647 : Int32) then
                some (I, (-4 : Int32))
              else
                gX12_write_l92 σ J R FUx I v2 (0 : Int32)
          else none
        else
          some (I, (-3 : Int32))
      else none
    else none
theorem eX12_write {σ : Shp} {I : Nat → Nat → Int32} {J : Nat → Nat → Int64} {R : Nat → Nat → Option Nat} {x1 : Int32} (hS : Skel σ R) : fX12_write σ I J R 114 x1 = gX12_write σ I J R x1 := by
  unfold fX12_write gX12_write
  refine bi (fun c => ?_) (fun c => ?_)
  · rfl
  · refine sg (kq114 hS) ?_
    refine sb (rq114_3 hS) ?_
    refine sg (kq115 hS) ?_
    refine bgr (by rw [lq115 hS]) (fun g1 => ?_)
    refine bi (fun c => ?_) (fun c => ?_)
    · refine bi (fun c => ?_) (fun c => ?_)
      · refine bc (eX12_no hS) (fun pp hc8 => ?_)
        obtain ⟨I6, r7⟩ := pp
        rfl
      · refine bc (eX12_no hS) (fun pp hc5 => ?_)
        obtain ⟨I3, r4⟩ := pp
        rfl
    · refine sb (rq114_4 hS) ?_
      refine sg (kq116 hS) ?_
      refine bgr (by rw [lq116 hS]) (fun g9 => ?_)
      refine bi (fun c => ?_) (fun c => ?_)
      · refine bi (fun c => ?_) (fun c => ?_)
        · refine bc (eX12_no hS) (fun pp hc51 => ?_)
          obtain ⟨I49, r50⟩ := pp
          rfl
        · refine bc (eX12_no hS) (fun pp hc48 => ?_)
          obtain ⟨I46, r47⟩ := pp
          rfl
      · refine bi (fun c => ?_) (fun c => ?_)
        · refine sb (rq114_5 hS) ?_
          refine sg (kq117 hS) ?_
          refine bgr (by rw [lq117 hS]) (fun g10 => ?_)
          refine bi (fun c => ?_) (fun c => ?_)
          · rfl
          · refine bi (fun c => ?_) (fun c => ?_)
            · rfl
            · refine bi (fun c => ?_) (fun c => ?_)
              · rfl
              · exact eX12_write_l92 hS _ _ _ _
        · rfl
def gX12_power (I : Nat → Nat → Int32) (x1 : Int32) : Option ((Nat → Nat → Int32) × (Int32)) :=
  if (fX12_in x1 (-1 : Int32) (200 : Int32)) = 0 then
    some (I, (-2 : Int32))
  else
    if (I 114 131) = 0 then
      let I1 := u2 I 114 132 x1
      some (I1, (1 : Int32))
    else
      some (I, (-3 : Int32))
theorem eX12_power {σ : Shp} {I : Nat → Nat → Int32} {R : Nat → Nat → Option Nat} {x1 : Int32} (hS : Skel σ R) : fX12_power σ I 114 x1 = gX12_power I x1 := by
  unfold fX12_power gX12_power
  refine bi (fun c => ?_) (fun c => ?_)
  · rfl
  · refine sg (kq114 hS) ?_
    refine bi (fun c => ?_) (fun c => ?_)
    · rfl
    · rfl
def gX12_numberOf (σ : Shp) (I : Nat → Nat → Int32) (x1 : Int32) : Option ((Int32)) :=
  (gX12_wide σ I (some 200) ((64 : Int32) * x1) (4 : Int32)).bind fun r1 =>
  some (Int64.toInt32 r1)
theorem eX12_numberOf {σ : Shp} {I : Nat → Nat → Int32} {R : Nat → Nat → Option Nat} {x1 : Int32} (hS : Skel σ R) : fX12_numberOf σ I R 114 x1 = gX12_numberOf σ I x1 := by
  unfold fX12_numberOf gX12_numberOf
  refine sg (kq114 hS) ?_
  refine sb (rq114_127 hS) ?_
  refine bc (eX12_wide hS) (fun r1 hc2 => ?_)
  rfl
def gX12_isWhole_l140  (σ : Shp) (I : Nat → Nat → Int32) (R : Nat → Nat → Option Nat) : Nat → (Int32) → (Int32) → (Int32) → (Int32) → (Int32) → Option ((Int32))
  | 0, _, _, _, _, _ => none
  | n + 1, x2, x3, x4, x5, x6 =>
    if x4 ≤ x6 then
      if x5 = 0 ∨ x5 = 1 then
      some x5
      else none
    else
      (gX12_wide σ I (some 200) ((x2 + (12 : Int32)) + ((8 : Int32) * x6)) (8 : Int32)).bind fun r13 =>
      if x5 = 0 then
        let v15 := x6 + (1 : Int32)
        gX12_isWhole_l140 σ I R n x2 x3 x4 (0 : Int32) v15
      else
        if (fX12_fitted x3 r13) = r13 then
          let v17 := x6 + (1 : Int32)
          gX12_isWhole_l140 σ I R n x2 x3 x4 (1 : Int32) v17
        else
          let v16 := x6 + (1 : Int32)
          gX12_isWhole_l140 σ I R n x2 x3 x4 (0 : Int32) v16
theorem eX12_isWhole_l140 {σ : Shp} {I : Nat → Nat → Int32} {R : Nat → Nat → Option Nat} (hS : Skel σ R) : ∀ (n : Nat) (x2 : Int32) (x3 : Int32) (x4 : Int32) (x5 : Int32) (x6 : Int32), fX12_isWhole_l140 σ I R 114 n x2 x3 x4 x5 x6 = gX12_isWhole_l140 σ I R n x2 x3 x4 x5 x6 := by
  intro n
  induction n with
  | zero => intro x2 x3 x4 x5 x6; rfl
  | succ n ih =>
    intro x2 x3 x4 x5 x6
    rw [fX12_isWhole_l140, gX12_isWhole_l140]
    refine bi (fun c => ?_) (fun c => ?_)
    · refine bg (fun g12 => ?_)
      rfl
    · refine sg (kq114 hS) ?_
      refine sb (rq114_127 hS) ?_
      refine bc (eX12_wide hS) (fun r13 hc14 => ?_)
      refine bi (fun c => ?_) (fun c => ?_)
      · exact ih _ _ _ _ _
      · refine bi (fun c => ?_) (fun c => ?_)
        · exact ih _ _ _ _ _
        · exact ih _ _ _ _ _
def gX12_isWhole_l80  (σ : Shp) (I : Nat → Nat → Int32) (R : Nat → Nat → Option Nat) : Nat → (Int32) → (Int32) → (Int32) → (Int32) → (Int32) → Option ((Int32))
  | 0, _, _, _, _, _ => none
  | n + 1, x2, x3, x4, x5, x6 =>
    if (60 : Int32) ≤ x6 then
      gX12_isWhole_l140 σ I R FUx x2 x3 x4 x5 (0 : Int32)
    else
      if x5 = 0 then
        let v18 := x6 + (1 : Int32)
        gX12_isWhole_l80 σ I R n x2 x3 x4 (0 : Int32) v18
      else
        if ¬ ((x2 + x6) < 0 ∨ 1280 ≤ Int32.toNatClampNeg (x2 + x6)) then
        if (I 200 (Int32.toNatClampNeg (x2 + x6))) = 0 then
          let v20 := x6 + (1 : Int32)
          gX12_isWhole_l80 σ I R n x2 x3 x4 (1 : Int32) v20
        else
          if x6 < (12 : Int32) then
            let v21 := x6 + (1 : Int32)
            gX12_isWhole_l80 σ I R n x2 x3 x4 (0 : Int32) v21
          else
            if ((12 : Int32) + ((8 : Int32) * x4)) ≤ x6 then
              let v22 := x6 + (1 : Int32)
              gX12_isWhole_l80 σ I R n x2 x3 x4 (0 : Int32) v22
            else
              let v23 := x6 + (1 : Int32)
              gX12_isWhole_l80 σ I R n x2 x3 x4 (1 : Int32) v23
        else none
theorem eX12_isWhole_l80 {σ : Shp} {I : Nat → Nat → Int32} {R : Nat → Nat → Option Nat} (hS : Skel σ R) : ∀ (n : Nat) (x2 : Int32) (x3 : Int32) (x4 : Int32) (x5 : Int32) (x6 : Int32), fX12_isWhole_l80 σ I R 114 n x2 x3 x4 x5 x6 = gX12_isWhole_l80 σ I R n x2 x3 x4 x5 x6 := by
  intro n
  induction n with
  | zero => intro x2 x3 x4 x5 x6; rfl
  | succ n ih =>
    intro x2 x3 x4 x5 x6
    rw [fX12_isWhole_l80, gX12_isWhole_l80]
    refine bi (fun c => ?_) (fun c => ?_)
    · exact eX12_isWhole_l140 hS _ _ _ _ _ _
    · refine bi (fun c => ?_) (fun c => ?_)
      · exact ih _ _ _ _ _
      · refine sg (kq114 hS) ?_
        refine sb (rq114_127 hS) ?_
        refine sg (kq200 hS) ?_
        refine bgr (by rw [lq200 hS]) (fun g19 => ?_)
        refine bi (fun c => ?_) (fun c => ?_)
        · exact ih _ _ _ _ _
        · refine bi (fun c => ?_) (fun c => ?_)
          · exact ih _ _ _ _ _
          · refine bi (fun c => ?_) (fun c => ?_)
            · exact ih _ _ _ _ _
            · exact ih _ _ _ _ _
def gX12_isWhole (σ : Shp) (I : Nat → Nat → Int32) (R : Nat → Nat → Option Nat) (x1 : Int32) : Option ((Int32)) :=
  let v1 := ((64 : Int32) * x1)
  if ¬ ((v1 + (4 : Int32)) < 0 ∨ 1280 ≤ Int32.toNatClampNeg (v1 + (4 : Int32))) then
  let v3 := (I 200 (Int32.toNatClampNeg (v1 + (4 : Int32))))
  if ¬ ((v1 + (5 : Int32)) < 0 ∨ 1280 ≤ Int32.toNatClampNeg (v1 + (5 : Int32))) then
  let v5 := (I 200 (Int32.toNatClampNeg (v1 + (5 : Int32))))
  (gX12_numberOf σ I x1).bind fun r6 =>
  if r6 < (1 : Int32) then
    some (0 : Int32)
  else
    if (fX12_isPageLane v3) = 0 then
      some (0 : Int32)
    else
      if (6 : Int32) < v5 then
        some (0 : Int32)
      else
        (gX12_wide σ I (some 200) (v1 + (60 : Int32)) (4 : Int32)).bind fun r8 =>
        (gX12_sumOf σ I (some 200) v1).bind fun r10 =>
        if (Int64.toInt32 r8) = r10 then
          gX12_isWhole_l80 σ I R FUx v1 v3 v5 (1 : Int32) (6 : Int32)
        else
          some (0 : Int32)
  else none
  else none
theorem eX12_isWhole {σ : Shp} {I : Nat → Nat → Int32} {R : Nat → Nat → Option Nat} {x1 : Int32} (hS : Skel σ R) : fX12_isWhole σ I R 114 x1 = gX12_isWhole σ I R x1 := by
  unfold fX12_isWhole gX12_isWhole
  refine sg (kq114 hS) ?_
  refine sb (rq114_127 hS) ?_
  refine sg (kq200 hS) ?_
  refine bgr (by rw [lq200 hS]) (fun g2 => ?_)
  refine bgr (by rw [lq200 hS]) (fun g4 => ?_)
  refine bc (eX12_numberOf hS) (fun r6 hc7 => ?_)
  refine bi (fun c => ?_) (fun c => ?_)
  · rfl
  · refine bi (fun c => ?_) (fun c => ?_)
    · rfl
    · refine bi (fun c => ?_) (fun c => ?_)
      · rfl
      · refine bc (eX12_wide hS) (fun r8 hc9 => ?_)
        refine bc (eX12_sumOf hS) (fun r10 hc11 => ?_)
        refine bi (fun c => ?_) (fun c => ?_)
        · exact eX12_isWhole_l80 hS _ _ _ _ _ _
        · rfl
def gX12_pageOf_l2  (σ : Shp) (I : Nat → Nat → Int32) (R : Nat → Nat → Option Nat) : Nat → (Int32) → (Int32) → Option ((Int32))
  | 0, _, _ => none
  | n + 1, x1, x2 =>
    if (20 : Int32) ≤ x2 then
      some (-1 : Int32)
    else
      (gX12_isWhole σ I R x2).bind fun r1 =>
      if r1 = 0 then
        let v3 := x2 + (1 : Int32)
        gX12_pageOf_l2 σ I R n x1 v3
      else
        (gX12_numberOf σ I x2).bind fun r4 =>
        if r4 = x1 then
          some x2
        else
          let v6 := x2 + (1 : Int32)
          gX12_pageOf_l2 σ I R n x1 v6
theorem eX12_pageOf_l2 {σ : Shp} {I : Nat → Nat → Int32} {R : Nat → Nat → Option Nat} (hS : Skel σ R) : ∀ (n : Nat) (x1 : Int32) (x2 : Int32), fX12_pageOf_l2 σ I R 114 n x1 x2 = gX12_pageOf_l2 σ I R n x1 x2 := by
  intro n
  induction n with
  | zero => intro x1 x2; rfl
  | succ n ih =>
    intro x1 x2
    rw [fX12_pageOf_l2, gX12_pageOf_l2]
    refine bi (fun c => ?_) (fun c => ?_)
    · rfl
    · refine sg (kq114 hS) ?_
      refine bc (eX12_isWhole hS) (fun r1 hc2 => ?_)
      refine bi (fun c => ?_) (fun c => ?_)
      · exact ih _ _
      · refine bc (eX12_numberOf hS) (fun r4 hc5 => ?_)
        refine bi (fun c => ?_) (fun c => ?_)
        · rfl
        · exact ih _ _
def gX12_pageOf (σ : Shp) (I : Nat → Nat → Int32) (R : Nat → Nat → Option Nat) (x1 : Int32) : Option ((Int32)) :=
  gX12_pageOf_l2 σ I R FUx x1 (0 : Int32)
theorem eX12_pageOf {σ : Shp} {I : Nat → Nat → Int32} {R : Nat → Nat → Option Nat} {x1 : Int32} (hS : Skel σ R) : fX12_pageOf σ I R 114 x1 = gX12_pageOf σ I R x1 := by
  unfold fX12_pageOf gX12_pageOf
  exact eX12_pageOf_l2 hS _ _ _
def gX12_above_b27 (q4 : (Int32) → (Int32) → (Int32) → (Option ((Int32)))) (σ : Shp) (I : Nat → Nat → Int32) (R : Nat → Nat → Option Nat) (x1 : Int32) (x2 : Int32) (x3 : Int32) (s0 : Int32) : Option ((Int32)) :=
  if s0 ≤ x1 then
    let v3 := x3 + (1 : Int32)
    q4 x1 x2 v3
  else
    if x2 = 0 then
      let v4 := x3 + (1 : Int32)
      q4 x1 s0 v4
    else
      if x2 ≤ s0 then
        let v5 := x3 + (1 : Int32)
        q4 x1 x2 v5
      else
        let v6 := x3 + (1 : Int32)
        q4 x1 s0 v6
theorem eX12_above_b27 {σ : Shp} {I : Nat → Nat → Int32} {R : Nat → Nat → Option Nat} {x1 : Int32} {x2 : Int32} {x3 : Int32} {s0 : Int32} (hS : Skel σ R) {qf4 q4 : (Int32) → (Int32) → (Int32) → (Option ((Int32)))} (hq4 : ∀ (x1 : Int32) (x2 : Int32) (x3 : Int32), qf4 x1 x2 x3 = q4 x1 x2 x3) : fX12_above_b27 qf4 σ I R 114 x1 x2 x3 s0 = gX12_above_b27 q4 σ I R x1 x2 x3 s0 := by
  unfold fX12_above_b27 gX12_above_b27
  refine bi (fun c => ?_) (fun c => ?_)
  · exact hq4 _ _ _
  · refine bi (fun c => ?_) (fun c => ?_)
    · exact hq4 _ _ _
    · refine bi (fun c => ?_) (fun c => ?_)
      · exact hq4 _ _ _
      · exact hq4 _ _ _
def gX12_above_l4  (σ : Shp) (I : Nat → Nat → Int32) (R : Nat → Nat → Option Nat) : Nat → (Int32) → (Int32) → (Int32) → Option ((Int32))
  | 0, _, _, _ => none
  | n + 1, x1, x2, x3 =>
    if (20 : Int32) ≤ x3 then
      some x2
    else
      (gX12_isWhole σ I R x3).bind fun r1 =>
      if r1 = 0 then
        gX12_above_b27 (gX12_above_l4 σ I R n) σ I R x1 x2 x3 (0 : Int32)
      else
        (gX12_numberOf σ I x3).bind fun r7 =>
        gX12_above_b27 (gX12_above_l4 σ I R n) σ I R x1 x2 x3 r7
theorem eX12_above_l4 {σ : Shp} {I : Nat → Nat → Int32} {R : Nat → Nat → Option Nat} (hS : Skel σ R) : ∀ (n : Nat) (x1 : Int32) (x2 : Int32) (x3 : Int32), fX12_above_l4 σ I R 114 n x1 x2 x3 = gX12_above_l4 σ I R n x1 x2 x3 := by
  intro n
  induction n with
  | zero => intro x1 x2 x3; rfl
  | succ n ih =>
    intro x1 x2 x3
    rw [fX12_above_l4, gX12_above_l4]
    refine bi (fun c => ?_) (fun c => ?_)
    · rfl
    · refine sg (kq114 hS) ?_
      refine bc (eX12_isWhole hS) (fun r1 hc2 => ?_)
      refine bi (fun c => ?_) (fun c => ?_)
      · exact eX12_above_b27 hS ih
      · refine bc (eX12_numberOf hS) (fun r7 hc8 => ?_)
        exact eX12_above_b27 hS ih
def gX12_above (σ : Shp) (I : Nat → Nat → Int32) (R : Nat → Nat → Option Nat) (x1 : Int32) : Option ((Int32)) :=
  gX12_above_l4 σ I R FUx x1 (0 : Int32) (0 : Int32)
theorem eX12_above {σ : Shp} {I : Nat → Nat → Int32} {R : Nat → Nat → Option Nat} {x1 : Int32} (hS : Skel σ R) : fX12_above σ I R 114 x1 = gX12_above σ I R x1 := by
  unfold fX12_above gX12_above
  exact eX12_above_l4 hS _ _ _ _
def gX12_readMany_l8  (σ : Shp) (I : Nat → Nat → Int32) (R : Nat → Nat → Option Nat) : Nat → (Int32) → (Int32) → Option ((Int32))
  | 0, _, _ => none
  | n + 1, x1, x2 =>
    if x2 ≤ 0 then
      some x1
    else
      let v3 := x1 + (1 : Int32)
      (gX12_above σ I R x2).bind fun r4 =>
      gX12_readMany_l8 σ I R n v3 r4
theorem eX12_readMany_l8 {σ : Shp} {I : Nat → Nat → Int32} {R : Nat → Nat → Option Nat} (hS : Skel σ R) : ∀ (n : Nat) (x1 : Int32) (x2 : Int32), fX12_readMany_l8 σ I R 114 n x1 x2 = gX12_readMany_l8 σ I R n x1 x2 := by
  intro n
  induction n with
  | zero => intro x1 x2; rfl
  | succ n ih =>
    intro x1 x2
    rw [fX12_readMany_l8, gX12_readMany_l8]
    refine bi (fun c => ?_) (fun c => ?_)
    · rfl
    · refine sg (kq114 hS) ?_
      refine bc (eX12_above hS) (fun r4 hc5 => ?_)
      exact ih _ _
def gX12_readMany (σ : Shp) (I : Nat → Nat → Int32) (R : Nat → Nat → Option Nat) : Option ((Int32)) :=
  (gX12_above σ I R (0 : Int32)).bind fun r1 =>
  gX12_readMany_l8 σ I R FUx (0 : Int32) r1
theorem eX12_readMany {σ : Shp} {I : Nat → Nat → Int32} {R : Nat → Nat → Option Nat}  (hS : Skel σ R) : fX12_readMany σ I R 114 = gX12_readMany σ I R := by
  unfold fX12_readMany gX12_readMany
  refine sg (kq114 hS) ?_
  refine bc (eX12_above hS) (fun r1 hc2 => ?_)
  exact eX12_readMany_l8 hS _ _ _
def gX12_open1_b83 (q22 : (Nat → Nat → Int32) → (Int32) → (Option ((Nat → Nat → Int32) × (Int32)))) (σ : Shp) (R : Nat → Nat → Option Nat) (I : Nat → Nat → Int32) (x1 : Int32) (s0 : Option Nat) (s1 : Int32) : Option ((Nat → Nat → Int32) × (Int32)) :=
  (s0 : Option Nat).bind fun a7 =>
  if kdx σ a7 = 13 then
  let I9 := u2 I a7 130 s1
  (gX12_isWhole σ I9 R x1).bind fun r10 =>
  if r10 = 0 then
    let I12 := u2 I9 114 129 (I9 114 129)
    let v13 := x1 + (1 : Int32)
    q22 I12 v13
  else
    (gX12_numberOf σ I9 x1).bind fun r14 =>
    if r14 ≤ (I9 114 129) then
      let I16 := u2 I9 114 129 (I9 114 129)
      let v17 := x1 + (1 : Int32)
      q22 I16 v17
    else
      (gX12_numberOf σ I9 x1).bind fun r18 =>
      let I20 := u2 I9 114 129 r18
      let v21 := x1 + (1 : Int32)
      q22 I20 v21
  else none
theorem eX12_open1_b83 {σ : Shp} {I : Nat → Nat → Int32} {R : Nat → Nat → Option Nat} {x1 : Int32} {s0 : Option Nat} {s1 : Int32} (hS : Skel σ R) {qf22 q22 : (Nat → Nat → Int32) → (Int32) → (Option ((Nat → Nat → Int32) × (Int32)))} (hq22 : ∀ (I : Nat → Nat → Int32) (x1 : Int32), qf22 I x1 = q22 I x1) : fX12_open1_b83 qf22 σ R 114 I x1 s0 s1 = gX12_open1_b83 q22 σ R I x1 s0 s1 := by
  unfold fX12_open1_b83 gX12_open1_b83
  refine bb (fun a7 ha7 => ?_)
  refine bg (fun g8 => ?_)
  refine sg (kq114 hS) ?_
  refine bc (eX12_isWhole hS) (fun r10 hc11 => ?_)
  refine bi (fun c => ?_) (fun c => ?_)
  · exact hq22 _ _
  · refine bc (eX12_numberOf hS) (fun r14 hc15 => ?_)
    refine bi (fun c => ?_) (fun c => ?_)
    · exact hq22 _ _
    · refine bc (eX12_numberOf hS) (fun r18 hc19 => ?_)
      exact hq22 _ _
def gX12_open1_l32 (q22 : (Nat → Nat → Int32) → (Int32) → (Option ((Nat → Nat → Int32) × (Int32)))) (σ : Shp) (R : Nat → Nat → Option Nat) : Nat → (Nat → Nat → Int32) → (Int32) → (Int32) → (Int32) → Option ((Nat → Nat → Int32) × (Int32))
  | 0, _, _, _, _ => none
  | n + 1, I, x1, x2, x3 =>
    if (64 : Int32) ≤ x3 then
      if x2 = 0 then
        gX12_open1_b83 q22 σ R I x1 (some 114) (I 114 130)
      else
        gX12_open1_b83 q22 σ R I x1 (some 114) (x1 + (1 : Int32))
    else
      if x2 = 0 then
        if ¬ ((((64 : Int32) * x1) + x3) < 0 ∨ 1280 ≤ Int32.toNatClampNeg (((64 : Int32) * x1) + x3)) then
        if (I 200 (Int32.toNatClampNeg (((64 : Int32) * x1) + x3))) = 0 then
          let v24 := x3 + (1 : Int32)
          gX12_open1_l32 q22 σ R n I x1 (0 : Int32) v24
        else
          let v25 := x3 + (1 : Int32)
          gX12_open1_l32 q22 σ R n I x1 (1 : Int32) v25
        else none
      else
        let v22 := x3 + (1 : Int32)
        gX12_open1_l32 q22 σ R n I x1 (1 : Int32) v22
theorem eX12_open1_l32 {σ : Shp} {R : Nat → Nat → Option Nat} (hS : Skel σ R) {qf22 q22 : (Nat → Nat → Int32) → (Int32) → (Option ((Nat → Nat → Int32) × (Int32)))} (hq22 : ∀ (I : Nat → Nat → Int32) (x1 : Int32), qf22 I x1 = q22 I x1) : ∀ (n : Nat) (I : Nat → Nat → Int32) (x1 : Int32) (x2 : Int32) (x3 : Int32), fX12_open1_l32 qf22 σ R 114 n I x1 x2 x3 = gX12_open1_l32 q22 σ R n I x1 x2 x3 := by
  intro n
  induction n with
  | zero => intro I x1 x2 x3; rfl
  | succ n ih =>
    intro I x1 x2 x3
    rw [fX12_open1_l32, gX12_open1_l32]
    refine bi (fun c => ?_) (fun c => ?_)
    · refine bi (fun c => ?_) (fun c => ?_)
      · refine sg (kq114 hS) ?_
        exact eX12_open1_b83 hS hq22
      · exact eX12_open1_b83 hS hq22
    · refine bi (fun c => ?_) (fun c => ?_)
      · refine sg (kq114 hS) ?_
        refine sb (rq114_127 hS) ?_
        refine sg (kq200 hS) ?_
        refine bgr (by rw [lq200 hS]) (fun g23 => ?_)
        refine bi (fun c => ?_) (fun c => ?_)
        · exact ih _ _ _ _
        · exact ih _ _ _ _
      · exact ih _ _ _ _
def gX12_open1_l22  (σ : Shp) (R : Nat → Nat → Option Nat) : Nat → (Nat → Nat → Int32) → (Int32) → Option ((Nat → Nat → Int32) × (Int32))
  | 0, _, _ => none
  | n + 1, I, x1 =>
    if (20 : Int32) ≤ x1 then
      (gX12_readMany σ I R).bind fun r5 =>
      some (I, r5)
    else
      gX12_open1_l32 (gX12_open1_l22 σ R n) σ R FUx I x1 (0 : Int32) (0 : Int32)
theorem eX12_open1_l22 {σ : Shp} {R : Nat → Nat → Option Nat} (hS : Skel σ R) : ∀ (n : Nat) (I : Nat → Nat → Int32) (x1 : Int32), fX12_open1_l22 σ R 114 n I x1 = gX12_open1_l22 σ R n I x1 := by
  intro n
  induction n with
  | zero => intro I x1; rfl
  | succ n ih =>
    intro I x1
    rw [fX12_open1_l22, gX12_open1_l22]
    refine bi (fun c => ?_) (fun c => ?_)
    · refine sg (kq114 hS) ?_
      refine bc (eX12_readMany hS) (fun r5 hc6 => ?_)
      rfl
    · exact eX12_open1_l32 hS ih _ _ _ _ _
def gX12_open1 (σ : Shp) (I : Nat → Nat → Int32) (R : Nat → Nat → Option Nat) : Option ((Nat → Nat → Int32) × (Int32)) :=
  let I1 := u2 I 114 131 (0 : Int32)
  let I2 := u2 I1 114 132 (-1 : Int32)
  let I3 := u2 I2 114 129 (0 : Int32)
  let I4 := u2 I3 114 130 (0 : Int32)
  gX12_open1_l22 σ R FUx I4 (0 : Int32)
theorem eX12_open1 {σ : Shp} {I : Nat → Nat → Int32} {R : Nat → Nat → Option Nat}  (hS : Skel σ R) : fX12_open1 σ I R 114 = gX12_open1 σ I R := by
  unfold fX12_open1 gX12_open1
  refine sg (kq114 hS) ?_
  exact eX12_open1_l22 hS _ _ _
def gX12_page_b109  (σ : Shp) (I : Nat → Nat → Int32) (R : Nat → Nat → Option Nat) (x2 : Int32) (x3 : Int32) (x4 : Int32) (x5 : Int32) : Option ((Int64)) :=
  if x2 = 0 then
    some (Int32.toInt64 x4)
  else
    if x2 = (1 : Int32) then
      some (Int32.toInt64 x3)
    else
      if x2 = (2 : Int32) then
        if ¬ ((((64 : Int32) * x4) + (4 : Int32)) < 0 ∨ 1280 ≤ Int32.toNatClampNeg (((64 : Int32) * x4) + (4 : Int32))) then
        some (Int32.toInt64 (I 200 (Int32.toNatClampNeg (((64 : Int32) * x4) + (4 : Int32)))))
        else none
      else
        if x2 = (3 : Int32) then
          some (Int32.toInt64 x5)
        else
          some (-1 : Int64)
theorem eX12_page_b109 {σ : Shp} {I : Nat → Nat → Int32} {R : Nat → Nat → Option Nat} {x2 : Int32} {x3 : Int32} {x4 : Int32} {x5 : Int32} (hS : Skel σ R) : fX12_page_b109 σ I R 114 x2 x3 x4 x5 = gX12_page_b109 σ I R x2 x3 x4 x5 := by
  unfold fX12_page_b109 gX12_page_b109
  refine bi (fun c => ?_) (fun c => ?_)
  · rfl
  · refine bi (fun c => ?_) (fun c => ?_)
    · rfl
    · refine bi (fun c => ?_) (fun c => ?_)
      · refine sg (kq114 hS) ?_
        refine sb (rq114_127 hS) ?_
        refine sg (kq200 hS) ?_
        refine bgr (by rw [lq200 hS]) (fun g7 => ?_)
        rfl
      · refine bi (fun c => ?_) (fun c => ?_)
        · rfl
        · rfl
def gX12_page_b39  (σ : Shp) (I : Nat → Nat → Int32) (R : Nat → Nat → Option Nat) (x2 : Int32) (x3 : Int32) : Option ((Int64)) :=
  if x3 = 0 then
    some (-1 : Int64)
  else
    (gX12_pageOf σ I R x3).bind fun r3 =>
    if ¬ ((((64 : Int32) * r3) + (5 : Int32)) < 0 ∨ 1280 ≤ Int32.toNatClampNeg (((64 : Int32) * r3) + (5 : Int32))) then
    let v6 := (I 200 (Int32.toNatClampNeg (((64 : Int32) * r3) + (5 : Int32))))
    if x2 < (10 : Int32) then
      gX12_page_b109 σ I R x2 x3 r3 v6
    else
      if v6 ≤ (x2 - (10 : Int32)) then
        gX12_page_b109 σ I R x2 x3 r3 v6
      else
        (gX12_wide σ I (some 200) ((((64 : Int32) * r3) + (12 : Int32)) + ((8 : Int32) * (x2 - (10 : Int32)))) (8 : Int32)).bind fun r8 =>
        some r8
    else none
theorem eX12_page_b39 {σ : Shp} {I : Nat → Nat → Int32} {R : Nat → Nat → Option Nat} {x2 : Int32} {x3 : Int32} (hS : Skel σ R) : fX12_page_b39 σ I R 114 x2 x3 = gX12_page_b39 σ I R x2 x3 := by
  unfold fX12_page_b39 gX12_page_b39
  refine bi (fun c => ?_) (fun c => ?_)
  · rfl
  · refine sg (kq114 hS) ?_
    refine bc (eX12_pageOf hS) (fun r3 hc4 => ?_)
    refine sb (rq114_127 hS) ?_
    refine sg (kq200 hS) ?_
    refine bgr (by rw [lq200 hS]) (fun g5 => ?_)
    refine bi (fun c => ?_) (fun c => ?_)
    · exact eX12_page_b109 hS
    · refine bi (fun c => ?_) (fun c => ?_)
      · exact eX12_page_b109 hS
      · refine bc (eX12_wide hS) (fun r8 hc9 => ?_)
        rfl
def gX12_page_l17  (σ : Shp) (I : Nat → Nat → Int32) (R : Nat → Nat → Option Nat) : Nat → (Int32) → (Int32) → (Int32) → (Int32) → Option ((Int64))
  | 0, _, _, _, _ => none
  | n + 1, x1, x2, x3, x4 =>
    if x1 ≤ x4 then
      gX12_page_b39 σ I R x2 x3
    else
      if x3 ≤ 0 then
        gX12_page_b39 σ I R x2 x3
      else
        (gX12_above σ I R x3).bind fun r10 =>
        let v12 := x4 + (1 : Int32)
        gX12_page_l17 σ I R n x1 x2 r10 v12
theorem eX12_page_l17 {σ : Shp} {I : Nat → Nat → Int32} {R : Nat → Nat → Option Nat} (hS : Skel σ R) : ∀ (n : Nat) (x1 : Int32) (x2 : Int32) (x3 : Int32) (x4 : Int32), fX12_page_l17 σ I R 114 n x1 x2 x3 x4 = gX12_page_l17 σ I R n x1 x2 x3 x4 := by
  intro n
  induction n with
  | zero => intro x1 x2 x3 x4; rfl
  | succ n ih =>
    intro x1 x2 x3 x4
    rw [fX12_page_l17, gX12_page_l17]
    refine bi (fun c => ?_) (fun c => ?_)
    · exact eX12_page_b39 hS
    · refine bi (fun c => ?_) (fun c => ?_)
      · exact eX12_page_b39 hS
      · refine sg (kq114 hS) ?_
        refine bc (eX12_above hS) (fun r10 hc11 => ?_)
        exact ih _ _ _ _
def gX12_page (σ : Shp) (I : Nat → Nat → Int32) (R : Nat → Nat → Option Nat) (x1 : Int32) (x2 : Int32) : Option ((Int64)) :=
  if 0 ≤ x1 then
    (gX12_above σ I R (0 : Int32)).bind fun r1 =>
    gX12_page_l17 σ I R FUx x1 x2 r1 (0 : Int32)
  else
    some (-1 : Int64)
theorem eX12_page {σ : Shp} {I : Nat → Nat → Int32} {R : Nat → Nat → Option Nat} {x1 : Int32} {x2 : Int32} (hS : Skel σ R) : fX12_page σ I R 114 x1 x2 = gX12_page σ I R x1 x2 := by
  unfold fX12_page gX12_page
  refine bi (fun c => ?_) (fun c => ?_)
  · refine sg (kq114 hS) ?_
    refine bc (eX12_above hS) (fun r1 hc2 => ?_)
    exact eX12_page_l17 hS _ _ _ _ _
  · rfl
def gX12_clash_l34 (q4 : (Int32) → (Int32) → (Option ((Int32)))) (σ : Shp) (I : Nat → Nat → Int32) (R : Nat → Nat → Option Nat) : Nat → (Int32) → (Int32) → (Int32) → (Int32) → (Int32) → Option ((Int32))
  | 0, _, _, _, _, _ => none
  | n + 1, x1, x2, x3, x4, x5 =>
    if (64 : Int32) ≤ x5 then
      if x4 = 0 then
        let v8 := (x1 + (0 : Int32))
        let v9 := x2 + (1 : Int32)
        q4 v8 v9
      else
        let v10 := (x1 + (1 : Int32))
        let v11 := x2 + (1 : Int32)
        q4 v10 v11
    else
      if x4 = 0 then
        if ¬ ((((64 : Int32) * x2) + x5) < 0 ∨ 1280 ≤ Int32.toNatClampNeg (((64 : Int32) * x2) + x5)) then
        if ¬ ((((64 : Int32) * x3) + x5) < 0 ∨ 1280 ≤ Int32.toNatClampNeg (((64 : Int32) * x3) + x5)) then
        if (I 200 (Int32.toNatClampNeg (((64 : Int32) * x2) + x5))) = (I 200 (Int32.toNatClampNeg (((64 : Int32) * x3) + x5))) then
          let v15 := x5 + (1 : Int32)
          gX12_clash_l34 q4 σ I R n x1 x2 x3 (0 : Int32) v15
        else
          let v16 := x5 + (1 : Int32)
          gX12_clash_l34 q4 σ I R n x1 x2 x3 (1 : Int32) v16
        else none
        else none
      else
        let v12 := x5 + (1 : Int32)
        gX12_clash_l34 q4 σ I R n x1 x2 x3 (1 : Int32) v12
theorem eX12_clash_l34 {σ : Shp} {I : Nat → Nat → Int32} {R : Nat → Nat → Option Nat} (hS : Skel σ R) {qf4 q4 : (Int32) → (Int32) → (Option ((Int32)))} (hq4 : ∀ (x1 : Int32) (x2 : Int32), qf4 x1 x2 = q4 x1 x2) : ∀ (n : Nat) (x1 : Int32) (x2 : Int32) (x3 : Int32) (x4 : Int32) (x5 : Int32), fX12_clash_l34 qf4 σ I R 114 n x1 x2 x3 x4 x5 = gX12_clash_l34 q4 σ I R n x1 x2 x3 x4 x5 := by
  intro n
  induction n with
  | zero => intro x1 x2 x3 x4 x5; rfl
  | succ n ih =>
    intro x1 x2 x3 x4 x5
    rw [fX12_clash_l34, gX12_clash_l34]
    refine bi (fun c => ?_) (fun c => ?_)
    · refine bi (fun c => ?_) (fun c => ?_)
      · exact hq4 _ _
      · exact hq4 _ _
    · refine bi (fun c => ?_) (fun c => ?_)
      · refine sg (kq114 hS) ?_
        refine sb (rq114_127 hS) ?_
        refine sg (kq200 hS) ?_
        refine bgr (by rw [lq200 hS]) (fun g13 => ?_)
        refine bgr (by rw [lq200 hS]) (fun g14 => ?_)
        refine bi (fun c => ?_) (fun c => ?_)
        · exact ih _ _ _ _ _
        · exact ih _ _ _ _ _
      · exact ih _ _ _ _ _
def gX12_clash_l4  (σ : Shp) (I : Nat → Nat → Int32) (R : Nat → Nat → Option Nat) : Nat → (Int32) → (Int32) → Option ((Int32))
  | 0, _, _ => none
  | n + 1, x1, x2 =>
    if (20 : Int32) ≤ x2 then
      some x1
    else
      (gX12_isWhole σ I R x2).bind fun r1 =>
      if r1 = 0 then
        let v3 := x2 + (1 : Int32)
        gX12_clash_l4 σ I R n x1 v3
      else
        (gX12_numberOf σ I x2).bind fun r4 =>
        (gX12_pageOf σ I R r4).bind fun r6 =>
        gX12_clash_l34 (gX12_clash_l4 σ I R n) σ I R FUx x1 x2 r6 (0 : Int32) (0 : Int32)
theorem eX12_clash_l4 {σ : Shp} {I : Nat → Nat → Int32} {R : Nat → Nat → Option Nat} (hS : Skel σ R) : ∀ (n : Nat) (x1 : Int32) (x2 : Int32), fX12_clash_l4 σ I R 114 n x1 x2 = gX12_clash_l4 σ I R n x1 x2 := by
  intro n
  induction n with
  | zero => intro x1 x2; rfl
  | succ n ih =>
    intro x1 x2
    rw [fX12_clash_l4, gX12_clash_l4]
    refine bi (fun c => ?_) (fun c => ?_)
    · rfl
    · refine sg (kq114 hS) ?_
      refine bc (eX12_isWhole hS) (fun r1 hc2 => ?_)
      refine bi (fun c => ?_) (fun c => ?_)
      · exact ih _ _
      · refine bc (eX12_numberOf hS) (fun r4 hc5 => ?_)
        refine bc (eX12_pageOf hS) (fun r6 hc7 => ?_)
        exact eX12_clash_l34 hS ih _ _ _ _ _ _
def gX12_clash (σ : Shp) (I : Nat → Nat → Int32) (R : Nat → Nat → Option Nat) : Option ((Int32)) :=
  gX12_clash_l4 σ I R FUx (0 : Int32) (0 : Int32)
theorem eX12_clash {σ : Shp} {I : Nat → Nat → Int32} {R : Nat → Nat → Option Nat}  (hS : Skel σ R) : fX12_clash σ I R 114 = gX12_clash σ I R := by
  unfold fX12_clash gX12_clash
  exact eX12_clash_l4 hS _ _ _
def gX12_octet (I : Nat → Nat → Int32) (x1 : Int32) (x2 : Int32) : Option ((Int32)) :=
  if (fX12_in x1 (0 : Int32) (19 : Int32)) = 0 then
    some (-2 : Int32)
  else
    if (fX12_in x2 (0 : Int32) (63 : Int32)) = 0 then
      some (-2 : Int32)
    else
      if ¬ ((((64 : Int32) * x1) + x2) < 0 ∨ 1280 ≤ Int32.toNatClampNeg (((64 : Int32) * x1) + x2)) then
      some (I 200 (Int32.toNatClampNeg (((64 : Int32) * x1) + x2)))
      else none
theorem eX12_octet {σ : Shp} {I : Nat → Nat → Int32} {R : Nat → Nat → Option Nat} {x1 : Int32} {x2 : Int32} (hS : Skel σ R) : fX12_octet σ I R 114 x1 x2 = gX12_octet I x1 x2 := by
  unfold fX12_octet gX12_octet
  refine bi (fun c => ?_) (fun c => ?_)
  · rfl
  · refine bi (fun c => ?_) (fun c => ?_)
    · rfl
    · refine sg (kq114 hS) ?_
      refine sb (rq114_127 hS) ?_
      refine sg (kq200 hS) ?_
      refine bgr (by rw [lq200 hS]) (fun g1 => ?_)
      rfl
def gX12_damage (I : Nat → Nat → Int32) (x1 : Int32) (x2 : Int32) (x3 : Int32) : Option ((Nat → Nat → Int32) × (Int32)) :=
  if (fX12_in x1 (0 : Int32) (19 : Int32)) = 0 then
    some (I, (-2 : Int32))
  else
    if (fX12_in x2 (0 : Int32) (63 : Int32)) = 0 then
      some (I, (-2 : Int32))
    else
      if (fX12_in x3 (0 : Int32) (255 : Int32)) = 0 then
        some (I, (-2 : Int32))
      else
        if ¬ ((((64 : Int32) * x1) + x2) < 0 ∨ 1280 ≤ Int32.toNatClampNeg (((64 : Int32) * x1) + x2)) then
        let I2 := u2 I 200 (Int32.toNatClampNeg (((64 : Int32) * x1) + x2)) ((I 200 (Int32.toNatClampNeg (((64 : Int32) * x1) + x2))) ^^^ x3)
        some (I2, (I2 200 (Int32.toNatClampNeg (((64 : Int32) * x1) + x2))))
        else none
theorem eX12_damage {σ : Shp} {I : Nat → Nat → Int32} {R : Nat → Nat → Option Nat} {x1 : Int32} {x2 : Int32} {x3 : Int32} (hS : Skel σ R) : fX12_damage σ I R 114 x1 x2 x3 = gX12_damage I x1 x2 x3 := by
  unfold fX12_damage gX12_damage
  refine bi (fun c => ?_) (fun c => ?_)
  · rfl
  · refine bi (fun c => ?_) (fun c => ?_)
    · rfl
    · refine bi (fun c => ?_) (fun c => ?_)
      · rfl
      · refine sg (kq114 hS) ?_
        refine sb (rq114_127 hS) ?_
        refine sg (kq200 hS) ?_
        refine bgr (by rw [lq200 hS]) (fun g1 => ?_)
        rfl
def gX12_told (σ : Shp) (I : Nat → Nat → Int32) (R : Nat → Nat → Option Nat) (x1 : Int32) : Option ((Int32)) :=
  if x1 = (0 : Int32) then
    some (I 114 85)
  else
  if x1 = (1 : Int32) then
    some (I 114 0)
  else
  if x1 = (2 : Int32) then
    some (I 114 1)
  else
  if x1 = (3 : Int32) then
    some (I 114 129)
  else
  if x1 = (4 : Int32) then
    some (I 114 130)
  else
  if x1 = (5 : Int32) then
    if (I 114 131) = 0 then
      some (0 : Int32)
    else
      some (1 : Int32)
  else
  if x1 = (6 : Int32) then
    (gX12_clash σ I R).bind fun r18 =>
    some r18
  else
  if x1 = (7 : Int32) then
    some (I 114 125)
  else
  if x1 = (8 : Int32) then
    (gX12_readMany σ I R).bind fun r16 =>
    some r16
  else
  if x1 = (9 : Int32) then
    if ¬ ((0 : Int32) < 0 ∨ 4 ≤ Int32.toNatClampNeg (0 : Int32)) then
    if ¬ ((1 : Int32) < 0 ∨ 4 ≤ Int32.toNatClampNeg (1 : Int32)) then
    if ¬ ((2 : Int32) < 0 ∨ 4 ≤ Int32.toNatClampNeg (2 : Int32)) then
    if ¬ ((3 : Int32) < 0 ∨ 4 ≤ Int32.toNatClampNeg (3 : Int32)) then
    some ((((I 134 (Int32.toNatClampNeg (0 : Int32))) + (I 134 (Int32.toNatClampNeg (1 : Int32)))) + (I 134 (Int32.toNatClampNeg (2 : Int32)))) + (I 134 (Int32.toNatClampNeg (3 : Int32))))
    else none
    else none
    else none
    else none
  else
  if x1 = (10 : Int32) then
    some (I 114 83)
  else
  some (-2 : Int32)
theorem eX12_told {σ : Shp} {I : Nat → Nat → Int32} {R : Nat → Nat → Option Nat} {x1 : Int32} (hS : Skel σ R) : fX12_told σ I R 114 x1 = gX12_told σ I R x1 := by
  unfold fX12_told gX12_told
  refine bi (fun c => ?_) (fun c => ?_)
  · refine sg (kq114 hS) ?_
    rfl
  · refine bi (fun c => ?_) (fun c => ?_)
    · refine sg (kq114 hS) ?_
      rfl
    · refine bi (fun c => ?_) (fun c => ?_)
      · refine sg (kq114 hS) ?_
        rfl
      · refine bi (fun c => ?_) (fun c => ?_)
        · refine sg (kq114 hS) ?_
          rfl
        · refine bi (fun c => ?_) (fun c => ?_)
          · refine sg (kq114 hS) ?_
            rfl
          · refine bi (fun c => ?_) (fun c => ?_)
            · refine sg (kq114 hS) ?_
              refine bi (fun c => ?_) (fun c => ?_)
              · rfl
              · rfl
            · refine bi (fun c => ?_) (fun c => ?_)
              · refine sg (kq114 hS) ?_
                refine bc (eX12_clash hS) (fun r18 hc19 => ?_)
                rfl
              · refine bi (fun c => ?_) (fun c => ?_)
                · refine sg (kq114 hS) ?_
                  rfl
                · refine bi (fun c => ?_) (fun c => ?_)
                  · refine sg (kq114 hS) ?_
                    refine bc (eX12_readMany hS) (fun r16 hc17 => ?_)
                    rfl
                  · refine bi (fun c => ?_) (fun c => ?_)
                    · refine sg (kq114 hS) ?_
                      refine sb (rq114_33 hS) ?_
                      refine sg (kq134 hS) ?_
                      refine bgr (by rw [lq134 hS]) (fun g12 => ?_)
                      refine bgr (by rw [lq134 hS]) (fun g13 => ?_)
                      refine bgr (by rw [lq134 hS]) (fun g14 => ?_)
                      refine bgr (by rw [lq134 hS]) (fun g15 => ?_)
                      rfl
                    · refine bi (fun c => ?_) (fun c => ?_)
                      · refine sg (kq114 hS) ?_
                        rfl
                      · rfl
def gX12_fault (I : Nat → Nat → Int32) : Option ((Int32)) :=
  some (I 114 2)
theorem eX12_fault {σ : Shp} {I : Nat → Nat → Int32} {R : Nat → Nat → Option Nat}  (hS : Skel σ R) : fX12_fault σ I 114 = gX12_fault I := by
  unfold fX12_fault gX12_fault
  refine sg (kq114 hS) ?_
  rfl
