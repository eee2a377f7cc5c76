def gX11_copied_b157 (fr : (Shp) → (Nat → Nat → Int32) → (Nat → Nat → Int64) → (Nat → Nat → Option Nat) → (Option Nat) → (Int32) → (Int32) → Option ((Shp) × (Nat → Nat → Int32) × (Nat → Nat → Int64) × (Nat → Nat → Option Nat) × (Option Nat))) (q120 : (Shp) → (Nat → Nat → Int32) → (Nat → Nat → Int64) → (Nat → Nat → Option Nat) → (Option Nat) → (Int32) → (Int32) → (Option Nat) → (Int32) → (Option ((Shp) × (Nat → Nat → Int32) × (Nat → Nat → Int64) × (Nat → Nat → Option Nat) × (Option Nat)))) (σ : Shp) (I : Nat → Nat → Int32) (J : Nat → Nat → Int64) (R : Nat → Nat → Option Nat) (x1 : Option Nat) (x2 : Int32) (x3 : Int32) (x4 : Option Nat) (x5 : Int32) (s0 : Nat) (s1 : Int32) (s2 : Option Nat) : Option ((Shp) × (Nat → Nat → Int32) × (Nat → Nat → Int64) × (Nat → Nat → Option Nat) × (Option Nat)) :=
  if kdx σ s0 = 26 then
  if ¬ (s1 < 0 ∨ lnx σ s0 ≤ Int32.toNatClampNeg s1) then
  if okR σ 11 s2 = true then
  let R39 := u2 R s0 (Int32.toNatClampNeg s1) s2
  let v40 := x5 + (1 : Int32)
  q120 σ I J R39 x1 x2 x3 x4 v40
  else none
  else none
  else none
theorem eX11_copied_b157 {σ : Shp} {I : Nat → Nat → Int32} {J : Nat → Nat → Int64} {R : Nat → Nat → Option Nat} {x1 : Option Nat} {x2 : Int32} {x3 : Int32} {x4 : Option Nat} {x5 : Int32} {s0 : Nat} {s1 : Int32} {s2 : Option Nat} (hS : Skel σ R) {ff : (Shp) → (Nat → Nat → Int32) → (Nat → Nat → Int64) → (Nat → Nat → Option Nat) → (Nat) → (Option Nat) → (Int32) → (Int32) → Option ((Shp) × (Nat → Nat → Int32) × (Nat → Nat → Int64) × (Nat → Nat → Option Nat) × (Option Nat))} {fr : (Shp) → (Nat → Nat → Int32) → (Nat → Nat → Int64) → (Nat → Nat → Option Nat) → (Option Nat) → (Int32) → (Int32) → Option ((Shp) × (Nat → Nat → Int32) × (Nat → Nat → Int64) × (Nat → Nat → Option Nat) × (Option Nat))} (ihn : ∀ {σ : Shp} {I : Nat → Nat → Int32} {J : Nat → Nat → Int64} {R : Nat → Nat → Option Nat} {x1 : Option Nat} {x2 : Int32} {x3 : Int32}, Skel σ R → ff σ I J R 4 x1 x2 x3 = fr σ I J R x1 x2 x3) (php : ∀ {σ : Shp} {I : Nat → Nat → Int32} {J : Nat → Nat → Int64} {R : Nat → Nat → Option Nat} {x1 : Option Nat} {x2 : Int32} {x3 : Int32} {σ9 : Shp} {I9 : Nat → Nat → Int32} {J9 : Nat → Nat → Int64} {R9 : Nat → Nat → Option Nat} {r9 : Option Nat}, Skel σ R → fr σ I J R x1 x2 x3 = some (σ9, I9, J9, R9, r9) → Skel σ9 R9) {qf120 q120 : (Shp) → (Nat → Nat → Int32) → (Nat → Nat → Int64) → (Nat → Nat → Option Nat) → (Option Nat) → (Int32) → (Int32) → (Option Nat) → (Int32) → (Option ((Shp) × (Nat → Nat → Int32) × (Nat → Nat → Int64) × (Nat → Nat → Option Nat) × (Option Nat)))} (hq120 : ∀ (σ : Shp) (I : Nat → Nat → Int32) (J : Nat → Nat → Int64) (R : Nat → Nat → Option Nat) (x1 : Option Nat) (x2 : Int32) (x3 : Int32) (x4 : Option Nat) (x5 : Int32), Skel σ R → qf120 σ I J R x1 x2 x3 x4 x5 = q120 σ I J R x1 x2 x3 x4 x5) : fX11_copied_b157 ff qf120 4 σ I J R x1 x2 x3 x4 x5 s0 s1 s2 = gX11_copied_b157 fr q120 σ I J R x1 x2 x3 x4 x5 s0 s1 s2 := by
  unfold fX11_copied_b157 gX11_copied_b157
  refine bg (fun g36 => ?_)
  refine bg (fun g37 => ?_)
  refine bg (fun g38 => ?_)
  let R39 := u2 R s0 (Int32.toNatClampNeg s1) s2
  have hS := hS.setR (k := (Int32.toNatClampNeg s1)) (v := s2) (Or.inl g36)
  let v40 := x5 + (1 : Int32)
  exact hq120 _ _ _ _ _ _ _ _ _ hS
theorem pX11_copied_b157 {σ : Shp} {I : Nat → Nat → Int32} {J : Nat → Nat → Int64} {R : Nat → Nat → Option Nat} {x1 : Option Nat} {x2 : Int32} {x3 : Int32} {x4 : Option Nat} {x5 : Int32} {s0 : Nat} {s1 : Int32} {s2 : Option Nat} {σ9 : Shp} {I9 : Nat → Nat → Int32} {J9 : Nat → Nat → Int64} {R9 : Nat → Nat → Option Nat} {r9 : Option Nat} {fr : (Shp) → (Nat → Nat → Int32) → (Nat → Nat → Int64) → (Nat → Nat → Option Nat) → (Option Nat) → (Int32) → (Int32) → Option ((Shp) × (Nat → Nat → Int32) × (Nat → Nat → Int64) × (Nat → Nat → Option Nat) × (Option Nat))} (php : ∀ {σ : Shp} {I : Nat → Nat → Int32} {J : Nat → Nat → Int64} {R : Nat → Nat → Option Nat} {x1 : Option Nat} {x2 : Int32} {x3 : Int32} {σ9 : Shp} {I9 : Nat → Nat → Int32} {J9 : Nat → Nat → Int64} {R9 : Nat → Nat → Option Nat} {r9 : Option Nat}, Skel σ R → fr σ I J R x1 x2 x3 = some (σ9, I9, J9, R9, r9) → Skel σ9 R9) {q120 : (Shp) → (Nat → Nat → Int32) → (Nat → Nat → Int64) → (Nat → Nat → Option Nat) → (Option Nat) → (Int32) → (Int32) → (Option Nat) → (Int32) → (Option ((Shp) × (Nat → Nat → Int32) × (Nat → Nat → Int64) × (Nat → Nat → Option Nat) × (Option Nat)))} (pq120 : ∀ (σ : Shp) (I : Nat → Nat → Int32) (J : Nat → Nat → Int64) (R : Nat → Nat → Option Nat) (x1 : Option Nat) (x2 : Int32) (x3 : Int32) (x4 : Option Nat) (x5 : Int32), Skel σ R → q120 σ I J R x1 x2 x3 x4 x5 = some (σ9, I9, J9, R9, r9) → Skel σ9 R9) (hS : Skel σ R) (h : gX11_copied_b157 fr q120 σ I J R x1 x2 x3 x4 x5 s0 s1 s2 = some (σ9, I9, J9, R9, r9)) : Skel σ9 R9 := by
  unfold gX11_copied_b157 at h
  obtain ⟨g36, h⟩ := gd h
  obtain ⟨g37, h⟩ := gd h
  obtain ⟨g38, h⟩ := gd h
  let R39 := u2 R s0 (Int32.toNatClampNeg s1) s2
  have hS := hS.setR (k := (Int32.toNatClampNeg s1)) (v := s2) (Or.inl g36)
  let v40 := x5 + (1 : Int32)
  exact pq120 _ _ _ _ _ _ _ _ _ hS h
def gX11_copied_l120 (fr : (Shp) → (Nat → Nat → Int32) → (Nat → Nat → Int64) → (Nat → Nat → Option Nat) → (Option Nat) → (Int32) → (Int32) → Option ((Shp) × (Nat → Nat → Int32) × (Nat → Nat → Int64) × (Nat → Nat → Option Nat) × (Option Nat)))   : Nat → (Shp) → (Nat → Nat → Int32) → (Nat → Nat → Int64) → (Nat → Nat → Option Nat) → (Option Nat) → (Int32) → (Int32) → (Option Nat) → (Int32) → Option ((Shp) × (Nat → Nat → Int32) × (Nat → Nat → Int64) × (Nat → Nat → Option Nat) × (Option Nat))
  | 0, _, _, _, _, _, _, _, _, _ => none
  | n + 1, σ, I, J, R, x1, x2, x3, x4, x5 =>
    (x4 : Option Nat).bind fun a12 =>
    if kdx σ a12 = 11 then
    ((R a12 2) : Option Nat).bind fun a14 =>
    if kdx σ a14 = 26 then
    if (Int32.ofNat (lnx σ a14)) ≤ x5 then
      some (σ, I, J, R, (some a12))
    else
      if x2 = 0 then
        (x1 : Option Nat).bind fun a16 =>
        if kdx σ a16 = 11 then
        ((R a16 2) : Option Nat).bind fun a18 =>
        if kdx σ a18 = 26 then
        if ¬ (x5 < 0 ∨ lnx σ a18 ≤ Int32.toNatClampNeg x5) then
        if ¬ (x5 < 0 ∨ lnx σ a14 ≤ Int32.toNatClampNeg x5) then
        if okR σ 11 (R a18 (Int32.toNatClampNeg x5)) = true then
        let R23 := u2 R a14 (Int32.toNatClampNeg x5) (R a18 (Int32.toNatClampNeg x5))
        let v24 := x5 + (1 : Int32)
        gX11_copied_l120 fr n σ I J R23 x1 x2 x3 x4 v24
        else none
        else none
        else none
        else none
        else none
      else
        (x1 : Option Nat).bind fun a25 =>
        if kdx σ a25 = 11 then
        ((R a25 2) : Option Nat).bind fun a27 =>
        if kdx σ a27 = 26 then
        if ¬ (x5 < 0 ∨ lnx σ a27 ≤ Int32.toNatClampNeg x5) then
        (fr σ I J R (R a27 (Int32.toNatClampNeg x5)) (1 : Int32) (x3 + (1 : Int32))).bind fun (σ30, I31, J32, R33, r34) =>
        gX11_copied_b157 fr (gX11_copied_l120 fr n) σ30 I31 J32 R33 x1 x2 x3 x4 x5 a14 x5 r34
        else none
        else none
        else none
    else none
    else none
theorem eX11_copied_l120  {ff : (Shp) → (Nat → Nat → Int32) → (Nat → Nat → Int64) → (Nat → Nat → Option Nat) → (Nat) → (Option Nat) → (Int32) → (Int32) → Option ((Shp) × (Nat → Nat → Int32) × (Nat → Nat → Int64) × (Nat → Nat → Option Nat) × (Option Nat))} {fr : (Shp) → (Nat → Nat → Int32) → (Nat → Nat → Int64) → (Nat → Nat → Option Nat) → (Option Nat) → (Int32) → (Int32) → Option ((Shp) × (Nat → Nat → Int32) × (Nat → Nat → Int64) × (Nat → Nat → Option Nat) × (Option Nat))} (ihn : ∀ {σ : Shp} {I : Nat → Nat → Int32} {J : Nat → Nat → Int64} {R : Nat → Nat → Option Nat} {x1 : Option Nat} {x2 : Int32} {x3 : Int32}, Skel σ R → ff σ I J R 4 x1 x2 x3 = fr σ I J R x1 x2 x3) (php : ∀ {σ : Shp} {I : Nat → Nat → Int32} {J : Nat → Nat → Int64} {R : Nat → Nat → Option Nat} {x1 : Option Nat} {x2 : Int32} {x3 : Int32} {σ9 : Shp} {I9 : Nat → Nat → Int32} {J9 : Nat → Nat → Int64} {R9 : Nat → Nat → Option Nat} {r9 : Option Nat}, Skel σ R → fr σ I J R x1 x2 x3 = some (σ9, I9, J9, R9, r9) → Skel σ9 R9) : ∀ (n : Nat) (σ : Shp) (I : Nat → Nat → Int32) (J : Nat → Nat → Int64) (R : Nat → Nat → Option Nat) (x1 : Option Nat) (x2 : Int32) (x3 : Int32) (x4 : Option Nat) (x5 : Int32), Skel σ R → fX11_copied_l120 ff 4 n σ I J R x1 x2 x3 x4 x5 = gX11_copied_l120 fr n σ I J R x1 x2 x3 x4 x5 := by
  intro n
  induction n with
  | zero => intro σ I J R x1 x2 x3 x4 x5 hS; rfl
  | succ n ih =>
    intro σ I J R x1 x2 x3 x4 x5 hS
    rw [fX11_copied_l120, gX11_copied_l120]
    refine bb (fun a12 ha12 => ?_)
    refine bg (fun g13 => ?_)
    refine bb (fun a14 ha14 => ?_)
    refine bg (fun g15 => ?_)
    refine bi (fun c => ?_) (fun c => ?_)
    · rfl
    · refine bi (fun c => ?_) (fun c => ?_)
      · refine bb (fun a16 ha16 => ?_)
        refine bg (fun g17 => ?_)
        refine bb (fun a18 ha18 => ?_)
        refine bg (fun g19 => ?_)
        refine bg (fun g20 => ?_)
        refine bg (fun g21 => ?_)
        refine bg (fun g22 => ?_)
        let R23 := u2 R a14 (Int32.toNatClampNeg x5) (R a18 (Int32.toNatClampNeg x5))
        have hS := hS.setR (k := (Int32.toNatClampNeg x5)) (v := (R a18 (Int32.toNatClampNeg x5))) (Or.inl g15)
        let v24 := x5 + (1 : Int32)
        exact ih _ _ _ _ _ _ _ _ _ hS
      · refine bb (fun a25 ha25 => ?_)
        refine bg (fun g26 => ?_)
        refine bb (fun a27 ha27 => ?_)
        refine bg (fun g28 => ?_)
        refine bg (fun g29 => ?_)
        refine sg (kq4 hS) ?_
        refine bc (ihn hS) (fun pp hc35 => ?_)
        obtain ⟨σ30, I31, J32, R33, r34⟩ := pp
        have hS := php hS hc35
        exact eX11_copied_b157 hS ihn php ih
theorem pX11_copied_l120  {σ9 : Shp} {I9 : Nat → Nat → Int32} {J9 : Nat → Nat → Int64} {R9 : Nat → Nat → Option Nat} {r9 : Option Nat} {fr : (Shp) → (Nat → Nat → Int32) → (Nat → Nat → Int64) → (Nat → Nat → Option Nat) → (Option Nat) → (Int32) → (Int32) → Option ((Shp) × (Nat → Nat → Int32) × (Nat → Nat → Int64) × (Nat → Nat → Option Nat) × (Option Nat))} (php : ∀ {σ : Shp} {I : Nat → Nat → Int32} {J : Nat → Nat → Int64} {R : Nat → Nat → Option Nat} {x1 : Option Nat} {x2 : Int32} {x3 : Int32} {σ9 : Shp} {I9 : Nat → Nat → Int32} {J9 : Nat → Nat → Int64} {R9 : Nat → Nat → Option Nat} {r9 : Option Nat}, Skel σ R → fr σ I J R x1 x2 x3 = some (σ9, I9, J9, R9, r9) → Skel σ9 R9) : ∀ (n : Nat) (σ : Shp) (I : Nat → Nat → Int32) (J : Nat → Nat → Int64) (R : Nat → Nat → Option Nat) (x1 : Option Nat) (x2 : Int32) (x3 : Int32) (x4 : Option Nat) (x5 : Int32), Skel σ R → gX11_copied_l120 fr n σ I J R x1 x2 x3 x4 x5 = some (σ9, I9, J9, R9, r9) → Skel σ9 R9 := by
  intro n
  induction n with
  | zero =>
    intro σ I J R x1 x2 x3 x4 x5 hS h
    have h : none = some _ := h
    cases h
  | succ n ih =>
    intro σ I J R x1 x2 x3 x4 x5 hS h
    rw [gX11_copied_l120] at h
    obtain ⟨a12, ha12, h⟩ := ob h
    obtain ⟨g13, h⟩ := gd h
    obtain ⟨a14, ha14, h⟩ := ob h
    obtain ⟨g15, h⟩ := gd h
    rcases itc h with ⟨c, h⟩ | ⟨c, h⟩
    · cases h
      exact hS
    · rcases itc h with ⟨c, h⟩ | ⟨c, h⟩
      · obtain ⟨a16, ha16, h⟩ := ob h
        obtain ⟨g17, h⟩ := gd h
        obtain ⟨a18, ha18, h⟩ := ob h
        obtain ⟨g19, h⟩ := gd h
        obtain ⟨g20, h⟩ := gd h
        obtain ⟨g21, h⟩ := gd h
        obtain ⟨g22, h⟩ := gd h
        let R23 := u2 R a14 (Int32.toNatClampNeg x5) (R a18 (Int32.toNatClampNeg x5))
        have hS := hS.setR (k := (Int32.toNatClampNeg x5)) (v := (R a18 (Int32.toNatClampNeg x5))) (Or.inl g15)
        let v24 := x5 + (1 : Int32)
        exact ih _ _ _ _ _ _ _ _ _ hS h
      · obtain ⟨a25, ha25, h⟩ := ob h
        obtain ⟨g26, h⟩ := gd h
        obtain ⟨a27, ha27, h⟩ := ob h
        obtain ⟨g28, h⟩ := gd h
        obtain ⟨g29, h⟩ := gd h
        obtain ⟨⟨σ30, I31, J32, R33, r34⟩, hc35, h⟩ := ob h
        have hS := php hS hc35
        exact pX11_copied_b157 php ih hS h
def gX11_copied_b115 (fr : (Shp) → (Nat → Nat → Int32) → (Nat → Nat → Int64) → (Nat → Nat → Option Nat) → (Option Nat) → (Int32) → (Int32) → Option ((Shp) × (Nat → Nat → Int32) × (Nat → Nat → Int64) × (Nat → Nat → Option Nat) × (Option Nat)))  (σ : Shp) (I : Nat → Nat → Int32) (J : Nat → Nat → Int64) (R : Nat → Nat → Option Nat) (x1 : Option Nat) (x2 : Int32) (x3 : Int32) (s0 : Option Nat) : Option ((Shp) × (Nat → Nat → Int32) × (Nat → Nat → Int64) × (Nat → Nat → Option Nat) × (Option Nat)) :=
  gX11_copied_l120 fr FUx σ I J R x1 x2 x3 s0 (0 : Int32)
theorem eX11_copied_b115 {σ : Shp} {I : Nat → Nat → Int32} {J : Nat → Nat → Int64} {R : Nat → Nat → Option Nat} {x1 : Option Nat} {x2 : Int32} {x3 : Int32} {s0 : Option Nat} (hS : Skel σ R) {ff : (Shp) → (Nat → Nat → Int32) → (Nat → Nat → Int64) → (Nat → Nat → Option Nat) → (Nat) → (Option Nat) → (Int32) → (Int32) → Option ((Shp) × (Nat → Nat → Int32) × (Nat → Nat → Int64) × (Nat → Nat → Option Nat) × (Option Nat))} {fr : (Shp) → (Nat → Nat → Int32) → (Nat → Nat → Int64) → (Nat → Nat → Option Nat) → (Option Nat) → (Int32) → (Int32) → Option ((Shp) × (Nat → Nat → Int32) × (Nat → Nat → Int64) × (Nat → Nat → Option Nat) × (Option Nat))} (ihn : ∀ {σ : Shp} {I : Nat → Nat → Int32} {J : Nat → Nat → Int64} {R : Nat → Nat → Option Nat} {x1 : Option Nat} {x2 : Int32} {x3 : Int32}, Skel σ R → ff σ I J R 4 x1 x2 x3 = fr σ I J R x1 x2 x3) (php : ∀ {σ : Shp} {I : Nat → Nat → Int32} {J : Nat → Nat → Int64} {R : Nat → Nat → Option Nat} {x1 : Option Nat} {x2 : Int32} {x3 : Int32} {σ9 : Shp} {I9 : Nat → Nat → Int32} {J9 : Nat → Nat → Int64} {R9 : Nat → Nat → Option Nat} {r9 : Option Nat}, Skel σ R → fr σ I J R x1 x2 x3 = some (σ9, I9, J9, R9, r9) → Skel σ9 R9) : fX11_copied_b115 ff 4 σ I J R x1 x2 x3 s0 = gX11_copied_b115 fr σ I J R x1 x2 x3 s0 := by
  unfold fX11_copied_b115 gX11_copied_b115
  exact eX11_copied_l120 ihn php _ _ _ _ _ _ _ _ _ _ hS
theorem pX11_copied_b115 {σ : Shp} {I : Nat → Nat → Int32} {J : Nat → Nat → Int64} {R : Nat → Nat → Option Nat} {x1 : Option Nat} {x2 : Int32} {x3 : Int32} {s0 : Option Nat} {σ9 : Shp} {I9 : Nat → Nat → Int32} {J9 : Nat → Nat → Int64} {R9 : Nat → Nat → Option Nat} {r9 : Option Nat} {fr : (Shp) → (Nat → Nat → Int32) → (Nat → Nat → Int64) → (Nat → Nat → Option Nat) → (Option Nat) → (Int32) → (Int32) → Option ((Shp) × (Nat → Nat → Int32) × (Nat → Nat → Int64) × (Nat → Nat → Option Nat) × (Option Nat))} (php : ∀ {σ : Shp} {I : Nat → Nat → Int32} {J : Nat → Nat → Int64} {R : Nat → Nat → Option Nat} {x1 : Option Nat} {x2 : Int32} {x3 : Int32} {σ9 : Shp} {I9 : Nat → Nat → Int32} {J9 : Nat → Nat → Int64} {R9 : Nat → Nat → Option Nat} {r9 : Option Nat}, Skel σ R → fr σ I J R x1 x2 x3 = some (σ9, I9, J9, R9, r9) → Skel σ9 R9) (hS : Skel σ R) (h : gX11_copied_b115 fr σ I J R x1 x2 x3 s0 = some (σ9, I9, J9, R9, r9)) : Skel σ9 R9 := by
  unfold gX11_copied_b115 at h
  exact pX11_copied_l120 php _ _ _ _ _ _ _ _ _ _ hS h
def gX11_copied_b71 (fr : (Shp) → (Nat → Nat → Int32) → (Nat → Nat → Int64) → (Nat → Nat → Option Nat) → (Option Nat) → (Int32) → (Int32) → Option ((Shp) × (Nat → Nat → Int32) × (Nat → Nat → Int64) × (Nat → Nat → Option Nat) × (Option Nat)))  (σ : Shp) (I : Nat → Nat → Int32) (J : Nat → Nat → Int64) (R : Nat → Nat → Option Nat) (x1 : Option Nat) (s0 : Option Nat) : Option ((Shp) × (Nat → Nat → Int32) × (Nat → Nat → Int64) × (Nat → Nat → Option Nat) × (Option Nat)) :=
  (x1 : Option Nat).bind fun a46 =>
  if kdx σ a46 = 11 then
  ((R a46 1) : Option Nat).bind fun a48 =>
  if kdx σ a48 = 21 then
  (gX11_moveCells σ J R x1 (0 : Int32) s0 (0 : Int32) (Int32.ofNat (lnx σ a48))).bind fun J50 =>
  ((R a46 2) : Option Nat).bind fun a52 =>
  if kdx σ a52 = 26 then
  (gX11_movePlaces σ R (some a46) (0 : Int32) s0 (0 : Int32) (Int32.ofNat (lnx σ a52))).bind fun R54 =>
  some (σ, I, J50, R54, s0)
  else none
  else none
  else none
theorem eX11_copied_b71 {σ : Shp} {I : Nat → Nat → Int32} {J : Nat → Nat → Int64} {R : Nat → Nat → Option Nat} {x1 : Option Nat} {s0 : Option Nat} (hS : Skel σ R) {ff : (Shp) → (Nat → Nat → Int32) → (Nat → Nat → Int64) → (Nat → Nat → Option Nat) → (Nat) → (Option Nat) → (Int32) → (Int32) → Option ((Shp) × (Nat → Nat → Int32) × (Nat → Nat → Int64) × (Nat → Nat → Option Nat) × (Option Nat))} {fr : (Shp) → (Nat → Nat → Int32) → (Nat → Nat → Int64) → (Nat → Nat → Option Nat) → (Option Nat) → (Int32) → (Int32) → Option ((Shp) × (Nat → Nat → Int32) × (Nat → Nat → Int64) × (Nat → Nat → Option Nat) × (Option Nat))} (ihn : ∀ {σ : Shp} {I : Nat → Nat → Int32} {J : Nat → Nat → Int64} {R : Nat → Nat → Option Nat} {x1 : Option Nat} {x2 : Int32} {x3 : Int32}, Skel σ R → ff σ I J R 4 x1 x2 x3 = fr σ I J R x1 x2 x3) (php : ∀ {σ : Shp} {I : Nat → Nat → Int32} {J : Nat → Nat → Int64} {R : Nat → Nat → Option Nat} {x1 : Option Nat} {x2 : Int32} {x3 : Int32} {σ9 : Shp} {I9 : Nat → Nat → Int32} {J9 : Nat → Nat → Int64} {R9 : Nat → Nat → Option Nat} {r9 : Option Nat}, Skel σ R → fr σ I J R x1 x2 x3 = some (σ9, I9, J9, R9, r9) → Skel σ9 R9) : fX11_copied_b71 ff σ I J R x1 s0 = gX11_copied_b71 fr σ I J R x1 s0 := by
  unfold fX11_copied_b71 gX11_copied_b71
  refine bb (fun a46 ha46 => ?_)
  refine bg (fun g47 => ?_)
  refine bb (fun a48 ha48 => ?_)
  refine bg (fun g49 => ?_)
  refine bc (eX11_moveCells hS) (fun J50 hc51 => ?_)
  refine bb (fun a52 ha52 => ?_)
  refine bg (fun g53 => ?_)
  refine bc (eX11_movePlaces hS) (fun R54 hc55 => ?_)
  have hS := pX11_movePlaces hS hc55
  rfl
theorem pX11_copied_b71 {σ : Shp} {I : Nat → Nat → Int32} {J : Nat → Nat → Int64} {R : Nat → Nat → Option Nat} {x1 : Option Nat} {s0 : Option Nat} {σ9 : Shp} {I9 : Nat → Nat → Int32} {J9 : Nat → Nat → Int64} {R9 : Nat → Nat → Option Nat} {r9 : Option Nat} {fr : (Shp) → (Nat → Nat → Int32) → (Nat → Nat → Int64) → (Nat → Nat → Option Nat) → (Option Nat) → (Int32) → (Int32) → Option ((Shp) × (Nat → Nat → Int32) × (Nat → Nat → Int64) × (Nat → Nat → Option Nat) × (Option Nat))} (php : ∀ {σ : Shp} {I : Nat → Nat → Int32} {J : Nat → Nat → Int64} {R : Nat → Nat → Option Nat} {x1 : Option Nat} {x2 : Int32} {x3 : Int32} {σ9 : Shp} {I9 : Nat → Nat → Int32} {J9 : Nat → Nat → Int64} {R9 : Nat → Nat → Option Nat} {r9 : Option Nat}, Skel σ R → fr σ I J R x1 x2 x3 = some (σ9, I9, J9, R9, r9) → Skel σ9 R9) (hS : Skel σ R) (h : gX11_copied_b71 fr σ I J R x1 s0 = some (σ9, I9, J9, R9, r9)) : Skel σ9 R9 := by
  unfold gX11_copied_b71 at h
  obtain ⟨a46, ha46, h⟩ := ob h
  obtain ⟨g47, h⟩ := gd h
  obtain ⟨a48, ha48, h⟩ := ob h
  obtain ⟨g49, h⟩ := gd h
  obtain ⟨J50, hc51, h⟩ := ob h
  obtain ⟨a52, ha52, h⟩ := ob h
  obtain ⟨g53, h⟩ := gd h
  obtain ⟨R54, hc55, h⟩ := ob h
  have hS := pX11_movePlaces hS hc55
  cases h
  exact hS
def gX11_copied_b40 (fr : (Shp) → (Nat → Nat → Int32) → (Nat → Nat → Int64) → (Nat → Nat → Option Nat) → (Option Nat) → (Int32) → (Int32) → Option ((Shp) × (Nat → Nat → Int32) × (Nat → Nat → Int64) × (Nat → Nat → Option Nat) × (Option Nat)))  (σ : Shp) (I : Nat → Nat → Int32) (J : Nat → Nat → Int64) (R : Nat → Nat → Option Nat) (x1 : Option Nat) (s0 : Option Nat) : Option ((Shp) × (Nat → Nat → Int32) × (Nat → Nat → Int64) × (Nat → Nat → Option Nat) × (Option Nat)) :=
  (x1 : Option Nat).bind fun a63 =>
  if kdx σ a63 = 11 then
  ((R a63 1) : Option Nat).bind fun a65 =>
  if kdx σ a65 = 21 then
  (gX11_moveCells σ J R x1 (0 : Int32) s0 (0 : Int32) (Int32.ofNat (lnx σ a65))).bind fun J67 =>
  some (σ, I, J67, R, s0)
  else none
  else none
theorem eX11_copied_b40 {σ : Shp} {I : Nat → Nat → Int32} {J : Nat → Nat → Int64} {R : Nat → Nat → Option Nat} {x1 : Option Nat} {s0 : Option Nat} (hS : Skel σ R) {ff : (Shp) → (Nat → Nat → Int32) → (Nat → Nat → Int64) → (Nat → Nat → Option Nat) → (Nat) → (Option Nat) → (Int32) → (Int32) → Option ((Shp) × (Nat → Nat → Int32) × (Nat → Nat → Int64) × (Nat → Nat → Option Nat) × (Option Nat))} {fr : (Shp) → (Nat → Nat → Int32) → (Nat → Nat → Int64) → (Nat → Nat → Option Nat) → (Option Nat) → (Int32) → (Int32) → Option ((Shp) × (Nat → Nat → Int32) × (Nat → Nat → Int64) × (Nat → Nat → Option Nat) × (Option Nat))} (ihn : ∀ {σ : Shp} {I : Nat → Nat → Int32} {J : Nat → Nat → Int64} {R : Nat → Nat → Option Nat} {x1 : Option Nat} {x2 : Int32} {x3 : Int32}, Skel σ R → ff σ I J R 4 x1 x2 x3 = fr σ I J R x1 x2 x3) (php : ∀ {σ : Shp} {I : Nat → Nat → Int32} {J : Nat → Nat → Int64} {R : Nat → Nat → Option Nat} {x1 : Option Nat} {x2 : Int32} {x3 : Int32} {σ9 : Shp} {I9 : Nat → Nat → Int32} {J9 : Nat → Nat → Int64} {R9 : Nat → Nat → Option Nat} {r9 : Option Nat}, Skel σ R → fr σ I J R x1 x2 x3 = some (σ9, I9, J9, R9, r9) → Skel σ9 R9) : fX11_copied_b40 ff σ I J R x1 s0 = gX11_copied_b40 fr σ I J R x1 s0 := by
  unfold fX11_copied_b40 gX11_copied_b40
  refine bb (fun a63 ha63 => ?_)
  refine bg (fun g64 => ?_)
  refine bb (fun a65 ha65 => ?_)
  refine bg (fun g66 => ?_)
  refine bc (eX11_moveCells hS) (fun J67 hc68 => ?_)
  rfl
theorem pX11_copied_b40 {σ : Shp} {I : Nat → Nat → Int32} {J : Nat → Nat → Int64} {R : Nat → Nat → Option Nat} {x1 : Option Nat} {s0 : Option Nat} {σ9 : Shp} {I9 : Nat → Nat → Int32} {J9 : Nat → Nat → Int64} {R9 : Nat → Nat → Option Nat} {r9 : Option Nat} {fr : (Shp) → (Nat → Nat → Int32) → (Nat → Nat → Int64) → (Nat → Nat → Option Nat) → (Option Nat) → (Int32) → (Int32) → Option ((Shp) × (Nat → Nat → Int32) × (Nat → Nat → Int64) × (Nat → Nat → Option Nat) × (Option Nat))} (php : ∀ {σ : Shp} {I : Nat → Nat → Int32} {J : Nat → Nat → Int64} {R : Nat → Nat → Option Nat} {x1 : Option Nat} {x2 : Int32} {x3 : Int32} {σ9 : Shp} {I9 : Nat → Nat → Int32} {J9 : Nat → Nat → Int64} {R9 : Nat → Nat → Option Nat} {r9 : Option Nat}, Skel σ R → fr σ I J R x1 x2 x3 = some (σ9, I9, J9, R9, r9) → Skel σ9 R9) (hS : Skel σ R) (h : gX11_copied_b40 fr σ I J R x1 s0 = some (σ9, I9, J9, R9, r9)) : Skel σ9 R9 := by
  unfold gX11_copied_b40 at h
  obtain ⟨a63, ha63, h⟩ := ob h
  obtain ⟨g64, h⟩ := gd h
  obtain ⟨a65, ha65, h⟩ := ob h
  obtain ⟨g66, h⟩ := gd h
  obtain ⟨J67, hc68, h⟩ := ob h
  cases h
  exact hS
def gX11_copied : Nat → (Shp) → (Nat → Nat → Int32) → (Nat → Nat → Int64) → (Nat → Nat → Option Nat) → (Option Nat) → (Int32) → (Int32) → Option ((Shp) × (Nat → Nat → Int32) × (Nat → Nat → Int64) × (Nat → Nat → Option Nat) × (Option Nat))
  | 0, _, _, _, _, _, _, _ => none
  | n + 1, σ, I, J, R, x1, x2, x3 =>
    onl x1
      (
        some (σ, I, J, R, x1))
      (fun a1 =>
        if kdx σ a1 = 11 then
        if (I a1 0) = (16 : Int32) then
          some (σ, I, J, R, (some a1))
        else
          if x3 ≤ (3 : Int32) then
            (gX11_isRow σ I (some a1)).bind fun r3 =>
            if r3 = 0 then
              if (I a1 0) = (17 : Int32) then
                (gX11_newCard σ I R).bind fun (σ41, I42, R43, r44) =>
                gX11_copied_b71 (gX11_copied n) σ41 I42 J R43 x1 r44
              else
                ((R a1 2) : Option Nat).bind fun a5 =>
                if kdx σ a5 = 26 then
                (gX11_newPlaces σ I R (I a1 0) (Int32.ofNat (lnx σ a5))).bind fun (σ7, I8, R9, r10) =>
                gX11_copied_b115 (gX11_copied n) σ7 I8 J R9 x1 x2 x3 r10
                else none
            else
              ((R a1 1) : Option Nat).bind fun a56 =>
              if kdx σ a56 = 21 then
              (gX11_newRow σ I R (I a1 0) (Int32.ofNat (lnx σ a56))).bind fun (σ58, I59, R60, r61) =>
              gX11_copied_b40 (gX11_copied n) σ58 I59 J R60 x1 r61
              else none
          else
            some (σ, I, J, R, (some a1))
        else none)
theorem pX11_copied : ∀ (n : Nat) {σ : Shp} {I : Nat → Nat → Int32} {J : Nat → Nat → Int64} {R : Nat → Nat → Option Nat} {x1 : Option Nat} {x2 : Int32} {x3 : Int32} {σ9 : Shp} {I9 : Nat → Nat → Int32} {J9 : Nat → Nat → Int64} {R9 : Nat → Nat → Option Nat} {r9 : Option Nat}, Skel σ R → gX11_copied n σ I J R x1 x2 x3 = some (σ9, I9, J9, R9, r9) → Skel σ9 R9 := by
  intro n
  induction n with
  | zero =>
    intro σ I J R x1 x2 x3 σ9 I9 J9 R9 r9 hS h
    have h : none = some _ := h
    cases h
  | succ n php =>
    intro σ I J R x1 x2 x3 σ9 I9 J9 R9 r9 hS h
    rw [gX11_copied] at h
    rcases onl_c h with ⟨ea1, h⟩ | ⟨a1, ha1, h⟩
    · cases h
      exact hS
    · obtain ⟨g2, h⟩ := gd h
      rcases itc h with ⟨c, h⟩ | ⟨c, h⟩
      · cases h
        exact hS
      · rcases itc h with ⟨c, h⟩ | ⟨c, h⟩
        · obtain ⟨r3, hc4, h⟩ := ob h
          rcases itc h with ⟨c, h⟩ | ⟨c, h⟩
          · rcases itc h with ⟨c, h⟩ | ⟨c, h⟩
            · obtain ⟨⟨σ41, I42, R43, r44⟩, hc45, h⟩ := ob h
              have hS := pX11_newCard hS hc45
              exact pX11_copied_b71 php hS h
            · obtain ⟨a5, ha5, h⟩ := ob h
              obtain ⟨g6, h⟩ := gd h
              obtain ⟨⟨σ7, I8, R9, r10⟩, hc11, h⟩ := ob h
              have hS := pX11_newPlaces hS hc11
              exact pX11_copied_b115 php hS h
          · obtain ⟨a56, ha56, h⟩ := ob h
            obtain ⟨g57, h⟩ := gd h
            obtain ⟨⟨σ58, I59, R60, r61⟩, hc62, h⟩ := ob h
            have hS := pX11_newRow hS hc62
            exact pX11_copied_b40 php hS h
        · cases h
          exact hS
theorem eX11_copied : ∀ (n : Nat) {σ : Shp} {I : Nat → Nat → Int32} {J : Nat → Nat → Int64} {R : Nat → Nat → Option Nat} {x1 : Option Nat} {x2 : Int32} {x3 : Int32}, Skel σ R → fX11_copied n σ I J R 4 x1 x2 x3 = gX11_copied n σ I J R x1 x2 x3 := by
  intro n
  induction n with
  | zero => intro σ I J R x1 x2 x3 hS; rfl
  | succ n ihn =>
    intro σ I J R x1 x2 x3 hS
    rw [fX11_copied, gX11_copied]
    have php := @pX11_copied n
    refine bo (fun ea1 => ?_) (fun a1 ha1 => ?_)
    · rfl
    · refine bg (fun g2 => ?_)
      refine bi (fun c => ?_) (fun c => ?_)
      · rfl
      · refine bi (fun c => ?_) (fun c => ?_)
        · refine bc (eX11_isRow hS) (fun r3 hc4 => ?_)
          refine bi (fun c => ?_) (fun c => ?_)
          · refine bi (fun c => ?_) (fun c => ?_)
            · refine sg (kq4 hS) ?_
              refine bc (eX11_newCard hS) (fun pp hc45 => ?_)
              obtain ⟨σ41, I42, R43, r44⟩ := pp
              have hS := pX11_newCard hS hc45
              exact eX11_copied_b71 hS ihn php
            · refine bb (fun a5 ha5 => ?_)
              refine bg (fun g6 => ?_)
              refine sg (kq4 hS) ?_
              refine bc (eX11_newPlaces hS) (fun pp hc11 => ?_)
              obtain ⟨σ7, I8, R9, r10⟩ := pp
              have hS := pX11_newPlaces hS hc11
              exact eX11_copied_b115 hS ihn php
          · refine bb (fun a56 ha56 => ?_)
            refine bg (fun g57 => ?_)
            refine sg (kq4 hS) ?_
            refine bc (eX11_newRow hS) (fun pp hc62 => ?_)
            obtain ⟨σ58, I59, R60, r61⟩ := pp
            have hS := pX11_newRow hS hc62
            exact eX11_copied_b40 hS ihn php
        · rfl
def gX11_copy_b44  (σ : Shp) (I : Nat → Nat → Int32) (J : Nat → Nat → Int64) (R : Nat → Nat → Option Nat) (s0 : Nat) (s1 : Int32) (s2 : Option Nat) : Option ((Shp) × (Nat → Nat → Int32) × (Nat → Nat → Int64) × (Nat → Nat → Option Nat) × (Int32)) :=
  if kdx σ s0 = 26 then
  if ¬ (s1 < 0 ∨ lnx σ s0 ≤ Int32.toNatClampNeg s1) then
  if okR σ 11 s2 = true then
  let R13 := u2 R s0 (Int32.toNatClampNeg s1) s2
  some (σ, I, J, R13, (1 : Int32))
  else none
  else none
  else none
theorem eX11_copy_b44 {σ : Shp} {I : Nat → Nat → Int32} {J : Nat → Nat → Int64} {R : Nat → Nat → Option Nat} {s0 : Nat} {s1 : Int32} {s2 : Option Nat} (hS : Skel σ R) : fX11_copy_b44 σ I J R s0 s1 s2 = gX11_copy_b44 σ I J R s0 s1 s2 := by
  unfold fX11_copy_b44 gX11_copy_b44
  refine bg (fun g10 => ?_)
  refine bg (fun g11 => ?_)
  refine bg (fun g12 => ?_)
  let R13 := u2 R s0 (Int32.toNatClampNeg s1) s2
  have hS := hS.setR (k := (Int32.toNatClampNeg s1)) (v := s2) (Or.inl g10)
  rfl
theorem pX11_copy_b44 {σ : Shp} {I : Nat → Nat → Int32} {J : Nat → Nat → Int64} {R : Nat → Nat → Option Nat} {s0 : Nat} {s1 : Int32} {s2 : Option Nat} {σ9 : Shp} {I9 : Nat → Nat → Int32} {J9 : Nat → Nat → Int64} {R9 : Nat → Nat → Option Nat} {r9 : Int32} (hS : Skel σ R) (h : gX11_copy_b44 σ I J R s0 s1 s2 = some (σ9, I9, J9, R9, r9)) : Skel σ9 R9 := by
  unfold gX11_copy_b44 at h
  obtain ⟨g10, h⟩ := gd h
  obtain ⟨g11, h⟩ := gd h
  obtain ⟨g12, h⟩ := gd h
  let R13 := u2 R s0 (Int32.toNatClampNeg s1) s2
  have hS := hS.setR (k := (Int32.toNatClampNeg s1)) (v := s2) (Or.inl g10)
  cases h
  exact hS
def gX11_copy (σ : Shp) (I : Nat → Nat → Int32) (J : Nat → Nat → Int64) (R : Nat → Nat → Option Nat) (x1 : Int32) (x2 : Int32) (x3 : Int32) : Option ((Shp) × (Nat → Nat → Int32) × (Nat → Nat → Int64) × (Nat → Nat → Option Nat) × (Int32)) :=
  if (fX11_isBin x1) = 0 then
    some (σ, I, J, R, (-2 : Int32))
  else
    if (fX11_isBin x2) = 0 then
      some (σ, I, J, R, (-2 : Int32))
    else
      (gX11_isFull I).bind fun r1 =>
      if r1 = 0 then
        if ¬ (x2 < 0 ∨ 16 ≤ Int32.toNatClampNeg x2) then
        (gX11_copied 8 σ I J R (R 6 (Int32.toNatClampNeg x2)) x3 (0 : Int32)).bind fun (σ4, I5, J6, R7, r8) =>
        gX11_copy_b44 σ4 I5 J6 R7 6 x1 r8
        else none
      else
        some (σ, I, J, R, (-4 : Int32))
theorem pX11_copy {σ : Shp} {I : Nat → Nat → Int32} {J : Nat → Nat → Int64} {R : Nat → Nat → Option Nat} {x1 : Int32} {x2 : Int32} {x3 : Int32} {σ9 : Shp} {I9 : Nat → Nat → Int32} {J9 : Nat → Nat → Int64} {R9 : Nat → Nat → Option Nat} {r9 : Int32} (hS : Skel σ R) (h : gX11_copy σ I J R x1 x2 x3 = some (σ9, I9, J9, R9, r9)) : Skel σ9 R9 := by
  unfold gX11_copy at h
  rcases itc h with ⟨c, h⟩ | ⟨c, h⟩
  · cases h
    exact hS
  · rcases itc h with ⟨c, h⟩ | ⟨c, h⟩
    · cases h
      exact hS
    · obtain ⟨r1, hc2, h⟩ := ob h
      rcases itc h with ⟨c, h⟩ | ⟨c, h⟩
      · obtain ⟨g3, h⟩ := gd h
        obtain ⟨⟨σ4, I5, J6, R7, r8⟩, hc9, h⟩ := ob h
        have hS := pX11_copied _ hS hc9
        exact pX11_copy_b44 hS h
      · cases h
        exact hS
theorem eX11_copy {σ : Shp} {I : Nat → Nat → Int32} {J : Nat → Nat → Int64} {R : Nat → Nat → Option Nat} {x1 : Int32} {x2 : Int32} {x3 : Int32} (hS : Skel σ R) : fX11_copy σ I J R 4 x1 x2 x3 = gX11_copy σ I J R x1 x2 x3 := by
  unfold fX11_copy gX11_copy
  refine bi (fun c => ?_) (fun c => ?_)
  · rfl
  · refine bi (fun c => ?_) (fun c => ?_)
    · rfl
    · refine sg (kq4 hS) ?_
      refine bc (eX11_isFull hS) (fun r1 hc2 => ?_)
      refine bi (fun c => ?_) (fun c => ?_)
      · try with_reducible refine sg (kq4 hS) ?_
        refine sb (rq4_1 hS) ?_
        try with_reducible refine sg (kq4 hS) ?_
        refine sg (kq6 hS) ?_
        refine bgr (by rw [lq6 hS]) (fun g3 => ?_)
        try with_reducible refine sg (kq4 hS) ?_
        refine bc (eX11_copied _ hS) (fun pp hc9 => ?_)
        obtain ⟨σ4, I5, J6, R7, r8⟩ := pp
        have hS := pX11_copied _ hS hc9
        exact eX11_copy_b44 hS
      · rfl
def gX11_equalCells_l17  (σ : Shp) (J : Nat → Nat → Int64) (R : Nat → Nat → Option Nat) : Nat → (Option Nat) → (Option Nat) → (Int32) → Option ((Int32))
  | 0, _, _, _ => none
  | n + 1, x0, x1, x2 =>
    (x0 : Option Nat).bind fun a9 =>
    if kdx σ a9 = 11 then
    ((R a9 1) : Option Nat).bind fun a11 =>
    if kdx σ a11 = 21 then
    if (Int32.ofNat (lnx σ a11)) ≤ x2 then
      some (1 : Int32)
    else
      if ¬ (x2 < 0 ∨ lnx σ a11 ≤ Int32.toNatClampNeg x2) then
      (x1 : Option Nat).bind fun a14 =>
      if kdx σ a14 = 11 then
      ((R a14 1) : Option Nat).bind fun a16 =>
      if kdx σ a16 = 21 then
      if ¬ (x2 < 0 ∨ lnx σ a16 ≤ Int32.toNatClampNeg x2) then
      if (J a11 (Int32.toNatClampNeg x2)) = (J a16 (Int32.toNatClampNeg x2)) then
        let v19 := x2 + (1 : Int32)
        gX11_equalCells_l17 σ J R n x0 x1 v19
      else
        some (0 : Int32)
      else none
      else none
      else none
      else none
    else none
    else none
theorem eX11_equalCells_l17 {σ : Shp} {J : Nat → Nat → Int64} {R : Nat → Nat → Option Nat} (hS : Skel σ R) : ∀ (n : Nat) (x0 : Option Nat) (x1 : Option Nat) (x2 : Int32), fX11_equalCells_l17 σ J R n x0 x1 x2 = gX11_equalCells_l17 σ J R n x0 x1 x2 := by
  intro n
  induction n with
  | zero => intro x0 x1 x2; rfl
  | succ n ih =>
    intro x0 x1 x2
    rw [fX11_equalCells_l17, gX11_equalCells_l17]
    refine bb (fun a9 ha9 => ?_)
    refine bg (fun g10 => ?_)
    refine bb (fun a11 ha11 => ?_)
    refine bg (fun g12 => ?_)
    refine bi (fun c => ?_) (fun c => ?_)
    · rfl
    · refine bg (fun g13 => ?_)
      refine bb (fun a14 ha14 => ?_)
      refine bg (fun g15 => ?_)
      refine bb (fun a16 ha16 => ?_)
      refine bg (fun g17 => ?_)
      refine bg (fun g18 => ?_)
      refine bi (fun c => ?_) (fun c => ?_)
      · exact ih _ _ _
      · rfl
def gX11_equalCells (σ : Shp) (J : Nat → Nat → Int64) (R : Nat → Nat → Option Nat) (x0 : Option Nat) (x1 : Option Nat) : Option ((Int32)) :=
  (x0 : Option Nat).bind fun a1 =>
  if kdx σ a1 = 11 then
  ((R a1 1) : Option Nat).bind fun a3 =>
  if kdx σ a3 = 21 then
  (x1 : Option Nat).bind fun a5 =>
  if kdx σ a5 = 11 then
  ((R a5 1) : Option Nat).bind fun a7 =>
  if kdx σ a7 = 21 then
  if (Int32.ofNat (lnx σ a3)) = (Int32.ofNat (lnx σ a7)) then
    gX11_equalCells_l17 σ J R FUx x0 x1 (0 : Int32)
  else
    some (0 : Int32)
  else none
  else none
  else none
  else none
theorem eX11_equalCells {σ : Shp} {J : Nat → Nat → Int64} {R : Nat → Nat → Option Nat} {x0 : Option Nat} {x1 : Option Nat} (hS : Skel σ R) : fX11_equalCells σ J R x0 x1 = gX11_equalCells σ J R x0 x1 := by
  unfold fX11_equalCells gX11_equalCells
  refine bb (fun a1 ha1 => ?_)
  refine bg (fun g2 => ?_)
  refine bb (fun a3 ha3 => ?_)
  refine bg (fun g4 => ?_)
  refine bb (fun a5 ha5 => ?_)
  refine bg (fun g6 => ?_)
  refine bb (fun a7 ha7 => ?_)
  refine bg (fun g8 => ?_)
  refine bi (fun c => ?_) (fun c => ?_)
  · exact eX11_equalCells_l17 hS _ _ _ _
  · rfl
def gX11_equalThings_l67 (fr : (Shp) → (Nat → Nat → Int32) → (Nat → Nat → Int64) → (Nat → Nat → Option Nat) → (Option Nat) → (Option Nat) → (Int32) → Option ((Int32)))  (σ : Shp) (I : Nat → Nat → Int32) (J : Nat → Nat → Int64) (R : Nat → Nat → Option Nat) : Nat → (Option Nat) → (Option Nat) → (Int32) → (Int32) → Option ((Int32))
  | 0, _, _, _, _ => none
  | n + 1, x0, x1, x2, x3 =>
    (x0 : Option Nat).bind fun a13 =>
    if kdx σ a13 = 11 then
    ((R a13 2) : Option Nat).bind fun a15 =>
    if kdx σ a15 = 26 then
    if (Int32.ofNat (lnx σ a15)) ≤ x3 then
      some (1 : Int32)
    else
      if (I a13 0) = (17 : Int32) then
        if ¬ (x3 < 0 ∨ lnx σ a15 ≤ Int32.toNatClampNeg x3) then
        (x1 : Option Nat).bind fun a27 =>
        if kdx σ a27 = 11 then
        ((R a27 2) : Option Nat).bind fun a29 =>
        if kdx σ a29 = 26 then
        if ¬ (x3 < 0 ∨ lnx σ a29 ≤ Int32.toNatClampNeg x3) then
        if okR σ 11 (R a15 (Int32.toNatClampNeg x3)) = true then
        if okR σ 11 (R a29 (Int32.toNatClampNeg x3)) = true then
        if (R a15 (Int32.toNatClampNeg x3)) = (R a29 (Int32.toNatClampNeg x3)) then
          if (1 : Int32) = 0 then
            some (0 : Int32)
          else
            let v35 := x3 + (1 : Int32)
            gX11_equalThings_l67 fr σ I J R n x0 x1 x2 v35
        else
          if (0 : Int32) = 0 then
            some (0 : Int32)
          else
            let v34 := x3 + (1 : Int32)
            gX11_equalThings_l67 fr σ I J R n x0 x1 x2 v34
        else none
        else none
        else none
        else none
        else none
        else none
      else
        if ¬ (x3 < 0 ∨ lnx σ a15 ≤ Int32.toNatClampNeg x3) then
        (x1 : Option Nat).bind fun a18 =>
        if kdx σ a18 = 11 then
        ((R a18 2) : Option Nat).bind fun a20 =>
        if kdx σ a20 = 26 then
        if ¬ (x3 < 0 ∨ lnx σ a20 ≤ Int32.toNatClampNeg x3) then
        (fr σ I J R (R a15 (Int32.toNatClampNeg x3)) (R a20 (Int32.toNatClampNeg x3)) (x2 + (1 : Int32))).bind fun r23 =>
        if r23 = 0 then
          some (0 : Int32)
        else
          let v25 := x3 + (1 : Int32)
          gX11_equalThings_l67 fr σ I J R n x0 x1 x2 v25
        else none
        else none
        else none
        else none
    else none
    else none
theorem eX11_equalThings_l67 {σ : Shp} {I : Nat → Nat → Int32} {J : Nat → Nat → Int64} {R : Nat → Nat → Option Nat} (hS : Skel σ R) {ff : (Shp) → (Nat → Nat → Int32) → (Nat → Nat → Int64) → (Nat → Nat → Option Nat) → (Option Nat) → (Option Nat) → (Int32) → Option ((Int32))} {fr : (Shp) → (Nat → Nat → Int32) → (Nat → Nat → Int64) → (Nat → Nat → Option Nat) → (Option Nat) → (Option Nat) → (Int32) → Option ((Int32))} (ihn : ∀ {σ : Shp} {I : Nat → Nat → Int32} {J : Nat → Nat → Int64} {R : Nat → Nat → Option Nat} {x0 : Option Nat} {x1 : Option Nat} {x2 : Int32}, Skel σ R → ff σ I J R x0 x1 x2 = fr σ I J R x0 x1 x2) : ∀ (n : Nat) (x0 : Option Nat) (x1 : Option Nat) (x2 : Int32) (x3 : Int32), fX11_equalThings_l67 ff σ I J R n x0 x1 x2 x3 = gX11_equalThings_l67 fr σ I J R n x0 x1 x2 x3 := by
  intro n
  induction n with
  | zero => intro x0 x1 x2 x3; rfl
  | succ n ih =>
    intro x0 x1 x2 x3
    rw [fX11_equalThings_l67, gX11_equalThings_l67]
    refine bb (fun a13 ha13 => ?_)
    refine bg (fun g14 => ?_)
    refine bb (fun a15 ha15 => ?_)
    refine bg (fun g16 => ?_)
    refine bi (fun c => ?_) (fun c => ?_)
    · rfl
    · refine bi (fun c => ?_) (fun c => ?_)
      · refine bg (fun g26 => ?_)
        refine bb (fun a27 ha27 => ?_)
        refine bg (fun g28 => ?_)
        refine bb (fun a29 ha29 => ?_)
        refine bg (fun g30 => ?_)
        refine bg (fun g31 => ?_)
        refine bg (fun g32 => ?_)
        refine bg (fun g33 => ?_)
        refine bi (fun c => ?_) (fun c => ?_)
        · refine bi (fun c => ?_) (fun c => ?_)
          · rfl
          · exact ih _ _ _ _
        · refine bi (fun c => ?_) (fun c => ?_)
          · rfl
          · exact ih _ _ _ _
      · refine bg (fun g17 => ?_)
        refine bb (fun a18 ha18 => ?_)
        refine bg (fun g19 => ?_)
        refine bb (fun a20 ha20 => ?_)
        refine bg (fun g21 => ?_)
        refine bg (fun g22 => ?_)
        refine bc (ihn hS) (fun r23 hc24 => ?_)
        refine bi (fun c => ?_) (fun c => ?_)
        · rfl
        · exact ih _ _ _ _
def gX11_equalThings : Nat → (Shp) → (Nat → Nat → Int32) → (Nat → Nat → Int64) → (Nat → Nat → Option Nat) → (Option Nat) → (Option Nat) → (Int32) → Option ((Int32))
  | 0, _, _, _, _, _, _, _ => none
  | n + 1, σ, I, J, R, x0, x1, x2 =>
    if okR σ 11 x0 = true then
    if okR σ 11 x1 = true then
    if x0 = x1 then
      some (1 : Int32)
    else
      onl x0
        (
          some (0 : Int32))
        (fun a3 =>
          onl x1
            (
              some (0 : Int32))
            (fun a4 =>
              if kdx σ a3 = 11 then
              if kdx σ a4 = 11 then
              if (I a3 0) = (I a4 0) then
                if (I a3 0) = (16 : Int32) then
                  some (0 : Int32)
                else
                  if x2 ≤ (3 : Int32) then
                    (gX11_equalCells σ J R (some a3) (some a4)).bind fun r7 =>
                    if r7 = 0 then
                      some (0 : Int32)
                    else
                      ((R a3 2) : Option Nat).bind fun a9 =>
                      if kdx σ a9 = 26 then
                      ((R a4 2) : Option Nat).bind fun a11 =>
                      if kdx σ a11 = 26 then
                      if (Int32.ofNat (lnx σ a9)) = (Int32.ofNat (lnx σ a11)) then
                        gX11_equalThings_l67 (gX11_equalThings n) σ I J R FUx x0 x1 x2 (0 : Int32)
                      else
                        some (0 : Int32)
                      else none
                      else none
                  else
                    some (0 : Int32)
              else
                some (0 : Int32)
              else none
              else none))
    else none
    else none
theorem eX11_equalThings : ∀ (n : Nat) {σ : Shp} {I : Nat → Nat → Int32} {J : Nat → Nat → Int64} {R : Nat → Nat → Option Nat} {x0 : Option Nat} {x1 : Option Nat} {x2 : Int32}, Skel σ R → fX11_equalThings n σ I J R x0 x1 x2 = gX11_equalThings n σ I J R x0 x1 x2 := by
  intro n
  induction n with
  | zero => intro σ I J R x0 x1 x2 hS; rfl
  | succ n ihn =>
    intro σ I J R x0 x1 x2 hS
    rw [fX11_equalThings, gX11_equalThings]
    refine bg (fun g1 => ?_)
    refine bg (fun g2 => ?_)
    refine bi (fun c => ?_) (fun c => ?_)
    · rfl
    · refine bo (fun ea3 => ?_) (fun a3 ha3 => ?_)
      · rfl
      · refine bo (fun ea4 => ?_) (fun a4 ha4 => ?_)
        · rfl
        · refine bg (fun g5 => ?_)
          refine bg (fun g6 => ?_)
          refine bi (fun c => ?_) (fun c => ?_)
          · refine bi (fun c => ?_) (fun c => ?_)
            · rfl
            · refine bi (fun c => ?_) (fun c => ?_)
              · refine bc (eX11_equalCells hS) (fun r7 hc8 => ?_)
                refine bi (fun c => ?_) (fun c => ?_)
                · rfl
                · refine bb (fun a9 ha9 => ?_)
                  refine bg (fun g10 => ?_)
                  refine bb (fun a11 ha11 => ?_)
                  refine bg (fun g12 => ?_)
                  refine bi (fun c => ?_) (fun c => ?_)
                  · exact eX11_equalThings_l67 hS ihn _ _ _ _ _
                  · rfl
              · rfl
          · rfl
def gX11_alike (σ : Shp) (I : Nat → Nat → Int32) (J : Nat → Nat → Int64) (R : Nat → Nat → Option Nat) (x1 : Int32) (x2 : Int32) : Option ((Int32)) :=
  if (fX11_isBin x1) = 0 then
    some (-2 : Int32)
  else
    if (fX11_isBin x2) = 0 then
      some (-2 : Int32)
    else
      if ¬ (x1 < 0 ∨ 16 ≤ Int32.toNatClampNeg x1) then
      if ¬ (x2 < 0 ∨ 16 ≤ Int32.toNatClampNeg x2) then
      if okR σ 11 (R 6 (Int32.toNatClampNeg x1)) = true then
      if okR σ 11 (R 6 (Int32.toNatClampNeg x2)) = true then
      if (R 6 (Int32.toNatClampNeg x1)) = (R 6 (Int32.toNatClampNeg x2)) then
        some (2 : Int32)
      else
        (gX11_equalThings 8 σ I J R (R 6 (Int32.toNatClampNeg x1)) (R 6 (Int32.toNatClampNeg x2)) (0 : Int32)).bind fun r5 =>
        if r5 = 0 then
          some (0 : Int32)
        else
          some (1 : Int32)
      else none
      else none
      else none
      else none
theorem eX11_alike {σ : Shp} {I : Nat → Nat → Int32} {J : Nat → Nat → Int64} {R : Nat → Nat → Option Nat} {x1 : Int32} {x2 : Int32} (hS : Skel σ R) : fX11_alike σ I J R 4 x1 x2 = gX11_alike σ I J R x1 x2 := by
  unfold fX11_alike gX11_alike
  refine bi (fun c => ?_) (fun c => ?_)
  · rfl
  · refine bi (fun c => ?_) (fun c => ?_)
    · rfl
    · refine sg (kq4 hS) ?_
      refine sb (rq4_1 hS) ?_
      refine sg (kq6 hS) ?_
      refine bgr (by rw [lq6 hS]) (fun g1 => ?_)
      try with_reducible refine sg (kq4 hS) ?_
      try with_reducible refine sg (kq6 hS) ?_
      refine bgr (by rw [lq6 hS]) (fun g2 => ?_)
      refine bg (fun g3 => ?_)
      refine bg (fun g4 => ?_)
      refine bi (fun c => ?_) (fun c => ?_)
      · rfl
      · try with_reducible refine sg (kq4 hS) ?_
        try with_reducible refine sg (kq6 hS) ?_
        try with_reducible refine sg (by rw [lq6 hS]; exact g1) ?_
        try with_reducible refine sg (kq4 hS) ?_
        try with_reducible refine sg (kq6 hS) ?_
        try with_reducible refine sg (by rw [lq6 hS]; exact g2) ?_
        refine bc (eX11_equalThings _ hS) (fun r5 hc6 => ?_)
        refine bi (fun c => ?_) (fun c => ?_)
        · rfl
        · rfl
def gX11_size (σ : Shp) (I : Nat → Nat → Int32) (R : Nat → Nat → Option Nat) (x1 : Int32) (x2 : Int32) : Option ((Nat → Nat → Int32) × (Int32)) :=
  if (fX11_isBin x1) = 0 then
    some (I, (-2 : Int32))
  else
    if x2 < 0 then
      some (I, (-2 : Int32))
    else
      if x2 ≤ (1 : Int32) then
        if ¬ (x1 < 0 ∨ 16 ≤ Int32.toNatClampNeg x1) then
        let v2 := (R 6 (Int32.toNatClampNeg x1))
        onl v2
          (
            (gX11_fail I (1 : Int32)).bind fun (I4, r5) =>
            some (I4, r5))
          (fun a3 =>
            (gX11_isRow σ I (some a3)).bind fun r7 =>
            if r7 = 0 then
              if kdx σ a3 = 11 then
              if (fX11_isPlacesForm (I a3 0)) = 0 then
                (gX11_fail I (4 : Int32)).bind fun (I20, r21) =>
                some (I20, r21)
              else
                if x2 = 0 then
                  (gX10_length σ I R a3).bind fun r18 =>
                  some (I, r18)
                else
                  (gX10_emptyPlaces σ R a3).bind fun r16 =>
                  some (I, r16)
              else none
            else
              if x2 = 0 then
                if kdx σ a3 = 11 then
                (gX10_length σ I R a3).bind fun r13 =>
                some (I, r13)
                else none
              else
                if kdx σ a3 = 11 then
                (gX10_emptyPlaces σ R a3).bind fun r10 =>
                some (I, r10)
                else none)
        else none
      else
        some (I, (-2 : Int32))
theorem eX11_size {σ : Shp} {I : Nat → Nat → Int32} {R : Nat → Nat → Option Nat} {x1 : Int32} {x2 : Int32} (hS : Skel σ R) : fX11_size σ I R 4 x1 x2 = gX11_size σ I R x1 x2 := by
  unfold fX11_size gX11_size
  refine bi (fun c => ?_) (fun c => ?_)
  · rfl
  · refine bi (fun c => ?_) (fun c => ?_)
    · rfl
    · refine bi (fun c => ?_) (fun c => ?_)
      · refine sg (kq4 hS) ?_
        refine sb (rq4_1 hS) ?_
        refine sg (kq6 hS) ?_
        refine bgr (by rw [lq6 hS]) (fun g1 => ?_)
        refine bo (fun ea3 => ?_) (fun a3 ha3 => ?_)
        · try with_reducible refine sg (kq4 hS) ?_
          refine bc (eX11_fail hS) (fun pp hc6 => ?_)
          obtain ⟨I4, r5⟩ := pp
          rfl
        · refine bc (eX11_isRow hS) (fun r7 hc8 => ?_)
          refine bi (fun c => ?_) (fun c => ?_)
          · refine bg (fun g15 => ?_)
            refine bi (fun c => ?_) (fun c => ?_)
            · try with_reducible refine sg (kq4 hS) ?_
              refine bc (eX11_fail hS) (fun pp hc22 => ?_)
              obtain ⟨I20, r21⟩ := pp
              rfl
            · refine bi (fun c => ?_) (fun c => ?_)
              · refine bc (eX10_length hS) (fun r18 hc19 => ?_)
                rfl
              · refine bc (eX10_emptyPlaces hS) (fun r16 hc17 => ?_)
                rfl
          · refine bi (fun c => ?_) (fun c => ?_)
            · refine bg (fun g12 => ?_)
              refine bc (eX10_length hS) (fun r13 hc14 => ?_)
              rfl
            · refine bg (fun g9 => ?_)
              refine bc (eX10_emptyPlaces hS) (fun r10 hc11 => ?_)
              rfl
      · rfl
def gX11_depthOf (σ : Shp) (I : Nat → Nat → Int32) (x0 : Option Nat) : Option ((Int32)) :=
  onl x0
    (
      some (0 : Int32))
    (fun a1 =>
      if kdx σ a1 = 11 then
      some (I a1 7)
      else none)
theorem eX11_depthOf {σ : Shp} {I : Nat → Nat → Int32} {R : Nat → Nat → Option Nat} {x0 : Option Nat} (hS : Skel σ R) : fX11_depthOf σ I x0 = gX11_depthOf σ I x0 := by
  unfold fX11_depthOf gX11_depthOf
  refine bo (fun ea1 => ?_) (fun a1 ha1 => ?_)
  · rfl
  · refine bg (fun g2 => ?_)
    rfl
def gX11_plant_b207  (σ : Shp) (I : Nat → Nat → Int32) (R : Nat → Nat → Option Nat) (x1 : Int32) (x2 : Int32) (x3 : Int32) (x4 : Int32) (x7 : Option Nat) : Option ((Shp) × (Nat → Nat → Int32) × (Nat → Nat → Option Nat) × (Int32)) :=
  (x7 : Option Nat).bind fun a9 =>
  if kdx σ a9 = 11 then
  let I11 := u2 I a9 3 x2
  let I12 := u2 I11 a9 5 x3
  let I13 := u2 I12 a9 6 x4
  let I14 := u2 I13 a9 4 (I13 4 15)
  let I15 := u2 I14 4 15 ((I14 4 15) + (1 : Int32))
  let I16 := u2 I15 4 12 ((I15 4 12) + (1 : Int32))
  if ¬ (x1 < 0 ∨ 16 ≤ Int32.toNatClampNeg x1) then
  let R18 := u2 R 6 (Int32.toNatClampNeg x1) (some a9)
  some (σ, I16, R18, (I16 a9 4))
  else none
  else none
theorem eX11_plant_b207 {σ : Shp} {I : Nat → Nat → Int32} {R : Nat → Nat → Option Nat} {x1 : Int32} {x2 : Int32} {x3 : Int32} {x4 : Int32} {x7 : Option Nat} (hS : Skel σ R) : fX11_plant_b207 4 σ I R x1 x2 x3 x4 x7 = gX11_plant_b207 σ I R x1 x2 x3 x4 x7 := by
  unfold fX11_plant_b207 gX11_plant_b207
  refine bb (fun a9 ha9 => ?_)
  refine bg (fun g10 => ?_)
  let I11 := u2 I a9 3 x2
  let I12 := u2 I11 a9 5 x3
  let I13 := u2 I12 a9 6 x4
  refine sg (kq4 hS) ?_
  let I14 := u2 I13 a9 4 (I13 4 15)
  try with_reducible refine sg (kq4 hS) ?_
  try with_reducible refine sg (kq4 hS) ?_
  let I15 := u2 I14 4 15 ((I14 4 15) + (1 : Int32))
  try with_reducible refine sg (kq4 hS) ?_
  try with_reducible refine sg (kq4 hS) ?_
  let I16 := u2 I15 4 12 ((I15 4 12) + (1 : Int32))
  try with_reducible refine sg (kq4 hS) ?_
  refine sb (rq4_1 hS) ?_
  refine sg (kq6 hS) ?_
  refine bgr (by rw [lq6 hS]) (fun g17 => ?_)
  let R18 := u2 R 6 (Int32.toNatClampNeg x1) (some a9)
  have hS := hS.setR (k := (Int32.toNatClampNeg x1)) (v := (some a9)) (Or.inl (kq6 hS))
  rfl
theorem pX11_plant_b207 {σ : Shp} {I : Nat → Nat → Int32} {R : Nat → Nat → Option Nat} {x1 : Int32} {x2 : Int32} {x3 : Int32} {x4 : Int32} {x7 : Option Nat} {σ9 : Shp} {I9 : Nat → Nat → Int32} {R9 : Nat → Nat → Option Nat} {r9 : Int32} (hS : Skel σ R) (h : gX11_plant_b207 σ I R x1 x2 x3 x4 x7 = some (σ9, I9, R9, r9)) : Skel σ9 R9 := by
  unfold gX11_plant_b207 at h
  obtain ⟨a9, ha9, h⟩ := ob h
  obtain ⟨g10, h⟩ := gd h
  let I11 := u2 I a9 3 x2
  let I12 := u2 I11 a9 5 x3
  let I13 := u2 I12 a9 6 x4
  let I14 := u2 I13 a9 4 (I13 4 15)
  let I15 := u2 I14 4 15 ((I14 4 15) + (1 : Int32))
  let I16 := u2 I15 4 12 ((I15 4 12) + (1 : Int32))
  obtain ⟨g17, h⟩ := gd h
  let R18 := u2 R 6 (Int32.toNatClampNeg x1) (some a9)
  have hS := hS.setR (k := (Int32.toNatClampNeg x1)) (v := (some a9)) (Or.inl (kq6 hS))
  cases h
  exact hS
def gX11_plant_b75  (σ : Shp) (I : Nat → Nat → Int32) (R : Nat → Nat → Option Nat) (x1 : Int32) (x2 : Int32) (x3 : Int32) (x4 : Int32) (x5 : Int32) (x6 : Int32) (s0 : Nat) (s1 : Nat) (s2 : Int32) (s3 : Nat) (s4 : Nat) : Option ((Shp) × (Nat → Nat → Int32) × (Nat → Nat → Option Nat) × (Int32)) :=
  if kdx σ s1 = 11 then
  (gX10_init σ I R s1 s2 (some s3) (some s4)).bind fun (I6, R7) =>
  if x2 = (2 : Int32) then
    if (fX11_isBin x5) = 0 then
      gX11_plant_b207 σ I6 R7 x1 x2 x3 x4 (some s0)
    else
      if (fX11_isBin x6) = 0 then
        gX11_plant_b207 σ I6 R7 x1 x2 x3 x4 (some s0)
      else
        if ¬ (x5 < 0 ∨ 16 ≤ Int32.toNatClampNeg x5) then
        (gX11_goesFor σ I6 (R7 6 (Int32.toNatClampNeg x5)) (16 : Int32)).bind fun r20 =>
        if r20 = 0 then
          (gX11_fail I6 (4 : Int32)).bind fun (I22, r23) =>
          some (σ, I22, R7, r23)
        else
          if ¬ (x6 < 0 ∨ 16 ≤ Int32.toNatClampNeg x6) then
          (gX11_goesFor σ I6 (R7 6 (Int32.toNatClampNeg x6)) (16 : Int32)).bind fun r26 =>
          if r26 = 0 then
            (gX11_fail I6 (4 : Int32)).bind fun (I44, r45) =>
            some (σ, I44, R7, r45)
          else
            (gX11_depthOf σ I6 (R7 6 (Int32.toNatClampNeg x5))).bind fun r28 =>
            (gX11_depthOf σ I6 (R7 6 (Int32.toNatClampNeg x6))).bind fun r30 =>
            if kdx σ s0 = 11 then
            let I33 := u2 I6 s0 7 ((1 : Int32) + (fXM_maxI r28 r30))
            if (I33 s0 7) ≤ (4 : Int32) then
              ((R7 s0 2) : Option Nat).bind fun a34 =>
              if kdx σ a34 = 26 then
              if ¬ ((0 : Int32) < 0 ∨ lnx σ a34 ≤ Int32.toNatClampNeg (0 : Int32)) then
              if okR σ 11 (R7 6 (Int32.toNatClampNeg x5)) = true then
              let R38 := u2 R7 a34 (Int32.toNatClampNeg (0 : Int32)) (R7 6 (Int32.toNatClampNeg x5))
              ((R38 s0 2) : Option Nat).bind fun a39 =>
              if kdx σ a39 = 26 then
              if ¬ ((1 : Int32) < 0 ∨ lnx σ a39 ≤ Int32.toNatClampNeg (1 : Int32)) then
              if okR σ 11 (R38 6 (Int32.toNatClampNeg x6)) = true then
              let R43 := u2 R38 a39 (Int32.toNatClampNeg (1 : Int32)) (R38 6 (Int32.toNatClampNeg x6))
              gX11_plant_b207 σ I33 R43 x1 x2 x3 x4 (some s0)
              else none
              else none
              else none
              else none
              else none
              else none
            else
              some (σ, I33, R7, (-4 : Int32))
            else none
          else none
        else none
  else
    gX11_plant_b207 σ I6 R7 x1 x2 x3 x4 (some s0)
  else none
theorem eX11_plant_b75 {σ : Shp} {I : Nat → Nat → Int32} {R : Nat → Nat → Option Nat} {x1 : Int32} {x2 : Int32} {x3 : Int32} {x4 : Int32} {x5 : Int32} {x6 : Int32} {s0 : Nat} {s1 : Nat} {s2 : Int32} {s3 : Nat} {s4 : Nat} (hS : Skel σ R) : fX11_plant_b75 4 σ I R x1 x2 x3 x4 x5 x6 s0 s1 s2 s3 s4 = gX11_plant_b75 σ I R x1 x2 x3 x4 x5 x6 s0 s1 s2 s3 s4 := by
  unfold fX11_plant_b75 gX11_plant_b75
  refine bg (fun g5 => ?_)
  refine bc (eX10_init hS) (fun pp hc8 => ?_)
  obtain ⟨I6, R7⟩ := pp
  have hS := pX10_init hS hc8
  refine bi (fun c => ?_) (fun c => ?_)
  · refine bi (fun c => ?_) (fun c => ?_)
    · exact eX11_plant_b207 hS
    · refine bi (fun c => ?_) (fun c => ?_)
      · exact eX11_plant_b207 hS
      · refine sg (kq4 hS) ?_
        refine sb (rq4_1 hS) ?_
        refine sg (kq6 hS) ?_
        refine bgr (by rw [lq6 hS]) (fun g19 => ?_)
        refine bc (eX11_goesFor hS) (fun r20 hc21 => ?_)
        refine bi (fun c => ?_) (fun c => ?_)
        · try with_reducible refine sg (kq4 hS) ?_
          refine bc (eX11_fail hS) (fun pp hc24 => ?_)
          obtain ⟨I22, r23⟩ := pp
          rfl
        · try with_reducible refine sg (kq4 hS) ?_
          try with_reducible refine sg (kq6 hS) ?_
          refine bgr (by rw [lq6 hS]) (fun g25 => ?_)
          refine bc (eX11_goesFor hS) (fun r26 hc27 => ?_)
          refine bi (fun c => ?_) (fun c => ?_)
          · try with_reducible refine sg (kq4 hS) ?_
            refine bc (eX11_fail hS) (fun pp hc46 => ?_)
            obtain ⟨I44, r45⟩ := pp
            rfl
          · try with_reducible refine sg (kq4 hS) ?_
            try with_reducible refine sg (kq6 hS) ?_
            try with_reducible refine sg (by rw [lq6 hS]; exact g19) ?_
            refine bc (eX11_depthOf hS) (fun r28 hc29 => ?_)
            try with_reducible refine sg (kq4 hS) ?_
            try with_reducible refine sg (kq6 hS) ?_
            try with_reducible refine sg (by rw [lq6 hS]; exact g25) ?_
            refine bc (eX11_depthOf hS) (fun r30 hc31 => ?_)
            refine bg (fun g32 => ?_)
            let I33 := u2 I6 s0 7 ((1 : Int32) + (fXM_maxI r28 r30))
            refine bi (fun c => ?_) (fun c => ?_)
            · refine bb (fun a34 ha34 => ?_)
              try with_reducible refine sg (kq4 hS) ?_
              try with_reducible refine sg (kq6 hS) ?_
              try with_reducible refine sg (by rw [lq6 hS]; exact g19) ?_
              refine bg (fun g35 => ?_)
              refine bg (fun g36 => ?_)
              refine bg (fun g37 => ?_)
              let R38 := u2 R7 a34 (Int32.toNatClampNeg (0 : Int32)) (R7 6 (Int32.toNatClampNeg x5))
              have hS := hS.setR (k := (Int32.toNatClampNeg (0 : Int32))) (v := (R7 6 (Int32.toNatClampNeg x5))) (Or.inl g35)
              refine bb (fun a39 ha39 => ?_)
              try with_reducible refine sg (kq4 hS) ?_
              refine sb (rq4_1 hS) ?_
              try with_reducible refine sg (kq6 hS) ?_
              try with_reducible refine sg (by rw [lq6 hS]; exact g25) ?_
              refine bg (fun g40 => ?_)
              refine bg (fun g41 => ?_)
              refine bg (fun g42 => ?_)
              let R43 := u2 R38 a39 (Int32.toNatClampNeg (1 : Int32)) (R38 6 (Int32.toNatClampNeg x6))
              have hS := hS.setR (k := (Int32.toNatClampNeg (1 : Int32))) (v := (R38 6 (Int32.toNatClampNeg x6))) (Or.inl g40)
              exact eX11_plant_b207 hS
            · rfl
  · exact eX11_plant_b207 hS
theorem pX11_plant_b75 {σ : Shp} {I : Nat → Nat → Int32} {R : Nat → Nat → Option Nat} {x1 : Int32} {x2 : Int32} {x3 : Int32} {x4 : Int32} {x5 : Int32} {x6 : Int32} {s0 : Nat} {s1 : Nat} {s2 : Int32} {s3 : Nat} {s4 : Nat} {σ9 : Shp} {I9 : Nat → Nat → Int32} {R9 : Nat → Nat → Option Nat} {r9 : Int32} (hS : Skel σ R) (h : gX11_plant_b75 σ I R x1 x2 x3 x4 x5 x6 s0 s1 s2 s3 s4 = some (σ9, I9, R9, r9)) : Skel σ9 R9 := by
  unfold gX11_plant_b75 at h
  obtain ⟨g5, h⟩ := gd h
  obtain ⟨⟨I6, R7⟩, hc8, h⟩ := ob h
  have hS := pX10_init hS hc8
  rcases itc h with ⟨c, h⟩ | ⟨c, h⟩
  · rcases itc h with ⟨c, h⟩ | ⟨c, h⟩
    · exact pX11_plant_b207 hS h
    · rcases itc h with ⟨c, h⟩ | ⟨c, h⟩
      · exact pX11_plant_b207 hS h
      · obtain ⟨g19, h⟩ := gd h
        obtain ⟨r20, hc21, h⟩ := ob h
        rcases itc h with ⟨c, h⟩ | ⟨c, h⟩
        · obtain ⟨⟨I22, r23⟩, hc24, h⟩ := ob h
          cases h
          exact hS
        · obtain ⟨g25, h⟩ := gd h
          obtain ⟨r26, hc27, h⟩ := ob h
          rcases itc h with ⟨c, h⟩ | ⟨c, h⟩
          · obtain ⟨⟨I44, r45⟩, hc46, h⟩ := ob h
            cases h
            exact hS
          · obtain ⟨r28, hc29, h⟩ := ob h
            obtain ⟨r30, hc31, h⟩ := ob h
            obtain ⟨g32, h⟩ := gd h
            let I33 := u2 I6 s0 7 ((1 : Int32) + (fXM_maxI r28 r30))
            rcases itc h with ⟨c, h⟩ | ⟨c, h⟩
            · obtain ⟨a34, ha34, h⟩ := ob h
              obtain ⟨g35, h⟩ := gd h
              obtain ⟨g36, h⟩ := gd h
              obtain ⟨g37, h⟩ := gd h
              let R38 := u2 R7 a34 (Int32.toNatClampNeg (0 : Int32)) (R7 6 (Int32.toNatClampNeg x5))
              have hS := hS.setR (k := (Int32.toNatClampNeg (0 : Int32))) (v := (R7 6 (Int32.toNatClampNeg x5))) (Or.inl g35)
              obtain ⟨a39, ha39, h⟩ := ob h
              obtain ⟨g40, h⟩ := gd h
              obtain ⟨g41, h⟩ := gd h
              obtain ⟨g42, h⟩ := gd h
              let R43 := u2 R38 a39 (Int32.toNatClampNeg (1 : Int32)) (R38 6 (Int32.toNatClampNeg x6))
              have hS := hS.setR (k := (Int32.toNatClampNeg (1 : Int32))) (v := (R38 6 (Int32.toNatClampNeg x6))) (Or.inl g40)
              exact pX11_plant_b207 hS h
            · cases h
              exact hS
  · exact pX11_plant_b207 hS h
def gX11_plant_b56  (σ : Shp) (I : Nat → Nat → Int32) (R : Nat → Nat → Option Nat) (x1 : Int32) (x2 : Int32) (x3 : Int32) (x4 : Int32) (x5 : Int32) (x6 : Int32) (s0 : Nat) : Option ((Shp) × (Nat → Nat → Int32) × (Nat → Nat → Option Nat) × (Int32)) :=
  if x2 = (2 : Int32) then
    let σ47 := mkA σ 26 (Int32.toNatClampNeg (2 : Int32))
    gX11_plant_b75 σ47 I R x1 x2 x3 x4 x5 x6 s0 s0 (16 : Int32) 0 (nxx σ + 4)
  else
    let σ4 := mkA σ 26 (Int32.toNatClampNeg (0 : Int32))
    gX11_plant_b75 σ4 I R x1 x2 x3 x4 x5 x6 s0 s0 (16 : Int32) 0 (nxx σ + 4)
theorem eX11_plant_b56 {σ : Shp} {I : Nat → Nat → Int32} {R : Nat → Nat → Option Nat} {x1 : Int32} {x2 : Int32} {x3 : Int32} {x4 : Int32} {x5 : Int32} {x6 : Int32} {s0 : Nat} (hS : Skel σ R) : fX11_plant_b56 4 σ I R x1 x2 x3 x4 x5 x6 s0 = gX11_plant_b56 σ I R x1 x2 x3 x4 x5 x6 s0 := by
  unfold fX11_plant_b56 gX11_plant_b56
  refine bi (fun c => ?_) (fun c => ?_)
  · have hS := hS.mkA (t := 26) (n := (Int32.toNatClampNeg (2 : Int32)))
    exact eX11_plant_b75 hS
  · have hS := hS.mkA (t := 26) (n := (Int32.toNatClampNeg (0 : Int32)))
    exact eX11_plant_b75 hS
theorem pX11_plant_b56 {σ : Shp} {I : Nat → Nat → Int32} {R : Nat → Nat → Option Nat} {x1 : Int32} {x2 : Int32} {x3 : Int32} {x4 : Int32} {x5 : Int32} {x6 : Int32} {s0 : Nat} {σ9 : Shp} {I9 : Nat → Nat → Int32} {R9 : Nat → Nat → Option Nat} {r9 : Int32} (hS : Skel σ R) (h : gX11_plant_b56 σ I R x1 x2 x3 x4 x5 x6 s0 = some (σ9, I9, R9, r9)) : Skel σ9 R9 := by
  unfold gX11_plant_b56 at h
  rcases itc h with ⟨c, h⟩ | ⟨c, h⟩
  · have hS := hS.mkA (t := 26) (n := (Int32.toNatClampNeg (2 : Int32)))
    exact pX11_plant_b75 hS h
  · have hS := hS.mkA (t := 26) (n := (Int32.toNatClampNeg (0 : Int32)))
    exact pX11_plant_b75 hS h
def gX11_plant (σ : Shp) (I : Nat → Nat → Int32) (R : Nat → Nat → Option Nat) (x1 : Int32) (x2 : Int32) (x3 : Int32) (x4 : Int32) (x5 : Int32) (x6 : Int32) : Option ((Shp) × (Nat → Nat → Int32) × (Nat → Nat → Option Nat) × (Int32)) :=
  if (fX11_isBin x1) = 0 then
    some (σ, I, R, (-2 : Int32))
  else
    if x2 < 0 then
      some (σ, I, R, (-2 : Int32))
    else
      if x2 ≤ (5 : Int32) then
        if x2 = (2 : Int32) then
          if (fX11_isBin x5) = 0 then
            some (σ, I, R, (-2 : Int32))
          else
            if (fX11_isBin x6) = 0 then
              some (σ, I, R, (-2 : Int32))
            else
              (gX11_isFull I).bind fun r48 =>
              if r48 = 0 then
                let σ50 := mkO σ 11 9
                gX11_plant_b56 σ50 I R x1 x2 x3 x4 x5 x6 (nxx σ + 4)
              else
                some (σ, I, R, (-4 : Int32))
        else
          (gX11_isFull I).bind fun r1 =>
          if r1 = 0 then
            let σ3 := mkO σ 11 9
            gX11_plant_b56 σ3 I R x1 x2 x3 x4 x5 x6 (nxx σ + 4)
          else
            some (σ, I, R, (-4 : Int32))
      else
        some (σ, I, R, (-2 : Int32))
theorem pX11_plant {σ : Shp} {I : Nat → Nat → Int32} {R : Nat → Nat → Option Nat} {x1 : Int32} {x2 : Int32} {x3 : Int32} {x4 : Int32} {x5 : Int32} {x6 : Int32} {σ9 : Shp} {I9 : Nat → Nat → Int32} {R9 : Nat → Nat → Option Nat} {r9 : Int32} (hS : Skel σ R) (h : gX11_plant σ I R x1 x2 x3 x4 x5 x6 = some (σ9, I9, R9, r9)) : Skel σ9 R9 := by
  unfold gX11_plant at h
  rcases itc h with ⟨c, h⟩ | ⟨c, h⟩
  · cases h
    exact hS
  · rcases itc h with ⟨c, h⟩ | ⟨c, h⟩
    · cases h
      exact hS
    · rcases itc h with ⟨c, h⟩ | ⟨c, h⟩
      · rcases itc h with ⟨c, h⟩ | ⟨c, h⟩
        · rcases itc h with ⟨c, h⟩ | ⟨c, h⟩
          · cases h
            exact hS
          · rcases itc h with ⟨c, h⟩ | ⟨c, h⟩
            · cases h
              exact hS
            · obtain ⟨r48, hc49, h⟩ := ob h
              rcases itc h with ⟨c, h⟩ | ⟨c, h⟩
              · have hS := hS.mkO (t := 11) (n := 9)
                exact pX11_plant_b56 hS h
              · cases h
                exact hS
        · obtain ⟨r1, hc2, h⟩ := ob h
          rcases itc h with ⟨c, h⟩ | ⟨c, h⟩
          · have hS := hS.mkO (t := 11) (n := 9)
            exact pX11_plant_b56 hS h
          · cases h
            exact hS
      · cases h
        exact hS
theorem eX11_plant {σ : Shp} {I : Nat → Nat → Int32} {R : Nat → Nat → Option Nat} {x1 : Int32} {x2 : Int32} {x3 : Int32} {x4 : Int32} {x5 : Int32} {x6 : Int32} (hS : Skel σ R) : fX11_plant σ I R 4 x1 x2 x3 x4 x5 x6 = gX11_plant σ I R x1 x2 x3 x4 x5 x6 := by
  unfold fX11_plant gX11_plant
  refine bi (fun c => ?_) (fun c => ?_)
  · rfl
  · refine bi (fun c => ?_) (fun c => ?_)
    · rfl
    · refine bi (fun c => ?_) (fun c => ?_)
      · refine bi (fun c => ?_) (fun c => ?_)
        · refine bi (fun c => ?_) (fun c => ?_)
          · rfl
          · refine bi (fun c => ?_) (fun c => ?_)
            · rfl
            · refine sg (kq4 hS) ?_
              refine bc (eX11_isFull hS) (fun r48 hc49 => ?_)
              refine bi (fun c => ?_) (fun c => ?_)
              · have hS := hS.mkO (t := 11) (n := 9)
                exact eX11_plant_b56 hS
              · rfl
        · refine sg (kq4 hS) ?_
          refine bc (eX11_isFull hS) (fun r1 hc2 => ?_)
          refine bi (fun c => ?_) (fun c => ?_)
          · have hS := hS.mkO (t := 11) (n := 9)
            exact eX11_plant_b56 hS
          · rfl
      · rfl
def gX11_tray_b30  (σ : Shp) (I : Nat → Nat → Int32) (R : Nat → Nat → Option Nat) (s0 : Int32) : Option ((Shp) × (Nat → Nat → Int32) × (Nat → Nat → Option Nat) × (Int32)) :=
  some (σ, I, R, s0)
theorem eX11_tray_b30 {σ : Shp} {I : Nat → Nat → Int32} {R : Nat → Nat → Option Nat} {s0 : Int32} (hS : Skel σ R) : fX11_tray_b30 σ I R s0 = gX11_tray_b30 σ I R s0 := by
  unfold fX11_tray_b30 gX11_tray_b30
  rfl
theorem pX11_tray_b30 {σ : Shp} {I : Nat → Nat → Int32} {R : Nat → Nat → Option Nat} {s0 : Int32} {σ9 : Shp} {I9 : Nat → Nat → Int32} {R9 : Nat → Nat → Option Nat} {r9 : Int32} (hS : Skel σ R) (h : gX11_tray_b30 σ I R s0 = some (σ9, I9, R9, r9)) : Skel σ9 R9 := by
  unfold gX11_tray_b30 at h
  cases h
  exact hS
def gX11_tray (σ : Shp) (I : Nat → Nat → Int32) (R : Nat → Nat → Option Nat) (x1 : Int32) (x2 : Int32) (x3 : Int32) : Option ((Shp) × (Nat → Nat → Int32) × (Nat → Nat → Option Nat) × (Int32)) :=
  if (fX11_isBin x1) = 0 then
    some (σ, I, R, (-2 : Int32))
  else
    if (fX11_isTrayForm x2) = 0 then
      some (σ, I, R, (-2 : Int32))
    else
      if x3 ≤ (8 : Int32) then
        (gX11_intoBin σ I R x1 x2 x3).bind fun (σ1, I2, R3, r4) =>
        gX11_tray_b30 σ1 I2 R3 r4
      else
        some (σ, I, R, (-2 : Int32))
theorem pX11_tray {σ : Shp} {I : Nat → Nat → Int32} {R : Nat → Nat → Option Nat} {x1 : Int32} {x2 : Int32} {x3 : Int32} {σ9 : Shp} {I9 : Nat → Nat → Int32} {R9 : Nat → Nat → Option Nat} {r9 : Int32} (hS : Skel σ R) (h : gX11_tray σ I R x1 x2 x3 = some (σ9, I9, R9, r9)) : Skel σ9 R9 := by
  unfold gX11_tray at h
  rcases itc h with ⟨c, h⟩ | ⟨c, h⟩
  · cases h
    exact hS
  · rcases itc h with ⟨c, h⟩ | ⟨c, h⟩
    · cases h
      exact hS
    · rcases itc h with ⟨c, h⟩ | ⟨c, h⟩
      · obtain ⟨⟨σ1, I2, R3, r4⟩, hc5, h⟩ := ob h
        have hS := pX11_intoBin hS hc5
        exact pX11_tray_b30 hS h
      · cases h
        exact hS
theorem eX11_tray {σ : Shp} {I : Nat → Nat → Int32} {R : Nat → Nat → Option Nat} {x1 : Int32} {x2 : Int32} {x3 : Int32} (hS : Skel σ R) : fX11_tray σ I R 4 x1 x2 x3 = gX11_tray σ I R x1 x2 x3 := by
  unfold fX11_tray gX11_tray
  refine bi (fun c => ?_) (fun c => ?_)
  · rfl
  · refine bi (fun c => ?_) (fun c => ?_)
    · rfl
    · refine bi (fun c => ?_) (fun c => ?_)
      · refine sg (kq4 hS) ?_
        refine bc (eX11_intoBin hS) (fun pp hc5 => ?_)
        obtain ⟨σ1, I2, R3, r4⟩ := pp
        have hS := pX11_intoBin hS hc5
        exact eX11_tray_b30 hS
      · rfl
def gX11_ask (σ : Shp) (I : Nat → Nat → Int32) (R : Nat → Nat → Option Nat) (x1 : Int32) (x2 : Int32) : Option ((Nat → Nat → Int32) × (Int32)) :=
  if (fX11_isBin x1) = 0 then
    some (I, (-2 : Int32))
  else
    if x2 < 0 then
      some (I, (-2 : Int32))
    else
      if x2 ≤ (7 : Int32) then
        (gX0_beginAsk I).bind fun I1 =>
        if ¬ (x1 < 0 ∨ 16 ≤ Int32.toNatClampNeg x1) then
        let v4 := (R 6 (Int32.toNatClampNeg x1))
        (gX0_tell σ I1 R v4 x2).bind fun (I5, r6) =>
        if (I5 7 2) = 0 then
          let I8 := u2 I5 4 18 r6
          some (I8, (1 : Int32))
        else
          (gX11_fail I5 (I5 7 2)).bind fun (I9, r10) =>
          some (I9, r10)
        else none
      else
        some (I, (-2 : Int32))
theorem eX11_ask {σ : Shp} {I : Nat → Nat → Int32} {R : Nat → Nat → Option Nat} {x1 : Int32} {x2 : Int32} (hS : Skel σ R) : fX11_ask σ I R 4 x1 x2 = gX11_ask σ I R x1 x2 := by
  unfold fX11_ask gX11_ask
  refine bi (fun c => ?_) (fun c => ?_)
  · rfl
  · refine bi (fun c => ?_) (fun c => ?_)
    · rfl
    · refine bi (fun c => ?_) (fun c => ?_)
      · refine sg (kq4 hS) ?_
        refine sb (rq4_2 hS) ?_
        refine sg (kq7 hS) ?_
        refine bc (eX0_beginAsk hS) (fun I1 hc2 => ?_)
        try with_reducible refine sg (kq4 hS) ?_
        refine sb (rq4_1 hS) ?_
        refine sg (kq6 hS) ?_
        refine bgr (by rw [lq6 hS]) (fun g3 => ?_)
        try with_reducible refine sg (kq4 hS) ?_
        try with_reducible refine sg (kq7 hS) ?_
        refine bc (eX0_tell hS) (fun pp hc7 => ?_)
        obtain ⟨I5, r6⟩ := pp
        try with_reducible refine sg (kq4 hS) ?_
        try with_reducible refine sg (kq7 hS) ?_
        refine bi (fun c => ?_) (fun c => ?_)
        · try with_reducible refine sg (kq4 hS) ?_
          rfl
        · try with_reducible refine sg (kq4 hS) ?_
          try with_reducible refine sg (kq7 hS) ?_
          try with_reducible refine sg (kq4 hS) ?_
          refine bc (eX11_fail hS) (fun pp hc11 => ?_)
          obtain ⟨I9, r10⟩ := pp
          rfl
      · rfl
def gX11_answer (I : Nat → Nat → Int32) : Option ((Int32)) :=
  some (I 4 18)
theorem eX11_answer {σ : Shp} {I : Nat → Nat → Int32} {R : Nat → Nat → Option Nat}  (hS : Skel σ R) : fX11_answer σ I 4 = gX11_answer I := by
  unfold fX11_answer gX11_answer
  refine sg (kq4 hS) ?_
  rfl
def gX11_trace (σ : Shp) (I : Nat → Nat → Int32) (x1 : Int32) : Option ((Int32)) :=
  (gX0_traceAt σ I x1).bind fun r1 =>
  some r1
theorem eX11_trace {σ : Shp} {I : Nat → Nat → Int32} {R : Nat → Nat → Option Nat} {x1 : Int32} (hS : Skel σ R) : fX11_trace σ I R 4 x1 = gX11_trace σ I x1 := by
  unfold fX11_trace gX11_trace
  refine sg (kq4 hS) ?_
  refine sb (rq4_2 hS) ?_
  refine sg (kq7 hS) ?_
  refine bc (eX0_traceAt hS) (fun r1 hc2 => ?_)
  rfl
def gX11_card_b24  (σ : Shp) (I : Nat → Nat → Int32) (R : Nat → Nat → Option Nat) (x1 : Int32) (s0 : Option Nat) : Option ((Shp) × (Nat → Nat → Int32) × (Nat → Nat → Option Nat) × (Int32)) :=
  if ¬ (x1 < 0 ∨ 16 ≤ Int32.toNatClampNeg x1) then
  if okR σ 11 s0 = true then
  let R10 := u2 R 6 (Int32.toNatClampNeg x1) s0
  (s0 : Option Nat).bind fun a11 =>
  if kdx σ a11 = 11 then
  some (σ, I, R10, (I a11 4))
  else none
  else none
  else none
theorem eX11_card_b24 {σ : Shp} {I : Nat → Nat → Int32} {R : Nat → Nat → Option Nat} {x1 : Int32} {s0 : Option Nat} (hS : Skel σ R) : fX11_card_b24 4 σ I R x1 s0 = gX11_card_b24 σ I R x1 s0 := by
  unfold fX11_card_b24 gX11_card_b24
  refine sg (kq4 hS) ?_
  refine sb (rq4_1 hS) ?_
  refine sg (kq6 hS) ?_
  refine bgr (by rw [lq6 hS]) (fun g8 => ?_)
  refine bg (fun g9 => ?_)
  let R10 := u2 R 6 (Int32.toNatClampNeg x1) s0
  have hS := hS.setR (k := (Int32.toNatClampNeg x1)) (v := s0) (Or.inl (kq6 hS))
  refine bb (fun a11 ha11 => ?_)
  refine bg (fun g12 => ?_)
  rfl
theorem pX11_card_b24 {σ : Shp} {I : Nat → Nat → Int32} {R : Nat → Nat → Option Nat} {x1 : Int32} {s0 : Option Nat} {σ9 : Shp} {I9 : Nat → Nat → Int32} {R9 : Nat → Nat → Option Nat} {r9 : Int32} (hS : Skel σ R) (h : gX11_card_b24 σ I R x1 s0 = some (σ9, I9, R9, r9)) : Skel σ9 R9 := by
  unfold gX11_card_b24 at h
  obtain ⟨g8, h⟩ := gd h
  obtain ⟨g9, h⟩ := gd h
  let R10 := u2 R 6 (Int32.toNatClampNeg x1) s0
  have hS := hS.setR (k := (Int32.toNatClampNeg x1)) (v := s0) (Or.inl (kq6 hS))
  obtain ⟨a11, ha11, h⟩ := ob h
  obtain ⟨g12, h⟩ := gd h
  cases h
  exact hS
def gX11_card (σ : Shp) (I : Nat → Nat → Int32) (R : Nat → Nat → Option Nat) (x1 : Int32) : Option ((Shp) × (Nat → Nat → Int32) × (Nat → Nat → Option Nat) × (Int32)) :=
  if (fX11_isBin x1) = 0 then
    some (σ, I, R, (-2 : Int32))
  else
    (gX11_isFull I).bind fun r1 =>
    if r1 = 0 then
      (gX11_newCard σ I R).bind fun (σ3, I4, R5, r6) =>
      gX11_card_b24 σ3 I4 R5 x1 r6
    else
      some (σ, I, R, (-4 : Int32))
theorem pX11_card {σ : Shp} {I : Nat → Nat → Int32} {R : Nat → Nat → Option Nat} {x1 : Int32} {σ9 : Shp} {I9 : Nat → Nat → Int32} {R9 : Nat → Nat → Option Nat} {r9 : Int32} (hS : Skel σ R) (h : gX11_card σ I R x1 = some (σ9, I9, R9, r9)) : Skel σ9 R9 := by
  unfold gX11_card at h
  rcases itc h with ⟨c, h⟩ | ⟨c, h⟩
  · cases h
    exact hS
  · obtain ⟨r1, hc2, h⟩ := ob h
    rcases itc h with ⟨c, h⟩ | ⟨c, h⟩
    · obtain ⟨⟨σ3, I4, R5, r6⟩, hc7, h⟩ := ob h
      have hS := pX11_newCard hS hc7
      exact pX11_card_b24 hS h
    · cases h
      exact hS
theorem eX11_card {σ : Shp} {I : Nat → Nat → Int32} {R : Nat → Nat → Option Nat} {x1 : Int32} (hS : Skel σ R) : fX11_card σ I R 4 x1 = gX11_card σ I R x1 := by
  unfold fX11_card gX11_card
  refine bi (fun c => ?_) (fun c => ?_)
  · rfl
  · refine sg (kq4 hS) ?_
    refine bc (eX11_isFull hS) (fun r1 hc2 => ?_)
    refine bi (fun c => ?_) (fun c => ?_)
    · try with_reducible refine sg (kq4 hS) ?_
      refine bc (eX11_newCard hS) (fun pp hc7 => ?_)
      obtain ⟨σ3, I4, R5, r6⟩ := pp
      have hS := pX11_newCard hS hc7
      exact eX11_card_b24 hS
    · rfl
def gX11_field (σ : Shp) (I : Nat → Nat → Int32) (J : Nat → Nat → Int64) (R : Nat → Nat → Option Nat) (x1 : Int32) (x2 : Int32) : Option ((Nat → Nat → Int32) × (Int64)) :=
  if (fX11_isBin x1) = 0 then
    some (I, (0 : Int64))
  else
    if (fX11_isLane x2) = 0 then
      some (I, (0 : Int64))
    else
      if ¬ (x1 < 0 ∨ 16 ≤ Int32.toNatClampNeg x1) then
      let v2 := (R 6 (Int32.toNatClampNeg x1))
      (gX11_takenFault σ I v2 (17 : Int32)).bind fun r3 =>
      if r3 = 0 then
        onl v2
          (
            (gX11_fail I r3).bind fun (I9, r10) =>
            some (I9, (0 : Int64)))
          (fun a8 =>
            if kdx σ a8 = 11 then
            ((R a8 1) : Option Nat).bind fun a13 =>
            if kdx σ a13 = 21 then
            if ¬ (x2 < 0 ∨ lnx σ a13 ≤ Int32.toNatClampNeg x2) then
            some (I, (J a13 (Int32.toNatClampNeg x2)))
            else none
            else none
            else none)
      else
        (gX11_fail I r3).bind fun (I5, r6) =>
        some (I5, (0 : Int64))
      else none
theorem eX11_field {σ : Shp} {I : Nat → Nat → Int32} {J : Nat → Nat → Int64} {R : Nat → Nat → Option Nat} {x1 : Int32} {x2 : Int32} (hS : Skel σ R) : fX11_field σ I J R 4 x1 x2 = gX11_field σ I J R x1 x2 := by
  unfold fX11_field gX11_field
  refine bi (fun c => ?_) (fun c => ?_)
  · rfl
  · refine bi (fun c => ?_) (fun c => ?_)
    · rfl
    · refine sg (kq4 hS) ?_
      refine sb (rq4_1 hS) ?_
      refine sg (kq6 hS) ?_
      refine bgr (by rw [lq6 hS]) (fun g1 => ?_)
      refine bc (eX11_takenFault hS) (fun r3 hc4 => ?_)
      refine bi (fun c => ?_) (fun c => ?_)
      · refine bo (fun ea8 => ?_) (fun a8 ha8 => ?_)
        · try with_reducible refine sg (kq4 hS) ?_
          refine bc (eX11_fail hS) (fun pp hc11 => ?_)
          obtain ⟨I9, r10⟩ := pp
          rfl
        · refine bg (fun g12 => ?_)
          refine bb (fun a13 ha13 => ?_)
          refine bg (fun g14 => ?_)
          refine bg (fun g15 => ?_)
          rfl
      · try with_reducible refine sg (kq4 hS) ?_
        refine bc (eX11_fail hS) (fun pp hc7 => ?_)
        obtain ⟨I5, r6⟩ := pp
        rfl
def gX11_setField (σ : Shp) (I : Nat → Nat → Int32) (J : Nat → Nat → Int64) (R : Nat → Nat → Option Nat) (x1 : Int32) (x2 : Int32) (x3 : Int64) : Option ((Nat → Nat → Int32) × (Nat → Nat → Int64) × (Int32)) :=
  if (fX11_isBin x1) = 0 then
    some (I, J, (-2 : Int32))
  else
    if (fX11_isLane x2) = 0 then
      some (I, J, (-2 : Int32))
    else
      if ¬ (x1 < 0 ∨ 16 ≤ Int32.toNatClampNeg x1) then
      let v2 := (R 6 (Int32.toNatClampNeg x1))
      (gX11_takenFault σ I v2 (17 : Int32)).bind fun r3 =>
      if r3 = 0 then
        onl v2
          (
            (gX11_fail I r3).bind fun (I9, r10) =>
            some (I9, J, r10))
          (fun a8 =>
            if kdx σ a8 = 11 then
            ((R a8 1) : Option Nat).bind fun a13 =>
            if kdx σ a13 = 21 then
            if ¬ (x2 < 0 ∨ lnx σ a13 ≤ Int32.toNatClampNeg x2) then
            let J16 := u2 J a13 (Int32.toNatClampNeg x2) (fX11_cellOf x2 x3)
            some (I, J16, (1 : Int32))
            else none
            else none
            else none)
      else
        (gX11_fail I r3).bind fun (I5, r6) =>
        some (I5, J, r6)
      else none
theorem eX11_setField {σ : Shp} {I : Nat → Nat → Int32} {J : Nat → Nat → Int64} {R : Nat → Nat → Option Nat} {x1 : Int32} {x2 : Int32} {x3 : Int64} (hS : Skel σ R) : fX11_setField σ I J R 4 x1 x2 x3 = gX11_setField σ I J R x1 x2 x3 := by
  unfold fX11_setField gX11_setField
  refine bi (fun c => ?_) (fun c => ?_)
  · rfl
  · refine bi (fun c => ?_) (fun c => ?_)
    · rfl
    · refine sg (kq4 hS) ?_
      refine sb (rq4_1 hS) ?_
      refine sg (kq6 hS) ?_
      refine bgr (by rw [lq6 hS]) (fun g1 => ?_)
      refine bc (eX11_takenFault hS) (fun r3 hc4 => ?_)
      refine bi (fun c => ?_) (fun c => ?_)
      · refine bo (fun ea8 => ?_) (fun a8 ha8 => ?_)
        · try with_reducible refine sg (kq4 hS) ?_
          refine bc (eX11_fail hS) (fun pp hc11 => ?_)
          obtain ⟨I9, r10⟩ := pp
          rfl
        · refine bg (fun g12 => ?_)
          refine bb (fun a13 ha13 => ?_)
          refine bg (fun g14 => ?_)
          refine bg (fun g15 => ?_)
          rfl
      · try with_reducible refine sg (kq4 hS) ?_
        refine bc (eX11_fail hS) (fun pp hc7 => ?_)
        obtain ⟨I5, r6⟩ := pp
        rfl
def gX11_lead_b61  (σ : Shp) (I : Nat → Nat → Int32) (R : Nat → Nat → Option Nat) (x2 : Int32) (x3 : Int32) (x4 : Option Nat) (s0 : Option Nat) (s1 : Int32) : Option ((Nat → Nat → Int32) × (Nat → Nat → Option Nat) × (Int32)) :=
  (gX11_goesFor σ I s0 s1).bind fun r9 =>
  if r9 = 0 then
    (gX11_fail I (4 : Int32)).bind fun (I22, r23) =>
    some (I22, R, r23)
  else
    onl x4
      (
        (gX11_fail I (1 : Int32)).bind fun (I12, r13) =>
        some (I12, R, r13))
      (fun a11 =>
        if kdx σ a11 = 11 then
        ((R a11 2) : Option Nat).bind fun a16 =>
        if ¬ (x3 < 0 ∨ 16 ≤ Int32.toNatClampNeg x3) then
        if kdx σ a16 = 26 then
        if ¬ (x2 < 0 ∨ lnx σ a16 ≤ Int32.toNatClampNeg x2) then
        if okR σ 11 (R 6 (Int32.toNatClampNeg x3)) = true then
        let R21 := u2 R a16 (Int32.toNatClampNeg x2) (R 6 (Int32.toNatClampNeg x3))
        some (I, R21, (1 : Int32))
        else none
        else none
        else none
        else none
        else none)
theorem eX11_lead_b61 {σ : Shp} {I : Nat → Nat → Int32} {R : Nat → Nat → Option Nat} {x2 : Int32} {x3 : Int32} {x4 : Option Nat} {s0 : Option Nat} {s1 : Int32} (hS : Skel σ R) : fX11_lead_b61 σ 4 I R x2 x3 x4 s0 s1 = gX11_lead_b61 σ I R x2 x3 x4 s0 s1 := by
  unfold fX11_lead_b61 gX11_lead_b61
  refine bc (eX11_goesFor hS) (fun r9 hc10 => ?_)
  refine bi (fun c => ?_) (fun c => ?_)
  · refine sg (kq4 hS) ?_
    refine bc (eX11_fail hS) (fun pp hc24 => ?_)
    obtain ⟨I22, r23⟩ := pp
    rfl
  · refine bo (fun ea11 => ?_) (fun a11 ha11 => ?_)
    · refine sg (kq4 hS) ?_
      refine bc (eX11_fail hS) (fun pp hc14 => ?_)
      obtain ⟨I12, r13⟩ := pp
      rfl
    · refine bg (fun g15 => ?_)
      refine bb (fun a16 ha16 => ?_)
      refine sg (kq4 hS) ?_
      refine sb (rq4_1 hS) ?_
      refine sg (kq6 hS) ?_
      refine bgr (by rw [lq6 hS]) (fun g17 => ?_)
      refine bg (fun g18 => ?_)
      refine bg (fun g19 => ?_)
      refine bg (fun g20 => ?_)
      let R21 := u2 R a16 (Int32.toNatClampNeg x2) (R 6 (Int32.toNatClampNeg x3))
      have hS := hS.setR (k := (Int32.toNatClampNeg x2)) (v := (R 6 (Int32.toNatClampNeg x3))) (Or.inl g18)
      rfl
theorem pX11_lead_b61 {σ : Shp} {I : Nat → Nat → Int32} {R : Nat → Nat → Option Nat} {x2 : Int32} {x3 : Int32} {x4 : Option Nat} {s0 : Option Nat} {s1 : Int32} {I9 : Nat → Nat → Int32} {R9 : Nat → Nat → Option Nat} {r9 : Int32} (hS : Skel σ R) (h : gX11_lead_b61 σ I R x2 x3 x4 s0 s1 = some (I9, R9, r9)) : Skel σ R9 := by
  unfold gX11_lead_b61 at h
  obtain ⟨r9, hc10, h⟩ := ob h
  rcases itc h with ⟨c, h⟩ | ⟨c, h⟩
  · obtain ⟨⟨I22, r23⟩, hc24, h⟩ := ob h
    cases h
    exact hS
  · rcases onl_c h with ⟨ea11, h⟩ | ⟨a11, ha11, h⟩
    · obtain ⟨⟨I12, r13⟩, hc14, h⟩ := ob h
      cases h
      exact hS
    · obtain ⟨g15, h⟩ := gd h
      obtain ⟨a16, ha16, h⟩ := ob h
      obtain ⟨g17, h⟩ := gd h
      obtain ⟨g18, h⟩ := gd h
      obtain ⟨g19, h⟩ := gd h
      obtain ⟨g20, h⟩ := gd h
      let R21 := u2 R a16 (Int32.toNatClampNeg x2) (R 6 (Int32.toNatClampNeg x3))
      have hS := hS.setR (k := (Int32.toNatClampNeg x2)) (v := (R 6 (Int32.toNatClampNeg x3))) (Or.inl g18)
      cases h
      exact hS
def gX11_lead (σ : Shp) (I : Nat → Nat → Int32) (R : Nat → Nat → Option Nat) (x1 : Int32) (x2 : Int32) (x3 : Int32) : Option ((Nat → Nat → Int32) × (Nat → Nat → Option Nat) × (Int32)) :=
  if (fX11_isBin x1) = 0 then
    some (I, R, (-2 : Int32))
  else
    if (fX11_isBin x3) = 0 then
      some (I, R, (-2 : Int32))
    else
      if x2 < 0 then
        some (I, R, (-2 : Int32))
      else
        if x2 ≤ (1 : Int32) then
          if ¬ (x1 < 0 ∨ 16 ≤ Int32.toNatClampNeg x1) then
          let v2 := (R 6 (Int32.toNatClampNeg x1))
          (gX11_goesFor σ I v2 (17 : Int32)).bind fun r3 =>
          if r3 = 0 then
            (gX11_fail I (4 : Int32)).bind fun (I5, r6) =>
            some (I5, R, r6)
          else
            if ¬ (x3 < 0 ∨ 16 ≤ Int32.toNatClampNeg x3) then
            if x2 = 0 then
              gX11_lead_b61 σ I R x2 x3 v2 (R 6 (Int32.toNatClampNeg x3)) (17 : Int32)
            else
              gX11_lead_b61 σ I R x2 x3 v2 (R 6 (Int32.toNatClampNeg x3)) (16 : Int32)
            else none
          else none
        else
          some (I, R, (-2 : Int32))
theorem pX11_lead {σ : Shp} {I : Nat → Nat → Int32} {R : Nat → Nat → Option Nat} {x1 : Int32} {x2 : Int32} {x3 : Int32} {I9 : Nat → Nat → Int32} {R9 : Nat → Nat → Option Nat} {r9 : Int32} (hS : Skel σ R) (h : gX11_lead σ I R x1 x2 x3 = some (I9, R9, r9)) : Skel σ R9 := by
  unfold gX11_lead at h
  rcases itc h with ⟨c, h⟩ | ⟨c, h⟩
  · cases h
    exact hS
  · rcases itc h with ⟨c, h⟩ | ⟨c, h⟩
    · cases h
      exact hS
    · rcases itc h with ⟨c, h⟩ | ⟨c, h⟩
      · cases h
        exact hS
      · rcases itc h with ⟨c, h⟩ | ⟨c, h⟩
        · obtain ⟨g1, h⟩ := gd h
          let v2 := (R 6 (Int32.toNatClampNeg x1))
          obtain ⟨r3, hc4, h⟩ := ob h
          rcases itc h with ⟨c, h⟩ | ⟨c, h⟩
          · obtain ⟨⟨I5, r6⟩, hc7, h⟩ := ob h
            cases h
            exact hS
          · obtain ⟨g8, h⟩ := gd h
            rcases itc h with ⟨c, h⟩ | ⟨c, h⟩
            · exact pX11_lead_b61 hS h
            · exact pX11_lead_b61 hS h
        · cases h
          exact hS
theorem eX11_lead {σ : Shp} {I : Nat → Nat → Int32} {R : Nat → Nat → Option Nat} {x1 : Int32} {x2 : Int32} {x3 : Int32} (hS : Skel σ R) : fX11_lead σ I R 4 x1 x2 x3 = gX11_lead σ I R x1 x2 x3 := by
  unfold fX11_lead gX11_lead
  refine bi (fun c => ?_) (fun c => ?_)
  · rfl
  · refine bi (fun c => ?_) (fun c => ?_)
    · rfl
    · refine bi (fun c => ?_) (fun c => ?_)
      · rfl
      · refine bi (fun c => ?_) (fun c => ?_)
        · refine sg (kq4 hS) ?_
          refine sb (rq4_1 hS) ?_
          refine sg (kq6 hS) ?_
          refine bgr (by rw [lq6 hS]) (fun g1 => ?_)
          let v2 := (R 6 (Int32.toNatClampNeg x1))
          refine bc (eX11_goesFor hS) (fun r3 hc4 => ?_)
          refine bi (fun c => ?_) (fun c => ?_)
          · try with_reducible refine sg (kq4 hS) ?_
            refine bc (eX11_fail hS) (fun pp hc7 => ?_)
            obtain ⟨I5, r6⟩ := pp
            rfl
          · try with_reducible refine sg (kq4 hS) ?_
            try with_reducible refine sg (kq6 hS) ?_
            refine bgr (by rw [lq6 hS]) (fun g8 => ?_)
            refine bi (fun c => ?_) (fun c => ?_)
            · exact eX11_lead_b61 hS
            · exact eX11_lead_b61 hS
        · rfl
def gX11_follow (σ : Shp) (I : Nat → Nat → Int32) (R : Nat → Nat → Option Nat) (x1 : Int32) (x2 : Int32) (x3 : Int32) : Option ((Nat → Nat → Int32) × (Nat → Nat → Option Nat) × (Int32)) :=
  if (fX11_isBin x1) = 0 then
    some (I, R, (-2 : Int32))
  else
    if (fX11_isBin x2) = 0 then
      some (I, R, (-2 : Int32))
    else
      if x3 < 0 then
        some (I, R, (-2 : Int32))
      else
        if x3 ≤ (1 : Int32) then
          if ¬ (x2 < 0 ∨ 16 ≤ Int32.toNatClampNeg x2) then
          let v2 := (R 6 (Int32.toNatClampNeg x2))
          (gX11_takenFault σ I v2 (17 : Int32)).bind fun r3 =>
          if r3 = 0 then
            onl v2
              (
                (gX11_fail I r3).bind fun (I9, r10) =>
                some (I9, R, r10))
              (fun a8 =>
                if kdx σ a8 = 11 then
                ((R a8 2) : Option Nat).bind fun a13 =>
                if kdx σ a13 = 26 then
                if ¬ (x3 < 0 ∨ lnx σ a13 ≤ Int32.toNatClampNeg x3) then
                if ¬ (x1 < 0 ∨ 16 ≤ Int32.toNatClampNeg x1) then
                if okR σ 11 (R a13 (Int32.toNatClampNeg x3)) = true then
                let R18 := u2 R 6 (Int32.toNatClampNeg x1) (R a13 (Int32.toNatClampNeg x3))
                some (I, R18, (1 : Int32))
                else none
                else none
                else none
                else none
                else none)
          else
            (gX11_fail I r3).bind fun (I5, r6) =>
            some (I5, R, r6)
          else none
        else
          some (I, R, (-2 : Int32))
theorem pX11_follow {σ : Shp} {I : Nat → Nat → Int32} {R : Nat → Nat → Option Nat} {x1 : Int32} {x2 : Int32} {x3 : Int32} {I9 : Nat → Nat → Int32} {R9 : Nat → Nat → Option Nat} {r9 : Int32} (hS : Skel σ R) (h : gX11_follow σ I R x1 x2 x3 = some (I9, R9, r9)) : Skel σ R9 := by
  unfold gX11_follow at h
  rcases itc h with ⟨c, h⟩ | ⟨c, h⟩
  · cases h
    exact hS
  · rcases itc h with ⟨c, h⟩ | ⟨c, h⟩
    · cases h
      exact hS
    · rcases itc h with ⟨c, h⟩ | ⟨c, h⟩
      · cases h
        exact hS
      · rcases itc h with ⟨c, h⟩ | ⟨c, h⟩
        · obtain ⟨g1, h⟩ := gd h
          let v2 := (R 6 (Int32.toNatClampNeg x2))
          obtain ⟨r3, hc4, h⟩ := ob h
          rcases itc h with ⟨c, h⟩ | ⟨c, h⟩
          · rcases onl_c h with ⟨ea8, h⟩ | ⟨a8, ha8, h⟩
            · obtain ⟨⟨I9, r10⟩, hc11, h⟩ := ob h
              cases h
              exact hS
            · obtain ⟨g12, h⟩ := gd h
              obtain ⟨a13, ha13, h⟩ := ob h
              obtain ⟨g14, h⟩ := gd h
              obtain ⟨g15, h⟩ := gd h
              obtain ⟨g16, h⟩ := gd h
              obtain ⟨g17, h⟩ := gd h
              let R18 := u2 R 6 (Int32.toNatClampNeg x1) (R a13 (Int32.toNatClampNeg x3))
              have hS := hS.setR (k := (Int32.toNatClampNeg x1)) (v := (R a13 (Int32.toNatClampNeg x3))) (Or.inl (kq6 hS))
              cases h
              exact hS
          · obtain ⟨⟨I5, r6⟩, hc7, h⟩ := ob h
            cases h
            exact hS
        · cases h
          exact hS
theorem eX11_follow {σ : Shp} {I : Nat → Nat → Int32} {R : Nat → Nat → Option Nat} {x1 : Int32} {x2 : Int32} {x3 : Int32} (hS : Skel σ R) : fX11_follow σ I R 4 x1 x2 x3 = gX11_follow σ I R x1 x2 x3 := by
  unfold fX11_follow gX11_follow
  refine bi (fun c => ?_) (fun c => ?_)
  · rfl
  · refine bi (fun c => ?_) (fun c => ?_)
    · rfl
    · refine bi (fun c => ?_) (fun c => ?_)
      · rfl
      · refine bi (fun c => ?_) (fun c => ?_)
        · refine sg (kq4 hS) ?_
          refine sb (rq4_1 hS) ?_
          refine sg (kq6 hS) ?_
          refine bgr (by rw [lq6 hS]) (fun g1 => ?_)
          let v2 := (R 6 (Int32.toNatClampNeg x2))
          refine bc (eX11_takenFault hS) (fun r3 hc4 => ?_)
          refine bi (fun c => ?_) (fun c => ?_)
          · refine bo (fun ea8 => ?_) (fun a8 ha8 => ?_)
            · try with_reducible refine sg (kq4 hS) ?_
              refine bc (eX11_fail hS) (fun pp hc11 => ?_)
              obtain ⟨I9, r10⟩ := pp
              rfl
            · try with_reducible refine sg (kq4 hS) ?_
              refine bg (fun g12 => ?_)
              refine bb (fun a13 ha13 => ?_)
              refine bg (fun g14 => ?_)
              refine bg (fun g15 => ?_)
              try with_reducible refine sg (kq6 hS) ?_
              refine bgr (by rw [lq6 hS]) (fun g16 => ?_)
              refine bg (fun g17 => ?_)
              let R18 := u2 R 6 (Int32.toNatClampNeg x1) (R a13 (Int32.toNatClampNeg x3))
              have hS := hS.setR (k := (Int32.toNatClampNeg x1)) (v := (R a13 (Int32.toNatClampNeg x3))) (Or.inl (kq6 hS))
              rfl
          · try with_reducible refine sg (kq4 hS) ?_
            refine bc (eX11_fail hS) (fun pp hc7 => ?_)
            obtain ⟨I5, r6⟩ := pp
            rfl
        · rfl
def gX11_led_b122  (σ : Shp) (R : Nat → Nat → Option Nat) (I : Nat → Nat → Int32) (x2 : Int32) (x5 : Option Nat) (x6 : Option Nat) (x7 : Int32) : Option ((Nat → Nat → Int32) × (Int32)) :=
  if x2 = 0 then
    some (I, x7)
  else
    if x2 = (2 : Int32) then
      (x5 : Option Nat).bind fun a15 =>
      if kdx σ a15 = 11 then
      some (I, (I a15 4))
      else none
    else
      onl x6
        (
          some (I, (-1 : Int32)))
        (fun a13 =>
          if kdx σ a13 = 11 then
          some (I, (I a13 4))
          else none)
theorem eX11_led_b122 {σ : Shp} {I : Nat → Nat → Int32} {R : Nat → Nat → Option Nat} {x2 : Int32} {x5 : Option Nat} {x6 : Option Nat} {x7 : Int32} (hS : Skel σ R) : fX11_led_b122 σ R I x2 x5 x6 x7 = gX11_led_b122 σ R I x2 x5 x6 x7 := by
  unfold fX11_led_b122 gX11_led_b122
  refine bi (fun c => ?_) (fun c => ?_)
  · rfl
  · refine bi (fun c => ?_) (fun c => ?_)
    · refine bb (fun a15 ha15 => ?_)
      refine bg (fun g16 => ?_)
      rfl
    · refine bo (fun ea13 => ?_) (fun a13 ha13 => ?_)
      · rfl
      · refine bg (fun g14 => ?_)
        rfl
def gX11_led_l69  (σ : Shp) (R : Nat → Nat → Option Nat) : Nat → (Nat → Nat → Int32) → (Int32) → (Option Nat) → (Option Nat) → (Int32) → Option ((Nat → Nat → Int32) × (Int32))
  | 0, _, _, _, _, _ => none
  | n + 1, I, x2, x5, x6, x7 =>
    if (1000000 : Int32) ≤ x7 then
      gX11_led_b122 σ R I x2 x5 x6 x7
    else
      onl x6
        (
          gX11_led_b122 σ R I x2 x5 x6 x7)
        (fun a17 =>
          if kdx σ a17 = 11 then
          if (I a17 8) = (I 4 19) then
            gX11_led_b122 σ R I x2 x5 x6 x7
          else
            let I19 := u2 I a17 8 (I 4 19)
            ((R a17 2) : Option Nat).bind fun a20 =>
            if kdx σ a20 = 26 then
            if ¬ ((0 : Int32) < 0 ∨ lnx σ a20 ≤ Int32.toNatClampNeg (0 : Int32)) then
            let v23 := (R a20 (Int32.toNatClampNeg (0 : Int32)))
            let v24 := x7 + (1 : Int32)
            gX11_led_l69 σ R n I19 x2 (some a17) v23 v24
            else none
            else none
          else none)
theorem eX11_led_l69 {σ : Shp} {R : Nat → Nat → Option Nat} (hS : Skel σ R) : ∀ (n : Nat) (I : Nat → Nat → Int32) (x2 : Int32) (x5 : Option Nat) (x6 : Option Nat) (x7 : Int32), fX11_led_l69 σ R 4 n I x2 x5 x6 x7 = gX11_led_l69 σ R n I x2 x5 x6 x7 := by
  intro n
  induction n with
  | zero => intro I x2 x5 x6 x7; rfl
  | succ n ih =>
    intro I x2 x5 x6 x7
    rw [fX11_led_l69, gX11_led_l69]
    refine bi (fun c => ?_) (fun c => ?_)
    · exact eX11_led_b122 hS
    · refine bo (fun ea17 => ?_) (fun a17 ha17 => ?_)
      · exact eX11_led_b122 hS
      · refine bg (fun g18 => ?_)
        refine sg (kq4 hS) ?_
        refine bi (fun c => ?_) (fun c => ?_)
        · exact eX11_led_b122 hS
        · try with_reducible refine sg (kq4 hS) ?_
          refine bb (fun a20 ha20 => ?_)
          refine bg (fun g21 => ?_)
          refine bg (fun g22 => ?_)
          exact ih _ _ _ _ _
def gX11_led (σ : Shp) (I : Nat → Nat → Int32) (R : Nat → Nat → Option Nat) (x1 : Int32) (x2 : Int32) : Option ((Nat → Nat → Int32) × (Int32)) :=
  if (fX11_isBin x1) = 0 then
    some (I, (-2 : Int32))
  else
    if x2 < 0 then
      some (I, (-2 : Int32))
    else
      if x2 ≤ (2 : Int32) then
        if ¬ (x1 < 0 ∨ 16 ≤ Int32.toNatClampNeg x1) then
        let v2 := (R 6 (Int32.toNatClampNeg x1))
        (gX11_takenFault σ I v2 (17 : Int32)).bind fun r3 =>
        if r3 = 0 then
          onl v2
            (
              (gX11_fail I r3).bind fun (I9, r10) =>
              some (I9, r10))
            (fun a8 =>
              let I12 := u2 I 4 19 ((I 4 19) + (1 : Int32))
              gX11_led_l69 σ R FUx I12 x2 (some a8) (some a8) (0 : Int32))
        else
          (gX11_fail I r3).bind fun (I5, r6) =>
          some (I5, r6)
        else none
      else
        some (I, (-2 : Int32))
theorem eX11_led {σ : Shp} {I : Nat → Nat → Int32} {R : Nat → Nat → Option Nat} {x1 : Int32} {x2 : Int32} (hS : Skel σ R) : fX11_led σ I R 4 x1 x2 = gX11_led σ I R x1 x2 := by
  unfold fX11_led gX11_led
  refine bi (fun c => ?_) (fun c => ?_)
  · rfl
  · refine bi (fun c => ?_) (fun c => ?_)
    · rfl
    · refine bi (fun c => ?_) (fun c => ?_)
      · refine sg (kq4 hS) ?_
        refine sb (rq4_1 hS) ?_
        refine sg (kq6 hS) ?_
        refine bgr (by rw [lq6 hS]) (fun g1 => ?_)
        refine bc (eX11_takenFault hS) (fun r3 hc4 => ?_)
        refine bi (fun c => ?_) (fun c => ?_)
        · refine bo (fun ea8 => ?_) (fun a8 ha8 => ?_)
          · try with_reducible refine sg (kq4 hS) ?_
            refine bc (eX11_fail hS) (fun pp hc11 => ?_)
            obtain ⟨I9, r10⟩ := pp
            rfl
          · try with_reducible refine sg (kq4 hS) ?_
            try with_reducible refine sg (kq4 hS) ?_
            exact eX11_led_l69 hS _ _ _ _ _ _
        · try with_reducible refine sg (kq4 hS) ?_
          refine bc (eX11_fail hS) (fun pp hc7 => ?_)
          obtain ⟨I5, r6⟩ := pp
          rfl
      · rfl
def gX11_step (I : Nat → Nat → Int32) (x1 : Int32) (x2 : Int32) (x3 : Int32) (x4 : Int32) (x5 : Int32) : Option ((Nat → Nat → Int32) × (Int32)) :=
  if (fX11_isPlan x1) = 0 then
    some (I, (-2 : Int32))
  else
    if x2 < 0 then
      some (I, (-2 : Int32))
    else
      if x2 ≤ (20 : Int32) then
        (gX6_added I x1 x2 x3 x4 x5).bind fun (I1, r2) =>
        some (I1, r2)
      else
        some (I, (-2 : Int32))
theorem eX11_step {σ : Shp} {I : Nat → Nat → Int32} {R : Nat → Nat → Option Nat} {x1 : Int32} {x2 : Int32} {x3 : Int32} {x4 : Int32} {x5 : Int32} (hS : Skel σ R) : fX11_step σ I R 4 x1 x2 x3 x4 x5 = gX11_step I x1 x2 x3 x4 x5 := by
  unfold fX11_step gX11_step
  refine bi (fun c => ?_) (fun c => ?_)
  · rfl
  · refine bi (fun c => ?_) (fun c => ?_)
    · rfl
    · refine bi (fun c => ?_) (fun c => ?_)
      · refine sg (kq4 hS) ?_
        refine sb (rq4_3 hS) ?_
        refine sg (kq9 hS) ?_
        refine bc (eX6_added hS) (fun pp hc3 => ?_)
        obtain ⟨I1, r2⟩ := pp
        rfl
      · rfl
def gX11_drop (I : Nat → Nat → Int32) (x1 : Int32) : Option ((Nat → Nat → Int32) × (Int32)) :=
  if (fX11_isPlan x1) = 0 then
    some (I, (-2 : Int32))
  else
    (gX6_emptied I x1).bind fun (I1, r2) =>
    some (I1, r2)
theorem eX11_drop {σ : Shp} {I : Nat → Nat → Int32} {R : Nat → Nat → Option Nat} {x1 : Int32} (hS : Skel σ R) : fX11_drop σ I R 4 x1 = gX11_drop I x1 := by
  unfold fX11_drop gX11_drop
  refine bi (fun c => ?_) (fun c => ?_)
  · rfl
  · refine sg (kq4 hS) ?_
    refine sb (rq4_3 hS) ?_
    refine sg (kq9 hS) ?_
    refine bc (eX6_emptied hS) (fun pp hc3 => ?_)
    obtain ⟨I1, r2⟩ := pp
    rfl
def gX11_formed (σ : Shp) (I : Nat → Nat → Int32) (R : Nat → Nat → Option Nat) (x1 : Int32) : Option ((Nat → Nat → Int32) × (Int32)) :=
  if (fX11_isPlan x1) = 0 then
    some (I, (0 : Int32))
  else
    (gX6_firstWrong σ I R x1).bind fun (I1, r2) =>
    some (I1, r2)
theorem eX11_formed {σ : Shp} {I : Nat → Nat → Int32} {R : Nat → Nat → Option Nat} {x1 : Int32} (hS : Skel σ R) : fX11_formed σ I R 4 x1 = gX11_formed σ I R x1 := by
  unfold fX11_formed gX11_formed
  refine bi (fun c => ?_) (fun c => ?_)
  · rfl
  · refine sg (kq4 hS) ?_
    refine sb (rq4_3 hS) ?_
    refine sg (kq9 hS) ?_
    refine bc (eX6_firstWrong hS) (fun pp hc3 => ?_)
    obtain ⟨I1, r2⟩ := pp
    rfl
def gX11_run_b43  (σ : Shp) (I : Nat → Nat → Int32) (J : Nat → Nat → Int64) (R : Nat → Nat → Option Nat) (s0 : Int32) : Option ((Shp) × (Nat → Nat → Int32) × (Nat → Nat → Int64) × (Nat → Nat → Option Nat) × (Int32)) :=
  (gX7_toldOf σ I R (8 : Int32)).bind fun r12 =>
  let I14 := u2 I 4 13 ((I 4 13) + r12)
  (gX7_faultOut I14).bind fun r15 =>
  if r15 = 0 then
    some (σ, I14, J, R, s0)
  else
    (gX7_faultOut I14).bind fun r17 =>
    let I19 := u2 I14 4 14 r17
    some (σ, I19, J, R, s0)
theorem eX11_run_b43 {σ : Shp} {I : Nat → Nat → Int32} {J : Nat → Nat → Int64} {R : Nat → Nat → Option Nat} {s0 : Int32} (hS : Skel σ R) : fX11_run_b43 4 σ I J R s0 = gX11_run_b43 σ I J R s0 := by
  unfold fX11_run_b43 gX11_run_b43
  refine sg (kq4 hS) ?_
  try with_reducible refine sg (kq4 hS) ?_
  refine sb (rq4_0 hS) ?_
  refine sg (kq5 hS) ?_
  refine bc (eX7_toldOf hS) (fun r12 hc13 => ?_)
  try with_reducible refine sg (kq4 hS) ?_
  let I14 := u2 I 4 13 ((I 4 13) + r12)
  try with_reducible refine sg (kq4 hS) ?_
  try with_reducible refine sg (kq5 hS) ?_
  refine bc (eX7_faultOut hS) (fun r15 hc16 => ?_)
  refine bi (fun c => ?_) (fun c => ?_)
  · rfl
  · try with_reducible refine sg (kq4 hS) ?_
    try with_reducible refine sg (kq5 hS) ?_
    refine bc (eX7_faultOut hS) (fun r17 hc18 => ?_)
    try with_reducible refine sg (kq4 hS) ?_
    let I19 := u2 I14 4 14 r17
    rfl
theorem pX11_run_b43 {σ : Shp} {I : Nat → Nat → Int32} {J : Nat → Nat → Int64} {R : Nat → Nat → Option Nat} {s0 : Int32} {σ9 : Shp} {I9 : Nat → Nat → Int32} {J9 : Nat → Nat → Int64} {R9 : Nat → Nat → Option Nat} {r9 : Int32} (hS : Skel σ R) (h : gX11_run_b43 σ I J R s0 = some (σ9, I9, J9, R9, r9)) : Skel σ9 R9 := by
  unfold gX11_run_b43 at h
  obtain ⟨r12, hc13, h⟩ := ob h
  let I14 := u2 I 4 13 ((I 4 13) + r12)
  obtain ⟨r15, hc16, h⟩ := ob h
  rcases itc h with ⟨c, h⟩ | ⟨c, h⟩
  · cases h
    exact hS
  · obtain ⟨r17, hc18, h⟩ := ob h
    let I19 := u2 I14 4 14 r17
    cases h
    exact hS
def gX11_run (σ : Shp) (I : Nat → Nat → Int32) (J : Nat → Nat → Int64) (R : Nat → Nat → Option Nat) (x1 : Int32) : Option ((Shp) × (Nat → Nat → Int32) × (Nat → Nat → Int64) × (Nat → Nat → Option Nat) × (Int32)) :=
  if (fX11_isPlan x1) = 0 then
    some (σ, I, J, R, (-2 : Int32))
  else
    (gX6_firstWrong σ I R x1).bind fun (I1, r2) =>
    if r2 = (-1 : Int32) then
      (gX11_isFull I1).bind fun r4 =>
      if r4 = 0 then
        (gX7_wholeRun σ I1 J R x1).bind fun (σ6, I7, J8, R9, r10) =>
        gX11_run_b43 σ6 I7 J8 R9 r10
      else
        some (σ, I1, J, R, (-4 : Int32))
    else
      some (σ, I1, J, R, (-3 : Int32))
theorem pX11_run {σ : Shp} {I : Nat → Nat → Int32} {J : Nat → Nat → Int64} {R : Nat → Nat → Option Nat} {x1 : Int32} {σ9 : Shp} {I9 : Nat → Nat → Int32} {J9 : Nat → Nat → Int64} {R9 : Nat → Nat → Option Nat} {r9 : Int32} (hS : Skel σ R) (h : gX11_run σ I J R x1 = some (σ9, I9, J9, R9, r9)) : Skel σ9 R9 := by
  unfold gX11_run at h
  rcases itc h with ⟨c, h⟩ | ⟨c, h⟩
  · cases h
    exact hS
  · obtain ⟨⟨I1, r2⟩, hc3, h⟩ := ob h
    rcases itc h with ⟨c, h⟩ | ⟨c, h⟩
    · obtain ⟨r4, hc5, h⟩ := ob h
      rcases itc h with ⟨c, h⟩ | ⟨c, h⟩
      · obtain ⟨⟨σ6, I7, J8, R9, r10⟩, hc11, h⟩ := ob h
        have hS := pX7_wholeRun hS hc11
        exact pX11_run_b43 hS h
      · cases h
        exact hS
    · cases h
      exact hS
theorem eX11_run {σ : Shp} {I : Nat → Nat → Int32} {J : Nat → Nat → Int64} {R : Nat → Nat → Option Nat} {x1 : Int32} (hS : Skel σ R) : fX11_run σ I J R 4 x1 = gX11_run σ I J R x1 := by
  unfold fX11_run gX11_run
  refine bi (fun c => ?_) (fun c => ?_)
  · rfl
  · refine sg (kq4 hS) ?_
    refine sb (rq4_3 hS) ?_
    refine sg (kq9 hS) ?_
    refine bc (eX6_firstWrong hS) (fun pp hc3 => ?_)
    obtain ⟨I1, r2⟩ := pp
    refine bi (fun c => ?_) (fun c => ?_)
    · try with_reducible refine sg (kq4 hS) ?_
      refine bc (eX11_isFull hS) (fun r4 hc5 => ?_)
      refine bi (fun c => ?_) (fun c => ?_)
      · try with_reducible refine sg (kq4 hS) ?_
        refine sb (rq4_0 hS) ?_
        refine sg (kq5 hS) ?_
        refine bc (eX7_wholeRun hS) (fun pp hc11 => ?_)
        obtain ⟨σ6, I7, J8, R9, r10⟩ := pp
        have hS := pX7_wholeRun hS hc11
        exact eX11_run_b43 hS
      · rfl
    · rfl
def gX11_ran (σ : Shp) (I : Nat → Nat → Int32) (R : Nat → Nat → Option Nat) (x1 : Int32) : Option ((Int32)) :=
  if x1 < 0 then
    some (-2 : Int32)
  else
    if x1 ≤ (8 : Int32) then
      (gX7_toldOf σ I R x1).bind fun r1 =>
      some r1
    else
      some (-2 : Int32)
theorem eX11_ran {σ : Shp} {I : Nat → Nat → Int32} {R : Nat → Nat → Option Nat} {x1 : Int32} (hS : Skel σ R) : fX11_ran σ I R 4 x1 = gX11_ran σ I R x1 := by
  unfold fX11_ran gX11_ran
  refine bi (fun c => ?_) (fun c => ?_)
  · rfl
  · refine bi (fun c => ?_) (fun c => ?_)
    · refine sg (kq4 hS) ?_
      refine sb (rq4_0 hS) ?_
      refine sg (kq5 hS) ?_
      refine bc (eX7_toldOf hS) (fun r1 hc2 => ?_)
      rfl
    · rfl
def gX11_stock (J : Nat → Nat → Int64) (x1 : Int32) : Option ((Int64)) :=
  if (fX11_isStock x1) = 0 then
    some (0 : Int64)
  else
    if ¬ (x1 < 0 ∨ 6 ≤ Int32.toNatClampNeg x1) then
    some (J 18 (Int32.toNatClampNeg x1))
    else none
theorem eX11_stock {σ : Shp} {J : Nat → Nat → Int64} {R : Nat → Nat → Option Nat} {x1 : Int32} (hS : Skel σ R) : fX11_stock σ J R 4 x1 = gX11_stock J x1 := by
  unfold fX11_stock gX11_stock
  refine bi (fun c => ?_) (fun c => ?_)
  · rfl
  · refine sg (kq4 hS) ?_
    refine sb (rq4_4 hS) ?_
    refine sg (kq17 hS) ?_
    refine sb (rq17_0 hS) ?_
    refine sg (kq18 hS) ?_
    refine bgr (by rw [lq18 hS]) (fun g1 => ?_)
    rfl
def gX11_setStock (J : Nat → Nat → Int64) (x1 : Int32) (x2 : Int64) : Option ((Nat → Nat → Int64) × (Int32)) :=
  if (fX11_isStock x1) = 0 then
    some (J, (-2 : Int32))
  else
    if ¬ (x1 < 0 ∨ 6 ≤ Int32.toNatClampNeg x1) then
    let J2 := u2 J 18 (Int32.toNatClampNeg x1) x2
    some (J2, (1 : Int32))
    else none
theorem eX11_setStock {σ : Shp} {J : Nat → Nat → Int64} {R : Nat → Nat → Option Nat} {x1 : Int32} {x2 : Int64} (hS : Skel σ R) : fX11_setStock σ J R 4 x1 x2 = gX11_setStock J x1 x2 := by
  unfold fX11_setStock gX11_setStock
  refine bi (fun c => ?_) (fun c => ?_)
  · rfl
  · refine sg (kq4 hS) ?_
    refine sb (rq4_4 hS) ?_
    refine sg (kq17 hS) ?_
    refine sb (rq17_0 hS) ?_
    refine sg (kq18 hS) ?_
    refine bgr (by rw [lq18 hS]) (fun g1 => ?_)
    rfl
def gX11_valve (I : Nat → Nat → Int32) (x1 : Int32) (x2 : Int32) : Option ((Int32)) :=
  if (fX11_isValve x1) = 0 then
    some (0 : Int32)
  else
    if x2 < 0 then
      some (0 : Int32)
    else
      if x2 ≤ (1 : Int32) then
        if x2 = 0 then
          if ¬ (x1 < 0 ∨ 3 ≤ Int32.toNatClampNeg x1) then
          some (I 19 (Int32.toNatClampNeg x1))
          else none
        else
          if ¬ (x1 < 0 ∨ 3 ≤ Int32.toNatClampNeg x1) then
          some (I 20 (Int32.toNatClampNeg x1))
          else none
      else
        some (0 : Int32)
theorem eX11_valve {σ : Shp} {I : Nat → Nat → Int32} {R : Nat → Nat → Option Nat} {x1 : Int32} {x2 : Int32} (hS : Skel σ R) : fX11_valve σ I R 4 x1 x2 = gX11_valve I x1 x2 := by
  unfold fX11_valve gX11_valve
  refine bi (fun c => ?_) (fun c => ?_)
  · rfl
  · refine bi (fun c => ?_) (fun c => ?_)
    · rfl
    · refine bi (fun c => ?_) (fun c => ?_)
      · refine bi (fun c => ?_) (fun c => ?_)
        · refine sg (kq4 hS) ?_
          refine sb (rq4_4 hS) ?_
          refine sg (kq17 hS) ?_
          refine sb (rq17_1 hS) ?_
          refine sg (kq19 hS) ?_
          refine bgr (by rw [lq19 hS]) (fun g2 => ?_)
          rfl
        · refine sg (kq4 hS) ?_
          refine sb (rq4_4 hS) ?_
          refine sg (kq17 hS) ?_
          refine sb (rq17_2 hS) ?_
          refine sg (kq20 hS) ?_
          refine bgr (by rw [lq20 hS]) (fun g1 => ?_)
          rfl
      · rfl
def gX11_line (σ : Shp) (I : Nat → Nat → Int32) (R : Nat → Nat → Option Nat) (x1 : Int32) (x2 : Int32) (x3 : Int32) : Option ((Nat → Nat → Int32) × (Int32)) :=
  if (fX11_isTable x1) = 0 then
    some (I, (-2 : Int32))
  else
    (gX9_lineAdded σ I R x1 x2 x3).bind fun (I1, r2) =>
    some (I1, r2)
theorem eX11_line {σ : Shp} {I : Nat → Nat → Int32} {R : Nat → Nat → Option Nat} {x1 : Int32} {x2 : Int32} {x3 : Int32} (hS : Skel σ R) : fX11_line σ I R 4 x1 x2 x3 = gX11_line σ I R x1 x2 x3 := by
  unfold fX11_line gX11_line
  refine bi (fun c => ?_) (fun c => ?_)
  · rfl
  · refine sg (kq4 hS) ?_
    refine sb (rq4_6 hS) ?_
    refine sg (kq27 hS) ?_
    refine bc (eX9_lineAdded hS) (fun pp hc3 => ?_)
    obtain ⟨I1, r2⟩ := pp
    rfl
def gX11_rest (I : Nat → Nat → Int32) (x1 : Int32) (x2 : Int32) : Option ((Nat → Nat → Int32) × (Int32)) :=
  if (fX11_isTable x1) = 0 then
    some (I, (-2 : Int32))
  else
    if x2 = (-1 : Int32) then
      (gX9_rested I x1 x2).bind fun (I1, r2) =>
      some (I1, r2)
    else
      if (fX11_isTable x2) = 0 then
        some (I, (-2 : Int32))
      else
        (gX9_rested I x1 x2).bind fun (I4, r5) =>
        some (I4, r5)
theorem eX11_rest {σ : Shp} {I : Nat → Nat → Int32} {R : Nat → Nat → Option Nat} {x1 : Int32} {x2 : Int32} (hS : Skel σ R) : fX11_rest σ I R 4 x1 x2 = gX11_rest I x1 x2 := by
  unfold fX11_rest gX11_rest
  refine bi (fun c => ?_) (fun c => ?_)
  · rfl
  · refine bi (fun c => ?_) (fun c => ?_)
    · refine sg (kq4 hS) ?_
      refine sb (rq4_6 hS) ?_
      refine sg (kq27 hS) ?_
      refine bc (eX9_rested hS) (fun pp hc3 => ?_)
      obtain ⟨I1, r2⟩ := pp
      rfl
    · refine bi (fun c => ?_) (fun c => ?_)
      · rfl
      · refine sg (kq4 hS) ?_
        refine sb (rq4_6 hS) ?_
        refine sg (kq27 hS) ?_
        refine bc (eX9_rested hS) (fun pp hc6 => ?_)
        obtain ⟨I4, r5⟩ := pp
        rfl
def gX11_value (σ : Shp) (I : Nat → Nat → Int32) (R : Nat → Nat → Option Nat) (x1 : Int32) (x2 : Int32) : Option ((Nat → Nat → Int32) × (Int32)) :=
  if (fX11_isTable x1) = 0 then
    some (I, (0 : Int32))
  else
    (gX9_valueAt σ I R x1 x2).bind fun (I1, r2) =>
    some (I1, r2)
theorem eX11_value {σ : Shp} {I : Nat → Nat → Int32} {R : Nat → Nat → Option Nat} {x1 : Int32} {x2 : Int32} (hS : Skel σ R) : fX11_value σ I R 4 x1 x2 = gX11_value σ I R x1 x2 := by
  unfold fX11_value gX11_value
  refine bi (fun c => ?_) (fun c => ?_)
  · rfl
  · refine sg (kq4 hS) ?_
    refine sb (rq4_6 hS) ?_
    refine sg (kq27 hS) ?_
    refine bc (eX9_valueAt hS) (fun pp hc3 => ?_)
    obtain ⟨I1, r2⟩ := pp
    rfl
def gX11_laid (I : Nat → Nat → Int32) (x1 : Int32) : Option ((Int32)) :=
  (gX9_laidAt I x1).bind fun r1 =>
  some r1
theorem eX11_laid {σ : Shp} {I : Nat → Nat → Int32} {R : Nat → Nat → Option Nat} {x1 : Int32} (hS : Skel σ R) : fX11_laid σ I R 4 x1 = gX11_laid I x1 := by
  unfold fX11_laid gX11_laid
  refine sg (kq4 hS) ?_
  refine sb (rq4_6 hS) ?_
  refine sg (kq27 hS) ?_
  refine bc (eX9_laidAt hS) (fun r1 hc2 => ?_)
  rfl
def gX11_read (J : Nat → Nat → Int64) (D : Nat → Nat → UInt64) (x1 : Int32) (x2 : Int64) : Option ((Nat → Nat → Int64) × (Nat → Nat → UInt64) × (Int32)) :=
  if (fX11_isProbe x1) = 0 then
    some (J, D, (-2 : Int32))
  else
    (gX4_takeReading J D x1 (fX11_cellOf (7 : Int32) x2)).bind fun (J1, D2) =>
    some (J1, D2, (1 : Int32))
theorem eX11_read {σ : Shp} {J : Nat → Nat → Int64} {D : Nat → Nat → UInt64} {R : Nat → Nat → Option Nat} {x1 : Int32} {x2 : Int64} (hS : Skel σ R) : fX11_read σ J D R 4 x1 x2 = gX11_read J D x1 x2 := by
  unfold fX11_read gX11_read
  refine bi (fun c => ?_) (fun c => ?_)
  · rfl
  · refine sg (kq4 hS) ?_
    refine sb (rq4_5 hS) ?_
    refine sg (kq26 hS) ?_
    refine bc (eX4_takeReading hS) (fun pp hc3 => ?_)
    obtain ⟨J1, D2⟩ := pp
    rfl
def gX11_part (D : Nat → Nat → UInt64) (x1 : Int64) : Option ((Nat → Nat → UInt64) × (Int32)) :=
  if (fX11_isNumber x1) = 0 then
    some (D, (-2 : Int32))
  else
    (fX11_realOf x1).bind fun r1 =>
    if 0 ≤ (Op.cmpValue (FP.dcmp r1 (FP.dconst0)) .g) then
      (fX11_realOf x1).bind fun r3 =>
      let D5 := u2 D 26 7 r3
      some (D5, (1 : Int32))
    else
      some (D, (-2 : Int32))
theorem eX11_part {σ : Shp} {D : Nat → Nat → UInt64} {R : Nat → Nat → Option Nat} {x1 : Int64} (hS : Skel σ R) : fX11_part σ D R 4 x1 = gX11_part D x1 := by
  unfold fX11_part gX11_part
  refine bi (fun c => ?_) (fun c => ?_)
  · rfl
  · refine bc rfl (fun r1 hc2 => ?_)
    refine bi (fun c => ?_) (fun c => ?_)
    · refine sg (kq4 hS) ?_
      refine sb (rq4_5 hS) ?_
      refine bc rfl (fun r3 hc4 => ?_)
      refine sg (kq26 hS) ?_
      rfl
    · rfl
def gX11_probe (I : Nat → Nat → Int32) (x1 : Int32) (x2 : Int32) : Option ((Int32)) :=
  if (fX11_isProbe x1) = 0 then
    some (-2 : Int32)
  else
    if x2 < 0 then
      some (-2 : Int32)
    else
      if x2 ≤ (4 : Int32) then
        if ¬ (x1 < 0 ∨ 9 ≤ Int32.toNatClampNeg x1) then
        if ¬ (x2 < 0 ∨ 5 ≤ Int32.toNatClampNeg x2) then
        some (I (43 + Int32.toNatClampNeg x1) (Int32.toNatClampNeg x2))
        else none
        else none
      else
        some (-2 : Int32)
theorem eX11_probe {σ : Shp} {I : Nat → Nat → Int32} {R : Nat → Nat → Option Nat} {x1 : Int32} {x2 : Int32} (hS : Skel σ R) : fX11_probe σ I R 4 x1 x2 = gX11_probe I x1 x2 := by
  unfold fX11_probe gX11_probe
  refine bi (fun c => ?_) (fun c => ?_)
  · rfl
  · refine bi (fun c => ?_) (fun c => ?_)
    · rfl
    · refine bi (fun c => ?_) (fun c => ?_)
      · refine sg (kq4 hS) ?_
        refine sb (rq4_5 hS) ?_
        refine sg (kq26 hS) ?_
        refine sb (rq26_1 hS) ?_
        refine sg (kq42 hS) ?_
        refine bgr (by rw [lq42 hS]) (fun g1 => ?_)
        refine sb (rr42 hS g1) ?_
        refine sg (kr42 hS g1) ?_
        refine bgr (by rw [lr42 hS g1]) (fun g2 => ?_)
        rfl
      · rfl
def gX11_voted (J : Nat → Nat → Int64) (x1 : Int32) : Option ((Int64)) :=
  if (fX11_isHouse x1) = 0 then
    some (0 : Int64)
  else
    if ¬ (x1 < 0 ∨ 3 ≤ Int32.toNatClampNeg x1) then
    some (J 55 (Int32.toNatClampNeg x1))
    else none
theorem eX11_voted {σ : Shp} {J : Nat → Nat → Int64} {R : Nat → Nat → Option Nat} {x1 : Int32} (hS : Skel σ R) : fX11_voted σ J R 4 x1 = gX11_voted J x1 := by
  unfold fX11_voted gX11_voted
  refine bi (fun c => ?_) (fun c => ?_)
  · rfl
  · refine sg (kq4 hS) ?_
    refine sb (rq4_5 hS) ?_
    refine sg (kq26 hS) ?_
    refine sb (rq26_5 hS) ?_
    refine sg (kq55 hS) ?_
    refine bgr (by rw [lq55 hS]) (fun g1 => ?_)
    rfl
def gX11_weather (I : Nat → Nat → Int32) (x1 : Int32) (x2 : Int32) : Option ((Nat → Nat → Int32) × (Int32)) :=
  (gX4_newWeather I x1 x2).bind fun (I1, r2) =>
  some (I1, r2)
theorem eX11_weather {σ : Shp} {I : Nat → Nat → Int32} {R : Nat → Nat → Option Nat} {x1 : Int32} {x2 : Int32} (hS : Skel σ R) : fX11_weather σ I R 4 x1 x2 = gX11_weather I x1 x2 := by
  unfold fX11_weather gX11_weather
  refine sg (kq4 hS) ?_
  refine sb (rq4_5 hS) ?_
  refine sg (kq26 hS) ?_
  refine bc (eX4_newWeather hS) (fun pp hc3 => ?_)
  obtain ⟨I1, r2⟩ := pp
  rfl
def gX11_mark (σ : Shp) (I : Nat → Nat → Int32) (R : Nat → Nat → Option Nat) (x1 : Int32) (x2 : Int32) (x3 : Int32) : Option ((Nat → Nat → Int32) × (Int32)) :=
  if (fX11_isHouse x1) = 0 then
    some (I, (-2 : Int32))
  else
    (gX4_markAdded σ I R x1 x2 x3).bind fun (I1, r2) =>
    some (I1, r2)
theorem eX11_mark {σ : Shp} {I : Nat → Nat → Int32} {R : Nat → Nat → Option Nat} {x1 : Int32} {x2 : Int32} {x3 : Int32} (hS : Skel σ R) : fX11_mark σ I R 4 x1 x2 x3 = gX11_mark σ I R x1 x2 x3 := by
  unfold fX11_mark gX11_mark
  refine bi (fun c => ?_) (fun c => ?_)
  · rfl
  · refine sg (kq4 hS) ?_
    refine sb (rq4_5 hS) ?_
    refine sg (kq26 hS) ?_
    refine bc (eX4_markAdded hS) (fun pp hc3 => ?_)
    obtain ⟨I1, r2⟩ := pp
    rfl
def gX11_unmark (I : Nat → Nat → Int32) (x1 : Int32) : Option ((Nat → Nat → Int32) × (Int32)) :=
  if (fX11_isHouse x1) = 0 then
    some (I, (-2 : Int32))
  else
    (gX4_marksGone I x1).bind fun (I1, r2) =>
    some (I1, r2)
theorem eX11_unmark {σ : Shp} {I : Nat → Nat → Int32} {R : Nat → Nat → Option Nat} {x1 : Int32} (hS : Skel σ R) : fX11_unmark σ I R 4 x1 = gX11_unmark I x1 := by
  unfold fX11_unmark gX11_unmark
  refine bi (fun c => ?_) (fun c => ?_)
  · rfl
  · refine sg (kq4 hS) ?_
    refine sb (rq4_5 hS) ?_
    refine sg (kq26 hS) ?_
    refine bc (eX4_marksGone hS) (fun pp hc3 => ?_)
    obtain ⟨I1, r2⟩ := pp
    rfl
def gX11_wish (σ : Shp) (I : Nat → Nat → Int32) (R : Nat → Nat → Option Nat) (x1 : Int32) (x2 : Int32) : Option ((Int32)) :=
  if (fX11_isHouse x1) = 0 then
    some (-100000 : Int32)
  else
    if x2 < 0 then
      some (-100000 : Int32)
    else
      if x2 ≤ (1439 : Int32) then
        (gX4_hasWish I x1).bind fun r1 =>
        if r1 = 0 then
          some (-100001 : Int32)
        else
          (gX4_wishAt σ I R x1 x2).bind fun r3 =>
          some r3
      else
        some (-100000 : Int32)
theorem eX11_wish {σ : Shp} {I : Nat → Nat → Int32} {R : Nat → Nat → Option Nat} {x1 : Int32} {x2 : Int32} (hS : Skel σ R) : fX11_wish σ I R 4 x1 x2 = gX11_wish σ I R x1 x2 := by
  unfold fX11_wish gX11_wish
  refine bi (fun c => ?_) (fun c => ?_)
  · rfl
  · refine bi (fun c => ?_) (fun c => ?_)
    · rfl
    · refine bi (fun c => ?_) (fun c => ?_)
      · refine sg (kq4 hS) ?_
        refine sb (rq4_5 hS) ?_
        refine sg (kq26 hS) ?_
        refine bc (eX4_hasWish hS) (fun r1 hc2 => ?_)
        refine bi (fun c => ?_) (fun c => ?_)
        · rfl
        · try with_reducible refine sg (kq4 hS) ?_
          try with_reducible refine sg (kq26 hS) ?_
          refine bc (eX4_wishAt hS) (fun r3 hc4 => ?_)
          rfl
      · rfl
def gX11_minute_l34  (σ : Shp) (D : Nat → Nat → UInt64) (R : Nat → Nat → Option Nat) : Nat → (Nat → Nat → Int32) → (Nat → Nat → Int64) → (Int32) → (Int32) → Option ((Nat → Nat → Int32) × (Nat → Nat → Int64) × (Int32))
  | 0, _, _, _, _ => none
  | n + 1, I, J, x1, x2 =>
    if x1 ≤ x2 then
      some (I, J, (I 26 13))
    else
      (gX4_passMinute σ I J D R).bind fun (I1, J2) =>
      let v4 := x2 + (1 : Int32)
      gX11_minute_l34 σ D R n I1 J2 x1 v4
theorem eX11_minute_l34 {σ : Shp} {D : Nat → Nat → UInt64} {R : Nat → Nat → Option Nat} (hS : Skel σ R) : ∀ (n : Nat) (I : Nat → Nat → Int32) (J : Nat → Nat → Int64) (x1 : Int32) (x2 : Int32), fX11_minute_l34 σ D R 4 n I J x1 x2 = gX11_minute_l34 σ D R n I J x1 x2 := by
  intro n
  induction n with
  | zero => intro I J x1 x2; rfl
  | succ n ih =>
    intro I J x1 x2
    rw [fX11_minute_l34, gX11_minute_l34]
    refine bi (fun c => ?_) (fun c => ?_)
    · refine sg (kq4 hS) ?_
      refine sb (rq4_5 hS) ?_
      refine sg (kq26 hS) ?_
      rfl
    · refine sg (kq4 hS) ?_
      refine sb (rq4_5 hS) ?_
      refine sg (kq26 hS) ?_
      refine bc (eX4_passMinute hS) (fun pp hc3 => ?_)
      obtain ⟨I1, J2⟩ := pp
      exact ih _ _ _ _
def gX11_minute (σ : Shp) (I : Nat → Nat → Int32) (J : Nat → Nat → Int64) (D : Nat → Nat → UInt64) (R : Nat → Nat → Option Nat) (x1 : Int32) : Option ((Nat → Nat → Int32) × (Nat → Nat → Int64) × (Int32)) :=
  if x1 < (1 : Int32) then
    some (I, J, (-2 : Int32))
  else
    if x1 ≤ (100 : Int32) then
      if ((I 26 13) + x1) ≤ (100000 : Int32) then
        gX11_minute_l34 σ D R FUx I J x1 (0 : Int32)
      else
        some (I, J, (-4 : Int32))
    else
      some (I, J, (-2 : Int32))
theorem eX11_minute {σ : Shp} {I : Nat → Nat → Int32} {J : Nat → Nat → Int64} {D : Nat → Nat → UInt64} {R : Nat → Nat → Option Nat} {x1 : Int32} (hS : Skel σ R) : fX11_minute σ I J D R 4 x1 = gX11_minute σ I J D R x1 := by
  unfold fX11_minute gX11_minute
  refine bi (fun c => ?_) (fun c => ?_)
  · rfl
  · refine bi (fun c => ?_) (fun c => ?_)
    · refine sg (kq4 hS) ?_
      refine sb (rq4_5 hS) ?_
      refine sg (kq26 hS) ?_
      refine bi (fun c => ?_) (fun c => ?_)
      · exact eX11_minute_l34 hS _ _ _ _ _
      · rfl
    · rfl
def gX11_air (J : Nat → Nat → Int64) (x1 : Int32) (x2 : Int32) : Option ((Int64)) :=
  if (fX11_isHouse x1) = 0 then
    some (0 : Int64)
  else
    if x2 < 0 then
      some (0 : Int64)
    else
      if (10 : Int32) < x2 then
        some (0 : Int64)
      else
        if ¬ (x1 < 0 ∨ 3 ≤ Int32.toNatClampNeg x1) then
        if ¬ (x2 < 0 ∨ 11 ≤ Int32.toNatClampNeg x2) then
        some (J (58 + Int32.toNatClampNeg x1) (Int32.toNatClampNeg x2))
        else none
        else none
theorem eX11_air {σ : Shp} {J : Nat → Nat → Int64} {R : Nat → Nat → Option Nat} {x1 : Int32} {x2 : Int32} (hS : Skel σ R) : fX11_air σ J R 4 x1 x2 = gX11_air J x1 x2 := by
  unfold fX11_air gX11_air
  refine bi (fun c => ?_) (fun c => ?_)
  · rfl
  · refine bi (fun c => ?_) (fun c => ?_)
    · rfl
    · refine bi (fun c => ?_) (fun c => ?_)
      · rfl
      · refine sg (kq4 hS) ?_
        refine sb (rq4_5 hS) ?_
        refine sg (kq26 hS) ?_
        refine sb (rq26_8 hS) ?_
        refine sg (kq57 hS) ?_
        refine bgr (by rw [lq57 hS]) (fun g1 => ?_)
        refine sb (rr57 hS g1) ?_
        refine sg (kr57 hS g1) ?_
        refine bgr (by rw [lr57 hS g1]) (fun g2 => ?_)
        rfl
def gX11_canShare_l4  (σ : Shp) (J : Nat → Nat → Int64) (R : Nat → Nat → Option Nat) : Nat → (Option Nat) → (Int64) → (Int32) → Option ((Int32))
  | 0, _, _, _ => none
  | n + 1, x0, x1, x3 =>
    (x0 : Option Nat).bind fun a1 =>
    if kdx σ a1 = 11 then
    ((R a1 1) : Option Nat).bind fun a3 =>
    if kdx σ a3 = 21 then
    if (Int32.ofNat (lnx σ a3)) ≤ x3 then
      if x1 ≤ (0 : Int64) then
        some (0 : Int32)
      else
        some (1 : Int32)
    else
      if ¬ (x3 < 0 ∨ lnx σ a3 ≤ Int32.toNatClampNeg x3) then
      if (0 : Int64) ≤ (J a3 (Int32.toNatClampNeg x3)) then
        let v6 := (x1 + (J a3 (Int32.toNatClampNeg x3)))
        let v7 := x3 + (1 : Int32)
        gX11_canShare_l4 σ J R n x0 v6 v7
      else
        some (0 : Int32)
      else none
    else none
    else none
theorem eX11_canShare_l4 {σ : Shp} {J : Nat → Nat → Int64} {R : Nat → Nat → Option Nat} (hS : Skel σ R) : ∀ (n : Nat) (x0 : Option Nat) (x1 : Int64) (x3 : Int32), fX11_canShare_l4 σ J R n x0 x1 x3 = gX11_canShare_l4 σ J R n x0 x1 x3 := by
  intro n
  induction n with
  | zero => intro x0 x1 x3; rfl
  | succ n ih =>
    intro x0 x1 x3
    rw [fX11_canShare_l4, gX11_canShare_l4]
    refine bb (fun a1 ha1 => ?_)
    refine bg (fun g2 => ?_)
    refine bb (fun a3 ha3 => ?_)
    refine bg (fun g4 => ?_)
    refine bi (fun c => ?_) (fun c => ?_)
    · refine bi (fun c => ?_) (fun c => ?_)
      · rfl
      · rfl
    · refine bg (fun g5 => ?_)
      refine bi (fun c => ?_) (fun c => ?_)
      · exact ih _ _ _
      · rfl
def gX11_canShare (σ : Shp) (J : Nat → Nat → Int64) (R : Nat → Nat → Option Nat) (x0 : Option Nat) : Option ((Int32)) :=
  gX11_canShare_l4 σ J R FUx x0 (0 : Int64) (0 : Int32)
theorem eX11_canShare {σ : Shp} {J : Nat → Nat → Int64} {R : Nat → Nat → Option Nat} {x0 : Option Nat} (hS : Skel σ R) : fX11_canShare σ J R x0 = gX11_canShare σ J R x0 := by
  unfold fX11_canShare gX11_canShare
  exact eX11_canShare_l4 hS _ _ _ _
def gX11_shares_b133  (σ : Shp) (I : Nat → Nat → Int32) (J : Nat → Nat → Int64) (R : Nat → Nat → Option Nat) (x2 : Int32) (x3 : Int32) (x6 : Int32) (s0 : Option Nat) : Option ((Shp) × (Nat → Nat → Int32) × (Nat → Nat → Int64) × (Nat → Nat → Option Nat) × (Int32)) :=
  (s0 : Option Nat).bind fun a25 =>
  if kdx σ a25 = 11 then
  ((R a25 1) : Option Nat).bind fun a27 =>
  (gX11_shareOut σ J (Int32.toInt64 x2) (some 113) x6 (some a27) (some 112)).bind fun J28 =>
  if ¬ (x3 < 0 ∨ 16 ≤ Int32.toNatClampNeg x3) then
  let R31 := u2 R 6 (Int32.toNatClampNeg x3) (some a25)
  some (σ, I, J28, R31, (1 : Int32))
  else none
  else none
theorem eX11_shares_b133 {σ : Shp} {I : Nat → Nat → Int32} {J : Nat → Nat → Int64} {R : Nat → Nat → Option Nat} {x2 : Int32} {x3 : Int32} {x6 : Int32} {s0 : Option Nat} (hS : Skel σ R) : fX11_shares_b133 4 σ I J R x2 x3 x6 s0 = gX11_shares_b133 σ I J R x2 x3 x6 s0 := by
  unfold fX11_shares_b133 gX11_shares_b133
  refine sg (kq4 hS) ?_
  refine sb (rq4_11 hS) ?_
  refine bb (fun a25 ha25 => ?_)
  refine bg (fun g26 => ?_)
  refine bb (fun a27 ha27 => ?_)
  try with_reducible refine sg (kq4 hS) ?_
  refine sb (rq4_10 hS) ?_
  refine bc (eX11_shareOut hS) (fun J28 hc29 => ?_)
  try with_reducible refine sg (kq4 hS) ?_
  refine sb (rq4_1 hS) ?_
  refine sg (kq6 hS) ?_
  refine bgr (by rw [lq6 hS]) (fun g30 => ?_)
  let R31 := u2 R 6 (Int32.toNatClampNeg x3) (some a25)
  have hS := hS.setR (k := (Int32.toNatClampNeg x3)) (v := (some a25)) (Or.inl (kq6 hS))
  rfl
theorem pX11_shares_b133 {σ : Shp} {I : Nat → Nat → Int32} {J : Nat → Nat → Int64} {R : Nat → Nat → Option Nat} {x2 : Int32} {x3 : Int32} {x6 : Int32} {s0 : Option Nat} {σ9 : Shp} {I9 : Nat → Nat → Int32} {J9 : Nat → Nat → Int64} {R9 : Nat → Nat → Option Nat} {r9 : Int32} (hS : Skel σ R) (h : gX11_shares_b133 σ I J R x2 x3 x6 s0 = some (σ9, I9, J9, R9, r9)) : Skel σ9 R9 := by
  unfold gX11_shares_b133 at h
  obtain ⟨a25, ha25, h⟩ := ob h
  obtain ⟨g26, h⟩ := gd h
  obtain ⟨a27, ha27, h⟩ := ob h
  obtain ⟨J28, hc29, h⟩ := ob h
  obtain ⟨g30, h⟩ := gd h
  let R31 := u2 R 6 (Int32.toNatClampNeg x3) (some a25)
  have hS := hS.setR (k := (Int32.toNatClampNeg x3)) (v := (some a25)) (Or.inl (kq6 hS))
  cases h
  exact hS
def gX11_shares_l98   : Nat → (Shp) → (Nat → Nat → Int32) → (Nat → Nat → Int64) → (Nat → Nat → Option Nat) → (Int32) → (Int32) → (Option Nat) → (Int32) → (Int32) → Option ((Shp) × (Nat → Nat → Int32) × (Nat → Nat → Int64) × (Nat → Nat → Option Nat) × (Int32))
  | 0, _, _, _, _, _, _, _, _, _ => none
  | n + 1, σ, I, J, R, x2, x3, x4, x6, x7 =>
    if x6 ≤ x7 then
      (gX11_newRow σ I R (5 : Int32) x6).bind fun (σ20, I21, R22, r23) =>
      gX11_shares_b133 σ20 I21 J R22 x2 x3 x6 r23
    else
      (x4 : Option Nat).bind fun a32 =>
      if kdx σ a32 = 11 then
      ((R a32 1) : Option Nat).bind fun a34 =>
      if kdx σ a34 = 21 then
      if ¬ (x7 < 0 ∨ lnx σ a34 ≤ Int32.toNatClampNeg x7) then
      if ¬ (x7 < 0 ∨ 40 ≤ Int32.toNatClampNeg x7) then
      let J38 := u2 J 113 (Int32.toNatClampNeg x7) (J a34 (Int32.toNatClampNeg x7))
      let v39 := x7 + (1 : Int32)
      gX11_shares_l98 n σ I J38 R x2 x3 x4 x6 v39
      else none
      else none
      else none
      else none
theorem eX11_shares_l98  : ∀ (n : Nat) (σ : Shp) (I : Nat → Nat → Int32) (J : Nat → Nat → Int64) (R : Nat → Nat → Option Nat) (x2 : Int32) (x3 : Int32) (x4 : Option Nat) (x6 : Int32) (x7 : Int32), Skel σ R → fX11_shares_l98 4 n σ I J R x2 x3 x4 x6 x7 = gX11_shares_l98 n σ I J R x2 x3 x4 x6 x7 := by
  intro n
  induction n with
  | zero => intro σ I J R x2 x3 x4 x6 x7 hS; rfl
  | succ n ih =>
    intro σ I J R x2 x3 x4 x6 x7 hS
    rw [fX11_shares_l98, gX11_shares_l98]
    refine bi (fun c => ?_) (fun c => ?_)
    · refine sg (kq4 hS) ?_
      refine bc (eX11_newRow hS) (fun pp hc24 => ?_)
      obtain ⟨σ20, I21, R22, r23⟩ := pp
      have hS := pX11_newRow hS hc24
      exact eX11_shares_b133 hS
    · refine sg (kq4 hS) ?_
      refine sb (rq4_11 hS) ?_
      refine bb (fun a32 ha32 => ?_)
      refine bg (fun g33 => ?_)
      refine bb (fun a34 ha34 => ?_)
      refine bg (fun g35 => ?_)
      refine bg (fun g36 => ?_)
      refine sg (kq113 hS) ?_
      refine bgr (by rw [lq113 hS]) (fun g37 => ?_)
      let J38 := u2 J 113 (Int32.toNatClampNeg x7) (J a34 (Int32.toNatClampNeg x7))
      let v39 := x7 + (1 : Int32)
      exact ih _ _ _ _ _ _ _ _ _ hS
theorem pX11_shares_l98  {σ9 : Shp} {I9 : Nat → Nat → Int32} {J9 : Nat → Nat → Int64} {R9 : Nat → Nat → Option Nat} {r9 : Int32} : ∀ (n : Nat) (σ : Shp) (I : Nat → Nat → Int32) (J : Nat → Nat → Int64) (R : Nat → Nat → Option Nat) (x2 : Int32) (x3 : Int32) (x4 : Option Nat) (x6 : Int32) (x7 : Int32), Skel σ R → gX11_shares_l98 n σ I J R x2 x3 x4 x6 x7 = some (σ9, I9, J9, R9, r9) → Skel σ9 R9 := by
  intro n
  induction n with
  | zero =>
    intro σ I J R x2 x3 x4 x6 x7 hS h
    have h : none = some _ := h
    cases h
  | succ n ih =>
    intro σ I J R x2 x3 x4 x6 x7 hS h
    rw [gX11_shares_l98] at h
    rcases itc h with ⟨c, h⟩ | ⟨c, h⟩
    · obtain ⟨⟨σ20, I21, R22, r23⟩, hc24, h⟩ := ob h
      have hS := pX11_newRow hS hc24
      exact pX11_shares_b133 hS h
    · obtain ⟨a32, ha32, h⟩ := ob h
      obtain ⟨g33, h⟩ := gd h
      obtain ⟨a34, ha34, h⟩ := ob h
      obtain ⟨g35, h⟩ := gd h
      obtain ⟨g36, h⟩ := gd h
      obtain ⟨g37, h⟩ := gd h
      let J38 := u2 J 113 (Int32.toNatClampNeg x7) (J a34 (Int32.toNatClampNeg x7))
      let v39 := x7 + (1 : Int32)
      exact ih _ _ _ _ _ _ _ _ _ hS h
def gX11_shares (σ : Shp) (I : Nat → Nat → Int32) (J : Nat → Nat → Int64) (R : Nat → Nat → Option Nat) (x1 : Int32) (x2 : Int32) (x3 : Int32) : Option ((Shp) × (Nat → Nat → Int32) × (Nat → Nat → Int64) × (Nat → Nat → Option Nat) × (Int32)) :=
  if (fX11_isBin x1) = 0 then
    some (σ, I, J, R, (-2 : Int32))
  else
    if (fX11_isBin x3) = 0 then
      some (σ, I, J, R, (-2 : Int32))
    else
      if x2 < 0 then
        some (σ, I, J, R, (-2 : Int32))
      else
        if x2 ≤ (1000000000 : Int32) then
          if ¬ (x1 < 0 ∨ 16 ≤ Int32.toNatClampNeg x1) then
          let v2 := (R 6 (Int32.toNatClampNeg x1))
          (gX11_takenFault σ I v2 (4 : Int32)).bind fun r3 =>
          if r3 = 0 then
            onl v2
              (
                (gX11_fail I r3).bind fun (I9, r10) =>
                some (σ, I9, J, R, r10))
              (fun a8 =>
                if kdx σ a8 = 11 then
                ((R a8 1) : Option Nat).bind fun a13 =>
                if kdx σ a13 = 21 then
                let v15 := (fXM_minI (Int32.ofNat (lnx σ a13)) (40 : Int32))
                (gX11_canShare σ J R (some a8)).bind fun r16 =>
                if r16 = 0 then
                  some (σ, I, J, R, (-3 : Int32))
                else
                  (gX11_isFull I).bind fun r18 =>
                  if r18 = 0 then
                    gX11_shares_l98 FUx σ I J R x2 x3 v2 v15 (0 : Int32)
                  else
                    some (σ, I, J, R, (-4 : Int32))
                else none
                else none)
          else
            (gX11_fail I r3).bind fun (I5, r6) =>
            some (σ, I5, J, R, r6)
          else none
        else
          some (σ, I, J, R, (-2 : Int32))
theorem pX11_shares {σ : Shp} {I : Nat → Nat → Int32} {J : Nat → Nat → Int64} {R : Nat → Nat → Option Nat} {x1 : Int32} {x2 : Int32} {x3 : Int32} {σ9 : Shp} {I9 : Nat → Nat → Int32} {J9 : Nat → Nat → Int64} {R9 : Nat → Nat → Option Nat} {r9 : Int32} (hS : Skel σ R) (h : gX11_shares σ I J R x1 x2 x3 = some (σ9, I9, J9, R9, r9)) : Skel σ9 R9 := by
  unfold gX11_shares at h
  rcases itc h with ⟨c, h⟩ | ⟨c, h⟩
  · cases h
    exact hS
  · rcases itc h with ⟨c, h⟩ | ⟨c, h⟩
    · cases h
      exact hS
    · rcases itc h with ⟨c, h⟩ | ⟨c, h⟩
      · cases h
        exact hS
      · rcases itc h with ⟨c, h⟩ | ⟨c, h⟩
        · obtain ⟨g1, h⟩ := gd h
          let v2 := (R 6 (Int32.toNatClampNeg x1))
          obtain ⟨r3, hc4, h⟩ := ob h
          rcases itc h with ⟨c, h⟩ | ⟨c, h⟩
          · rcases onl_c h with ⟨ea8, h⟩ | ⟨a8, ha8, h⟩
            · obtain ⟨⟨I9, r10⟩, hc11, h⟩ := ob h
              cases h
              exact hS
            · obtain ⟨g12, h⟩ := gd h
              obtain ⟨a13, ha13, h⟩ := ob h
              obtain ⟨g14, h⟩ := gd h
              let v15 := (fXM_minI (Int32.ofNat (lnx σ a13)) (40 : Int32))
              obtain ⟨r16, hc17, h⟩ := ob h
              rcases itc h with ⟨c, h⟩ | ⟨c, h⟩
              · cases h
                exact hS
              · obtain ⟨r18, hc19, h⟩ := ob h
                rcases itc h with ⟨c, h⟩ | ⟨c, h⟩
                · exact pX11_shares_l98 _ _ _ _ _ _ _ _ _ _ hS h
                · cases h
                  exact hS
          · obtain ⟨⟨I5, r6⟩, hc7, h⟩ := ob h
            cases h
            exact hS
        · cases h
          exact hS
theorem eX11_shares {σ : Shp} {I : Nat → Nat → Int32} {J : Nat → Nat → Int64} {R : Nat → Nat → Option Nat} {x1 : Int32} {x2 : Int32} {x3 : Int32} (hS : Skel σ R) : fX11_shares σ I J R 4 x1 x2 x3 = gX11_shares σ I J R x1 x2 x3 := by
  unfold fX11_shares gX11_shares
  refine bi (fun c => ?_) (fun c => ?_)
  · rfl
  · refine bi (fun c => ?_) (fun c => ?_)
    · rfl
    · refine bi (fun c => ?_) (fun c => ?_)
      · rfl
      · refine bi (fun c => ?_) (fun c => ?_)
        · refine sg (kq4 hS) ?_
          refine sb (rq4_1 hS) ?_
          refine sg (kq6 hS) ?_
          refine bgr (by rw [lq6 hS]) (fun g1 => ?_)
          let v2 := (R 6 (Int32.toNatClampNeg x1))
          refine bc (eX11_takenFault hS) (fun r3 hc4 => ?_)
          refine bi (fun c => ?_) (fun c => ?_)
          · refine bo (fun ea8 => ?_) (fun a8 ha8 => ?_)
            · try with_reducible refine sg (kq4 hS) ?_
              refine bc (eX11_fail hS) (fun pp hc11 => ?_)
              obtain ⟨I9, r10⟩ := pp
              rfl
            · refine bg (fun g12 => ?_)
              refine bb (fun a13 ha13 => ?_)
              refine bg (fun g14 => ?_)
              let v15 := (fXM_minI (Int32.ofNat (lnx σ a13)) (40 : Int32))
              refine bc (eX11_canShare hS) (fun r16 hc17 => ?_)
              refine bi (fun c => ?_) (fun c => ?_)
              · rfl
              · try with_reducible refine sg (kq4 hS) ?_
                refine bc (eX11_isFull hS) (fun r18 hc19 => ?_)
                refine bi (fun c => ?_) (fun c => ?_)
                · exact eX11_shares_l98 _ _ _ _ _ _ _ _ _ _ hS
                · rfl
          · try with_reducible refine sg (kq4 hS) ?_
            refine bc (eX11_fail hS) (fun pp hc7 => ?_)
            obtain ⟨I5, r6⟩ := pp
            rfl
        · rfl
def gX11_quotient_b10  (σ : Shp) (I : Nat → Nat → Int32) (x1 : Int32) (x2 : Int64) (x4 : Int64) (x6 : Int32) : Option ((Nat → Nat → Int32) × (Int64)) :=
  if x6 < 0 then
    some (I, (0 : Int64))
  else
    if x6 ≤ (1 : Int32) then
      if x1 = (4 : Int32) then
        let v6 := (Int64.toInt32 x2)
        let v7 := (Int64.toInt32 x4)
        if v7 = 0 then
          (gX11_fail I (6 : Int32)).bind fun (I10, r11) =>
          some (I10, (0 : Int64))
        else
          if x6 = 0 then
            if ¬ v7 = 0 then
            some (I, (Int32.toInt64 (v6 / v7)))
            else none
          else
            if ¬ v7 = 0 then
            some (I, (Int32.toInt64 (v6 - v6 / v7 * v7)))
            else none
      else
        if x4 = (0 : Int64) then
          (gX11_fail I (6 : Int32)).bind fun (I3, r4) =>
          some (I3, (0 : Int64))
        else
          if x6 = 0 then
            if ¬ x4 = 0 then
            some (I, (x2 / x4))
            else none
          else
            if ¬ x4 = 0 then
            some (I, (x2 - x2 / x4 * x4))
            else none
    else
      some (I, (0 : Int64))
theorem eX11_quotient_b10 {σ : Shp} {I : Nat → Nat → Int32} {R : Nat → Nat → Option Nat} {x1 : Int32} {x2 : Int64} {x4 : Int64} {x6 : Int32} (hS : Skel σ R) : fX11_quotient_b10 σ 4 I x1 x2 x4 x6 = gX11_quotient_b10 σ I x1 x2 x4 x6 := by
  unfold fX11_quotient_b10 gX11_quotient_b10
  refine bi (fun c => ?_) (fun c => ?_)
  · rfl
  · refine bi (fun c => ?_) (fun c => ?_)
    · refine bi (fun c => ?_) (fun c => ?_)
      · refine bi (fun c => ?_) (fun c => ?_)
        · refine sg (kq4 hS) ?_
          refine bc (eX11_fail hS) (fun pp hc12 => ?_)
          obtain ⟨I10, r11⟩ := pp
          rfl
        · refine bi (fun c => ?_) (fun c => ?_)
          · refine bg (fun g9 => ?_)
            rfl
          · refine bg (fun g8 => ?_)
            rfl
      · refine bi (fun c => ?_) (fun c => ?_)
        · refine sg (kq4 hS) ?_
          refine bc (eX11_fail hS) (fun pp hc5 => ?_)
          obtain ⟨I3, r4⟩ := pp
          rfl
        · refine bi (fun c => ?_) (fun c => ?_)
          · refine bg (fun g2 => ?_)
            rfl
          · refine bg (fun g1 => ?_)
            rfl
    · rfl
def gX11_quotient (σ : Shp) (I : Nat → Nat → Int32) (x1 : Int32) (x2 : Int64) (x4 : Int64) (x6 : Int32) : Option ((Nat → Nat → Int32) × (Int64)) :=
  if x1 = (4 : Int32) then
    gX11_quotient_b10 σ I x1 x2 x4 x6
  else
    if x1 = (5 : Int32) then
      gX11_quotient_b10 σ I x1 x2 x4 x6
    else
      some (I, (0 : Int64))
theorem eX11_quotient {σ : Shp} {I : Nat → Nat → Int32} {R : Nat → Nat → Option Nat} {x1 : Int32} {x2 : Int64} {x4 : Int64} {x6 : Int32} (hS : Skel σ R) : fX11_quotient σ I 4 x1 x2 x4 x6 = gX11_quotient σ I x1 x2 x4 x6 := by
  unfold fX11_quotient gX11_quotient
  refine bi (fun c => ?_) (fun c => ?_)
  · exact eX11_quotient_b10 hS
  · refine bi (fun c => ?_) (fun c => ?_)
    · exact eX11_quotient_b10 hS
    · rfl
def gX11_compare_b95  (σ : Shp) (J : Nat → Nat → Int64) (R : Nat → Nat → Option Nat) (I : Nat → Nat → Int32) (x1 : Int32) (x3 : Int32) (x5 : Int32) (x6 : Option Nat) (x7 : Option Nat) (x8 : Int32) : Option ((Nat → Nat → Int32) × (Int32)) :=
  if x8 = 0 then
    onl x6
      (
        (gX11_fail I x8).bind fun (I18, r19) =>
        some (I18, r19))
      (fun a17 =>
        onl x7
          (
            (gX11_fail I x8).bind fun (I22, r23) =>
            some (I22, r23))
          (fun a21 =>
            if kdx σ a17 = 11 then
            ((R a17 1) : Option Nat).bind fun a26 =>
            if kdx σ a26 = 21 then
            if ¬ (x3 < 0 ∨ lnx σ a26 ≤ Int32.toNatClampNeg x3) then
            if kdx σ a21 = 11 then
            ((R a21 1) : Option Nat).bind fun a30 =>
            if kdx σ a30 = 21 then
            if ¬ (x5 < 0 ∨ lnx σ a30 ≤ Int32.toNatClampNeg x5) then
            some (I, (fX11_flagsOf (fX11_doubleBits x1 (J a26 (Int32.toNatClampNeg x3))) (fX11_doubleBits x1 (J a30 (Int32.toNatClampNeg x5)))))
            else none
            else none
            else none
            else none
            else none
            else none))
  else
    (gX11_fail I x8).bind fun (I14, r15) =>
    some (I14, r15)
theorem eX11_compare_b95 {σ : Shp} {I : Nat → Nat → Int32} {J : Nat → Nat → Int64} {R : Nat → Nat → Option Nat} {x1 : Int32} {x3 : Int32} {x5 : Int32} {x6 : Option Nat} {x7 : Option Nat} {x8 : Int32} (hS : Skel σ R) : fX11_compare_b95 σ J R 4 I x1 x3 x5 x6 x7 x8 = gX11_compare_b95 σ J R I x1 x3 x5 x6 x7 x8 := by
  unfold fX11_compare_b95 gX11_compare_b95
  refine bi (fun c => ?_) (fun c => ?_)
  · refine bo (fun ea17 => ?_) (fun a17 ha17 => ?_)
    · refine sg (kq4 hS) ?_
      refine bc (eX11_fail hS) (fun pp hc20 => ?_)
      obtain ⟨I18, r19⟩ := pp
      rfl
    · refine bo (fun ea21 => ?_) (fun a21 ha21 => ?_)
      · refine sg (kq4 hS) ?_
        refine bc (eX11_fail hS) (fun pp hc24 => ?_)
        obtain ⟨I22, r23⟩ := pp
        rfl
      · refine bg (fun g25 => ?_)
        refine bb (fun a26 ha26 => ?_)
        refine bg (fun g27 => ?_)
        refine bg (fun g28 => ?_)
        refine bg (fun g29 => ?_)
        refine bb (fun a30 ha30 => ?_)
        refine bg (fun g31 => ?_)
        refine bg (fun g32 => ?_)
        rfl
  · refine sg (kq4 hS) ?_
    refine bc (eX11_fail hS) (fun pp hc16 => ?_)
    obtain ⟨I14, r15⟩ := pp
    rfl
def gX11_compare_b12  (σ : Shp) (J : Nat → Nat → Int64) (R : Nat → Nat → Option Nat) (I : Nat → Nat → Int32) (x1 : Int32) (x2 : Int32) (x3 : Int32) (x4 : Int32) (x5 : Int32) : Option ((Nat → Nat → Int32) × (Int32)) :=
  if (fX11_isBin x2) = 0 then
    some (I, (-2 : Int32))
  else
    if (fX11_isBin x4) = 0 then
      some (I, (-2 : Int32))
    else
      if ¬ (x2 < 0 ∨ 16 ≤ Int32.toNatClampNeg x2) then
      let v2 := (R 6 (Int32.toNatClampNeg x2))
      if ¬ (x4 < 0 ∨ 16 ≤ Int32.toNatClampNeg x4) then
      let v4 := (R 6 (Int32.toNatClampNeg x4))
      (gX11_goesFor σ I v2 x1).bind fun r5 =>
      if r5 = 0 then
        (gX11_fail I (4 : Int32)).bind fun (I7, r8) =>
        some (I7, r8)
      else
        (gX11_goesFor σ I v4 x1).bind fun r10 =>
        if r10 = 0 then
          (gX11_fail I (4 : Int32)).bind fun (I35, r36) =>
          some (I35, r36)
        else
          (gX11_cellFault σ I R v2 x1 x3).bind fun r12 =>
          if r12 = 0 then
            (gX11_cellFault σ I R v4 x1 x5).bind fun r33 =>
            gX11_compare_b95 σ J R I x1 x3 x5 v2 v4 r33
          else
            gX11_compare_b95 σ J R I x1 x3 x5 v2 v4 r12
      else none
      else none
theorem eX11_compare_b12 {σ : Shp} {I : Nat → Nat → Int32} {J : Nat → Nat → Int64} {R : Nat → Nat → Option Nat} {x1 : Int32} {x2 : Int32} {x3 : Int32} {x4 : Int32} {x5 : Int32} (hS : Skel σ R) : fX11_compare_b12 σ J R 4 I x1 x2 x3 x4 x5 = gX11_compare_b12 σ J R I x1 x2 x3 x4 x5 := by
  unfold fX11_compare_b12 gX11_compare_b12
  refine bi (fun c => ?_) (fun c => ?_)
  · rfl
  · refine bi (fun c => ?_) (fun c => ?_)
    · rfl
    · refine sg (kq4 hS) ?_
      refine sb (rq4_1 hS) ?_
      refine sg (kq6 hS) ?_
      refine bgr (by rw [lq6 hS]) (fun g1 => ?_)
      try with_reducible refine sg (kq4 hS) ?_
      try with_reducible refine sg (kq6 hS) ?_
      refine bgr (by rw [lq6 hS]) (fun g3 => ?_)
      refine bc (eX11_goesFor hS) (fun r5 hc6 => ?_)
      refine bi (fun c => ?_) (fun c => ?_)
      · try with_reducible refine sg (kq4 hS) ?_
        refine bc (eX11_fail hS) (fun pp hc9 => ?_)
        obtain ⟨I7, r8⟩ := pp
        rfl
      · refine bc (eX11_goesFor hS) (fun r10 hc11 => ?_)
        refine bi (fun c => ?_) (fun c => ?_)
        · try with_reducible refine sg (kq4 hS) ?_
          refine bc (eX11_fail hS) (fun pp hc37 => ?_)
          obtain ⟨I35, r36⟩ := pp
          rfl
        · refine bc (eX11_cellFault hS) (fun r12 hc13 => ?_)
          refine bi (fun c => ?_) (fun c => ?_)
          · refine bc (eX11_cellFault hS) (fun r33 hc34 => ?_)
            exact eX11_compare_b95 hS
          · exact eX11_compare_b95 hS
def gX11_compare (σ : Shp) (I : Nat → Nat → Int32) (J : Nat → Nat → Int64) (R : Nat → Nat → Option Nat) (x1 : Int32) (x2 : Int32) (x3 : Int32) (x4 : Int32) (x5 : Int32) : Option ((Nat → Nat → Int32) × (Int32)) :=
  if x1 = (6 : Int32) then
    gX11_compare_b12 σ J R I x1 x2 x3 x4 x5
  else
    if x1 = (7 : Int32) then
      gX11_compare_b12 σ J R I x1 x2 x3 x4 x5
    else
      some (I, (-2 : Int32))
theorem eX11_compare {σ : Shp} {I : Nat → Nat → Int32} {J : Nat → Nat → Int64} {R : Nat → Nat → Option Nat} {x1 : Int32} {x2 : Int32} {x3 : Int32} {x4 : Int32} {x5 : Int32} (hS : Skel σ R) : fX11_compare σ I J R 4 x1 x2 x3 x4 x5 = gX11_compare σ I J R x1 x2 x3 x4 x5 := by
  unfold fX11_compare gX11_compare
  refine bi (fun c => ?_) (fun c => ?_)
  · exact eX11_compare_b12 hS
  · refine bi (fun c => ?_) (fun c => ?_)
    · exact eX11_compare_b12 hS
    · rfl
def gX11_gatherNumbers_l5  (σ : Shp) (R : Nat → Nat → Option Nat) : Nat → (Nat → Nat → Int64) → (Option Nat) → (Int32) → (Int32) → (Int32) → Option ((Nat → Nat → Int64) × (Int32))
  | 0, _, _, _, _, _ => none
  | n + 1, J, x1, x2, x3, x4 =>
    (x1 : Option Nat).bind fun a1 =>
    if kdx σ a1 = 11 then
    ((R a1 1) : Option Nat).bind fun a3 =>
    if kdx σ a3 = 21 then
    if (Int32.ofNat (lnx σ a3)) ≤ x4 then
      some (J, x3)
    else
      if (Int32.ofNat (lnx σ 112)) ≤ x3 then
        some (J, x3)
      else
        if ¬ (x4 < 0 ∨ lnx σ a3 ≤ Int32.toNatClampNeg x4) then
        let v6 := (fX11_doubleBits x2 (J a3 (Int32.toNatClampNeg x4)))
        if (fX11_isNumber v6) = 0 then
          let v7 := x4 + (1 : Int32)
          gX11_gatherNumbers_l5 σ R n J x1 x2 x3 v7
        else
          if ¬ (x3 < 0 ∨ 40 ≤ Int32.toNatClampNeg x3) then
          let J9 := u2 J 112 (Int32.toNatClampNeg x3) v6
          let v10 := x3 + (1 : Int32)
          let v11 := x4 + (1 : Int32)
          gX11_gatherNumbers_l5 σ R n J9 x1 x2 v10 v11
          else none
        else none
    else none
    else none
theorem eX11_gatherNumbers_l5 {σ : Shp} {R : Nat → Nat → Option Nat} (hS : Skel σ R) : ∀ (n : Nat) (J : Nat → Nat → Int64) (x1 : Option Nat) (x2 : Int32) (x3 : Int32) (x4 : Int32), fX11_gatherNumbers_l5 σ R 4 n J x1 x2 x3 x4 = gX11_gatherNumbers_l5 σ R n J x1 x2 x3 x4 := by
  intro n
  induction n with
  | zero => intro J x1 x2 x3 x4; rfl
  | succ n ih =>
    intro J x1 x2 x3 x4
    rw [fX11_gatherNumbers_l5, gX11_gatherNumbers_l5]
    refine bb (fun a1 ha1 => ?_)
    refine bg (fun g2 => ?_)
    refine bb (fun a3 ha3 => ?_)
    refine bg (fun g4 => ?_)
    refine bi (fun c => ?_) (fun c => ?_)
    · rfl
    · refine sg (kq4 hS) ?_
      refine sb (rq4_10 hS) ?_
      refine sg (kq112 hS) ?_
      refine bi (fun c => ?_) (fun c => ?_)
      · rfl
      · refine bg (fun g5 => ?_)
        refine bi (fun c => ?_) (fun c => ?_)
        · exact ih _ _ _ _ _
        · try with_reducible refine sg (kq4 hS) ?_
          try with_reducible refine sg (kq112 hS) ?_
          refine bgr (by rw [lq112 hS]) (fun g8 => ?_)
          exact ih _ _ _ _ _
def gX11_gatherNumbers (σ : Shp) (J : Nat → Nat → Int64) (R : Nat → Nat → Option Nat) (x1 : Option Nat) (x2 : Int32) : Option ((Nat → Nat → Int64) × (Int32)) :=
  gX11_gatherNumbers_l5 σ R FUx J x1 x2 (0 : Int32) (0 : Int32)
theorem eX11_gatherNumbers {σ : Shp} {J : Nat → Nat → Int64} {R : Nat → Nat → Option Nat} {x1 : Option Nat} {x2 : Int32} (hS : Skel σ R) : fX11_gatherNumbers σ J R 4 x1 x2 = gX11_gatherNumbers σ J R x1 x2 := by
  unfold fX11_gatherNumbers gX11_gatherNumbers
  exact eX11_gatherNumbers_l5 hS _ _ _ _ _ _
def gX11_meanBits_b89  (σ : Shp) (J : Nat → Nat → Int64) (R : Nat → Nat → Option Nat) (x1 : Int32) (x2 : UInt64) : Option ((Int64)) :=
  if (1 : Int32) ≤ x1 then
    if 0 ≤ (Op.cmpValue (FP.dcmp x2 (FP.dconst0)) .g) then
      if (FP.ddiv x2 (FP.i2d x1)) &&& 0x7fffffffffffffff ≤ 0x7ff0000000000000 then
      (fX11_bitsOf (FP.ddiv x2 (FP.i2d x1))).bind fun r3 =>
      some r3
      else none
    else
      if (FP.ddiv (FP.dneg x2) (FP.i2d x1)) &&& 0x7fffffffffffffff ≤ 0x7ff0000000000000 then
      (fX11_bitsOf (FP.ddiv (FP.dneg x2) (FP.i2d x1))).bind fun r6 =>
      some ((-9223372036854775808 : Int64) ||| r6)
      else none
  else
    some (9221120237041090560 : Int64)
theorem eX11_meanBits_b89 {σ : Shp} {J : Nat → Nat → Int64} {R : Nat → Nat → Option Nat} {x1 : Int32} {x2 : UInt64} (hS : Skel σ R) : fX11_meanBits_b89 σ J R x1 x2 = gX11_meanBits_b89 σ J R x1 x2 := by
  unfold fX11_meanBits_b89 gX11_meanBits_b89
  refine bi (fun c => ?_) (fun c => ?_)
  · refine bi (fun c => ?_) (fun c => ?_)
    · refine bg (fun g2 => ?_)
      refine bc rfl (fun r3 hc4 => ?_)
      rfl
    · refine bg (fun g5 => ?_)
      refine bc rfl (fun r6 hc7 => ?_)
      rfl
  · rfl
def gX11_meanBits_b59 (q5 : (Int32) → (UInt64) → (Int32) → (Option ((Int64)))) (σ : Shp) (J : Nat → Nat → Int64) (R : Nat → Nat → Option Nat) (x1 : Int32) (x2 : UInt64) (x4 : Int32) (x5 : UInt64) (s0 : Int32) : Option ((Int64)) :=
  if 0 ≤ (Op.cmpValue (FP.dcmp x5 (FP.dconst0)) .g) then
    if s0 = (0 : Int32) then
      if (FP.dadd x2 x5) &&& 0x7fffffffffffffff ≤ 0x7ff0000000000000 then
      let v22 := (FP.dadd x2 x5)
      let v23 := x4 + (1 : Int32)
      q5 x1 v22 v23
      else none
    else
      some (9221120237041090560 : Int64)
  else
    if s0 = (1 : Int32) then
      if (FP.dadd x2 x5) &&& 0x7fffffffffffffff ≤ 0x7ff0000000000000 then
      let v25 := (FP.dadd x2 x5)
      let v26 := x4 + (1 : Int32)
      q5 x1 v25 v26
      else none
    else
      some (9221120237041090560 : Int64)
theorem eX11_meanBits_b59 {σ : Shp} {J : Nat → Nat → Int64} {R : Nat → Nat → Option Nat} {x1 : Int32} {x2 : UInt64} {x4 : Int32} {x5 : UInt64} {s0 : Int32} (hS : Skel σ R) {qf5 q5 : (Int32) → (UInt64) → (Int32) → (Option ((Int64)))} (hq5 : ∀ (x1 : Int32) (x2 : UInt64) (x4 : Int32), qf5 x1 x2 x4 = q5 x1 x2 x4) : fX11_meanBits_b59 qf5 σ J R 4 x1 x2 x4 x5 s0 = gX11_meanBits_b59 q5 σ J R x1 x2 x4 x5 s0 := by
  unfold fX11_meanBits_b59 gX11_meanBits_b59
  refine bi (fun c => ?_) (fun c => ?_)
  · refine bi (fun c => ?_) (fun c => ?_)
    · refine bg (fun g21 => ?_)
      exact hq5 _ _ _
    · rfl
  · refine bi (fun c => ?_) (fun c => ?_)
    · refine bg (fun g24 => ?_)
      exact hq5 _ _ _
    · rfl
def gX11_meanBits_l5  (σ : Shp) (J : Nat → Nat → Int64) (R : Nat → Nat → Option Nat) : Nat → (Int32) → (UInt64) → (Int32) → Option ((Int64))
  | 0, _, _, _ => none
  | n + 1, x1, x2, x4 =>
    if x1 ≤ x4 then
      gX11_meanBits_b89 σ J R x1 x2
    else
      if (Int32.ofNat (lnx σ 112)) ≤ x4 then
        gX11_meanBits_b89 σ J R x1 x2
      else
        if ¬ (x4 < 0 ∨ 40 ≤ Int32.toNatClampNeg x4) then
        (fX11_realOf (J 112 (Int32.toNatClampNeg x4))).bind fun r9 =>
        (fX11_isEndless x2).bind fun r11 =>
        if r11 = 0 then
          if (FP.dadd x2 r9) &&& 0x7fffffffffffffff ≤ 0x7ff0000000000000 then
          let v14 := (FP.dadd x2 r9)
          let v15 := x4 + (1 : Int32)
          gX11_meanBits_l5 σ J R n x1 v14 v15
          else none
        else
          (fX11_isEndless r9).bind fun r16 =>
          if r16 = 0 then
            if (FP.dadd x2 r9) &&& 0x7fffffffffffffff ≤ 0x7ff0000000000000 then
            let v19 := (FP.dadd x2 r9)
            let v20 := x4 + (1 : Int32)
            gX11_meanBits_l5 σ J R n x1 v19 v20
            else none
          else
            if 0 ≤ (Op.cmpValue (FP.dcmp x2 (FP.dconst0)) .g) then
              gX11_meanBits_b59 (gX11_meanBits_l5 σ J R n) σ J R x1 x2 x4 r9 (0 : Int32)
            else
              gX11_meanBits_b59 (gX11_meanBits_l5 σ J R n) σ J R x1 x2 x4 r9 (1 : Int32)
        else none
theorem eX11_meanBits_l5 {σ : Shp} {J : Nat → Nat → Int64} {R : Nat → Nat → Option Nat} (hS : Skel σ R) : ∀ (n : Nat) (x1 : Int32) (x2 : UInt64) (x4 : Int32), fX11_meanBits_l5 σ J R 4 n x1 x2 x4 = gX11_meanBits_l5 σ J R n x1 x2 x4 := by
  intro n
  induction n with
  | zero => intro x1 x2 x4; rfl
  | succ n ih =>
    intro x1 x2 x4
    rw [fX11_meanBits_l5, gX11_meanBits_l5]
    refine bi (fun c => ?_) (fun c => ?_)
    · exact eX11_meanBits_b89 hS
    · refine sg (kq4 hS) ?_
      refine sb (rq4_10 hS) ?_
      refine sg (kq112 hS) ?_
      refine bi (fun c => ?_) (fun c => ?_)
      · exact eX11_meanBits_b89 hS
      · try with_reducible refine sg (kq4 hS) ?_
        try with_reducible refine sg (kq112 hS) ?_
        refine bgr (by rw [lq112 hS]) (fun g8 => ?_)
        refine bc rfl (fun r9 hc10 => ?_)
        refine bc rfl (fun r11 hc12 => ?_)
        refine bi (fun c => ?_) (fun c => ?_)
        · refine bg (fun g13 => ?_)
          exact ih _ _ _
        · refine bc rfl (fun r16 hc17 => ?_)
          refine bi (fun c => ?_) (fun c => ?_)
          · refine bg (fun g18 => ?_)
            exact ih _ _ _
          · refine bi (fun c => ?_) (fun c => ?_)
            · exact eX11_meanBits_b59 hS ih
            · exact eX11_meanBits_b59 hS ih
def gX11_meanBits (σ : Shp) (J : Nat → Nat → Int64) (R : Nat → Nat → Option Nat) (x1 : Int32) : Option ((Int64)) :=
  let v1 := FP.dconst0
  gX11_meanBits_l5 σ J R FUx x1 v1 (0 : Int32)
theorem eX11_meanBits {σ : Shp} {J : Nat → Nat → Int64} {R : Nat → Nat → Option Nat} {x1 : Int32} (hS : Skel σ R) : fX11_meanBits σ J R 4 x1 = gX11_meanBits σ J R x1 := by
  unfold fX11_meanBits gX11_meanBits
  exact eX11_meanBits_l5 hS _ _ _ _
def gX11_real_b12  (σ : Shp) (R : Nat → Nat → Option Nat) (I : Nat → Nat → Int32) (J : Nat → Nat → Int64) (x1 : Int32) (x2 : Int32) (x3 : Int32) : Option ((Nat → Nat → Int32) × (Nat → Nat → Int64) × (Int64)) :=
  if (fX11_isBin x2) = 0 then
    some (I, J, (0 : Int64))
  else
    if x3 < 0 then
      some (I, J, (0 : Int64))
    else
      if x3 ≤ (3 : Int32) then
        if ¬ (x2 < 0 ∨ 16 ≤ Int32.toNatClampNeg x2) then
        let v2 := (R 6 (Int32.toNatClampNeg x2))
        (gX11_takenFault σ I v2 x1).bind fun r3 =>
        if r3 = 0 then
          onl v2
            (
              (gX11_fail I r3).bind fun (I9, r10) =>
              some (I9, J, (0 : Int64)))
            (fun a8 =>
              (gX11_gatherNumbers σ J R (some a8) x1).bind fun (J12, r13) =>
              if r13 = 0 then
                some (I, J12, (9221120237041090560 : Int64))
              else
                if x3 = (2 : Int32) then
                  (gX11_meanBits σ J12 R r13).bind fun r22 =>
                  some (I, J12, r22)
                else
                  (gX11_sortByOrder σ J12 (some 112) r13).bind fun J15 =>
                  if x3 = 0 then
                    if ¬ ((0 : Int32) < 0 ∨ 40 ≤ Int32.toNatClampNeg (0 : Int32)) then
                    some (I, J15, (J15 112 (Int32.toNatClampNeg (0 : Int32))))
                    else none
                  else
                    if x3 = (1 : Int32) then
                      let v19 := (r13 - (1 : Int32))
                      if ¬ (v19 < 0 ∨ 40 ≤ Int32.toNatClampNeg v19) then
                      some (I, J15, (J15 112 (Int32.toNatClampNeg v19)))
                      else none
                    else
                      let v17 := ((r13 - (1 : Int32)) / (2 : Int32))
                      if ¬ (v17 < 0 ∨ 40 ≤ Int32.toNatClampNeg v17) then
                      some (I, J15, (J15 112 (Int32.toNatClampNeg v17)))
                      else none)
        else
          (gX11_fail I r3).bind fun (I5, r6) =>
          some (I5, J, (0 : Int64))
        else none
      else
        some (I, J, (0 : Int64))
theorem eX11_real_b12 {σ : Shp} {I : Nat → Nat → Int32} {J : Nat → Nat → Int64} {R : Nat → Nat → Option Nat} {x1 : Int32} {x2 : Int32} {x3 : Int32} (hS : Skel σ R) : fX11_real_b12 σ R 4 I J x1 x2 x3 = gX11_real_b12 σ R I J x1 x2 x3 := by
  unfold fX11_real_b12 gX11_real_b12
  refine bi (fun c => ?_) (fun c => ?_)
  · rfl
  · refine bi (fun c => ?_) (fun c => ?_)
    · rfl
    · refine bi (fun c => ?_) (fun c => ?_)
      · refine sg (kq4 hS) ?_
        refine sb (rq4_1 hS) ?_
        refine sg (kq6 hS) ?_
        refine bgr (by rw [lq6 hS]) (fun g1 => ?_)
        refine bc (eX11_takenFault hS) (fun r3 hc4 => ?_)
        refine bi (fun c => ?_) (fun c => ?_)
        · refine bo (fun ea8 => ?_) (fun a8 ha8 => ?_)
          · try with_reducible refine sg (kq4 hS) ?_
            refine bc (eX11_fail hS) (fun pp hc11 => ?_)
            obtain ⟨I9, r10⟩ := pp
            rfl
          · try with_reducible refine sg (kq4 hS) ?_
            refine bc (eX11_gatherNumbers hS) (fun pp hc14 => ?_)
            obtain ⟨J12, r13⟩ := pp
            refine bi (fun c => ?_) (fun c => ?_)
            · rfl
            · refine bi (fun c => ?_) (fun c => ?_)
              · try with_reducible refine sg (kq4 hS) ?_
                refine bc (eX11_meanBits hS) (fun r22 hc23 => ?_)
                rfl
              · try with_reducible refine sg (kq4 hS) ?_
                refine sb (rq4_10 hS) ?_
                refine bc (eX11_sortByOrder hS) (fun J15 hc16 => ?_)
                refine bi (fun c => ?_) (fun c => ?_)
                · try with_reducible refine sg (kq4 hS) ?_
                  refine sg (kq112 hS) ?_
                  refine bgr (by rw [lq112 hS]) (fun g21 => ?_)
                  rfl
                · refine bi (fun c => ?_) (fun c => ?_)
                  · try with_reducible refine sg (kq4 hS) ?_
                    refine sg (kq112 hS) ?_
                    refine bgr (by rw [lq112 hS]) (fun g20 => ?_)
                    rfl
                  · try with_reducible refine sg (kq4 hS) ?_
                    refine sg (kq112 hS) ?_
                    refine bgr (by rw [lq112 hS]) (fun g18 => ?_)
                    rfl
        · try with_reducible refine sg (kq4 hS) ?_
          refine bc (eX11_fail hS) (fun pp hc7 => ?_)
          obtain ⟨I5, r6⟩ := pp
          rfl
      · rfl
def gX11_real (σ : Shp) (I : Nat → Nat → Int32) (J : Nat → Nat → Int64) (R : Nat → Nat → Option Nat) (x1 : Int32) (x2 : Int32) (x3 : Int32) : Option ((Nat → Nat → Int32) × (Nat → Nat → Int64) × (Int64)) :=
  if x1 = (6 : Int32) then
    gX11_real_b12 σ R I J x1 x2 x3
  else
    if x1 = (7 : Int32) then
      gX11_real_b12 σ R I J x1 x2 x3
    else
      some (I, J, (0 : Int64))
theorem eX11_real {σ : Shp} {I : Nat → Nat → Int32} {J : Nat → Nat → Int64} {R : Nat → Nat → Option Nat} {x1 : Int32} {x2 : Int32} {x3 : Int32} (hS : Skel σ R) : fX11_real σ I J R 4 x1 x2 x3 = gX11_real σ I J R x1 x2 x3 := by
  unfold fX11_real gX11_real
  refine bi (fun c => ?_) (fun c => ?_)
  · exact eX11_real_b12 hS
  · refine bi (fun c => ?_) (fun c => ?_)
    · exact eX11_real_b12 hS
    · rfl
def gX11_wholeMean_l62  (σ : Shp) (J : Nat → Nat → Int64) (R : Nat → Nat → Option Nat) : Nat → (Nat → Nat → Int32) → (Option Nat) → (Int32) → (Int64) → (Int32) → Option ((Nat → Nat → Int32) × (Int32))
  | 0, _, _, _, _, _ => none
  | n + 1, I, x2, x4, x5, x7 =>
    if x4 ≤ x7 then
      if ¬ (Int32.toInt64 x4) = 0 then
      let I17 := u2 I 4 18 (Int64.toInt32 (x5 / (Int32.toInt64 x4)))
      some (I17, (1 : Int32))
      else none
    else
      (x2 : Option Nat).bind fun a18 =>
      if kdx σ a18 = 11 then
      ((R a18 1) : Option Nat).bind fun a20 =>
      if kdx σ a20 = 21 then
      if ¬ (x7 < 0 ∨ lnx σ a20 ≤ Int32.toNatClampNeg x7) then
      let v23 := (x5 + (J a20 (Int32.toNatClampNeg x7)))
      let v24 := x7 + (1 : Int32)
      gX11_wholeMean_l62 σ J R n I x2 x4 v23 v24
      else none
      else none
      else none
theorem eX11_wholeMean_l62 {σ : Shp} {J : Nat → Nat → Int64} {R : Nat → Nat → Option Nat} (hS : Skel σ R) : ∀ (n : Nat) (I : Nat → Nat → Int32) (x2 : Option Nat) (x4 : Int32) (x5 : Int64) (x7 : Int32), fX11_wholeMean_l62 σ J R 4 n I x2 x4 x5 x7 = gX11_wholeMean_l62 σ J R n I x2 x4 x5 x7 := by
  intro n
  induction n with
  | zero => intro I x2 x4 x5 x7; rfl
  | succ n ih =>
    intro I x2 x4 x5 x7
    rw [fX11_wholeMean_l62, gX11_wholeMean_l62]
    refine bi (fun c => ?_) (fun c => ?_)
    · refine bg (fun g16 => ?_)
      refine sg (kq4 hS) ?_
      rfl
    · refine bb (fun a18 ha18 => ?_)
      refine bg (fun g19 => ?_)
      refine bb (fun a20 ha20 => ?_)
      refine bg (fun g21 => ?_)
      refine bg (fun g22 => ?_)
      exact ih _ _ _ _ _
def gX11_wholeMean (σ : Shp) (I : Nat → Nat → Int32) (J : Nat → Nat → Int64) (R : Nat → Nat → Option Nat) (x1 : Int32) : Option ((Nat → Nat → Int32) × (Int32)) :=
  if (fX11_isBin x1) = 0 then
    some (I, (-2 : Int32))
  else
    if ¬ (x1 < 0 ∨ 16 ≤ Int32.toNatClampNeg x1) then
    let v2 := (R 6 (Int32.toNatClampNeg x1))
    (gX11_takenFault σ I v2 (4 : Int32)).bind fun r3 =>
    if r3 = 0 then
      onl v2
        (
          (gX11_fail I r3).bind fun (I9, r10) =>
          some (I9, r10))
        (fun a8 =>
          if kdx σ a8 = 11 then
          ((R a8 1) : Option Nat).bind fun a13 =>
          if kdx σ a13 = 21 then
          let v15 := (Int32.ofNat (lnx σ a13))
          if v15 = 0 then
            (gX11_fail I (6 : Int32)).bind fun (I25, r26) =>
            some (I25, r26)
          else
            gX11_wholeMean_l62 σ J R FUx I v2 v15 (0 : Int64) (0 : Int32)
          else none
          else none)
    else
      (gX11_fail I r3).bind fun (I5, r6) =>
      some (I5, r6)
    else none
theorem eX11_wholeMean {σ : Shp} {I : Nat → Nat → Int32} {J : Nat → Nat → Int64} {R : Nat → Nat → Option Nat} {x1 : Int32} (hS : Skel σ R) : fX11_wholeMean σ I J R 4 x1 = gX11_wholeMean σ I J R x1 := by
  unfold fX11_wholeMean gX11_wholeMean
  refine bi (fun c => ?_) (fun c => ?_)
  · rfl
  · refine sg (kq4 hS) ?_
    refine sb (rq4_1 hS) ?_
    refine sg (kq6 hS) ?_
    refine bgr (by rw [lq6 hS]) (fun g1 => ?_)
    refine bc (eX11_takenFault hS) (fun r3 hc4 => ?_)
    refine bi (fun c => ?_) (fun c => ?_)
    · refine bo (fun ea8 => ?_) (fun a8 ha8 => ?_)
      · try with_reducible refine sg (kq4 hS) ?_
        refine bc (eX11_fail hS) (fun pp hc11 => ?_)
        obtain ⟨I9, r10⟩ := pp
        rfl
      · refine bg (fun g12 => ?_)
        refine bb (fun a13 ha13 => ?_)
        refine bg (fun g14 => ?_)
        refine bi (fun c => ?_) (fun c => ?_)
        · try with_reducible refine sg (kq4 hS) ?_
          refine bc (eX11_fail hS) (fun pp hc27 => ?_)
          obtain ⟨I25, r26⟩ := pp
          rfl
        · exact eX11_wholeMean_l62 hS _ _ _ _ _ _
    · try with_reducible refine sg (kq4 hS) ?_
      refine bc (eX11_fail hS) (fun pp hc7 => ?_)
      obtain ⟨I5, r6⟩ := pp
      rfl
def gX11_salt (I : Nat → Nat → Int32) (x1 : Int32) (x2 : Int32) (x3 : Int32) : Option ((Nat → Nat → Int32) × (Int32)) :=
  if x1 < 0 then
    some (I, (-2 : Int32))
  else
    if (5 : Int32) < x1 then
      some (I, (-2 : Int32))
    else
      if x2 < 0 then
        some (I, (-2 : Int32))
      else
        if (2 : Int32) < x2 then
          some (I, (-2 : Int32))
        else
          if x3 < 0 then
            some (I, (-2 : Int32))
          else
            if (4 : Int32) ≤ x1 then
              if x3 ≤ (999 : Int32) then
                (gX2_becomes I x1 x2 x3).bind fun (I1, r2) =>
                some (I1, r2)
              else
                some (I, (-2 : Int32))
            else
              if x3 ≤ (99 : Int32) then
                (gX2_becomes I x1 x2 x3).bind fun (I4, r5) =>
                some (I4, r5)
              else
                some (I, (-2 : Int32))
theorem eX11_salt {σ : Shp} {I : Nat → Nat → Int32} {R : Nat → Nat → Option Nat} {x1 : Int32} {x2 : Int32} {x3 : Int32} (hS : Skel σ R) : fX11_salt σ I R 4 x1 x2 x3 = gX11_salt I x1 x2 x3 := by
  unfold fX11_salt gX11_salt
  refine bi (fun c => ?_) (fun c => ?_)
  · rfl
  · refine bi (fun c => ?_) (fun c => ?_)
    · rfl
    · refine bi (fun c => ?_) (fun c => ?_)
      · rfl
      · refine bi (fun c => ?_) (fun c => ?_)
        · rfl
        · refine bi (fun c => ?_) (fun c => ?_)
          · rfl
          · refine bi (fun c => ?_) (fun c => ?_)
            · refine bi (fun c => ?_) (fun c => ?_)
              · refine sg (kq4 hS) ?_
                refine sb (rq4_7 hS) ?_
                refine sg (kq71 hS) ?_
                refine bc (eX2_becomes hS) (fun pp hc3 => ?_)
                obtain ⟨I1, r2⟩ := pp
                rfl
              · rfl
            · refine bi (fun c => ?_) (fun c => ?_)
              · refine sg (kq4 hS) ?_
                refine sb (rq4_7 hS) ?_
                refine sg (kq71 hS) ?_
                refine bc (eX2_becomes hS) (fun pp hc6 => ?_)
                obtain ⟨I4, r5⟩ := pp
                rfl
              · rfl
def gX11_work (σ : Shp) (I : Nat → Nat → Int32) (J : Nat → Nat → Int64) (R : Nat → Nat → Option Nat) : Option ((Nat → Nat → Int32) × (Nat → Nat → Int64) × (Int32)) :=
  (gX2_solved σ I J R).bind fun (I1, J2, r3) =>
  some (I1, J2, r3)
theorem eX11_work {σ : Shp} {I : Nat → Nat → Int32} {J : Nat → Nat → Int64} {R : Nat → Nat → Option Nat}  (hS : Skel σ R) : fX11_work σ I J R 4 = gX11_work σ I J R := by
  unfold fX11_work gX11_work
  refine sg (kq4 hS) ?_
  refine sb (rq4_7 hS) ?_
  refine sg (kq71 hS) ?_
  refine bc (eX2_solved hS) (fun pp hc4 => ?_)
  obtain ⟨I1, J2, r3⟩ := pp
  rfl
def gX11_worked (I : Nat → Nat → Int32) (J : Nat → Nat → Int64) (x1 : Int32) (x2 : Int32) : Option ((Int64)) :=
  (gX2_outcome I J x1 x2).bind fun r1 =>
  some r1
theorem eX11_worked {σ : Shp} {I : Nat → Nat → Int32} {J : Nat → Nat → Int64} {R : Nat → Nat → Option Nat} {x1 : Int32} {x2 : Int32} (hS : Skel σ R) : fX11_worked σ I J R 4 x1 x2 = gX11_worked I J x1 x2 := by
  unfold fX11_worked gX11_worked
  refine sg (kq4 hS) ?_
  refine sb (rq4_7 hS) ?_
  refine sg (kq71 hS) ?_
  refine bc (eX2_outcome hS) (fun r1 hc2 => ?_)
  rfl
def gX11_count (J : Nat → Nat → Int64) (x1 : Int32) (x2 : Int32) (x3 : Int32) : Option ((Nat → Nat → Int64) × (Int32)) :=
  if (fX11_isPest x1) = 0 then
    some (J, (-2 : Int32))
  else
    if (fX11_isStage x2) = 0 then
      some (J, (-2 : Int32))
    else
      if x3 < 0 then
        some (J, (-2 : Int32))
      else
        if (Int32.toInt64 x3) ≤ (1000000000 : Int64) then
          if ¬ (x1 < 0 ∨ 2 ≤ Int32.toNatClampNeg x1) then
          if ¬ (x2 < 0 ∨ 4 ≤ Int32.toNatClampNeg x2) then
          let J3 := u2 J (93 + Int32.toNatClampNeg x1) (Int32.toNatClampNeg x2) (Int32.toInt64 x3)
          some (J3, (1 : Int32))
          else none
          else none
        else
          some (J, (-2 : Int32))
theorem eX11_count {σ : Shp} {J : Nat → Nat → Int64} {R : Nat → Nat → Option Nat} {x1 : Int32} {x2 : Int32} {x3 : Int32} (hS : Skel σ R) : fX11_count σ J R 4 x1 x2 x3 = gX11_count J x1 x2 x3 := by
  unfold fX11_count gX11_count
  refine bi (fun c => ?_) (fun c => ?_)
  · rfl
  · refine bi (fun c => ?_) (fun c => ?_)
    · rfl
    · refine bi (fun c => ?_) (fun c => ?_)
      · rfl
      · refine bi (fun c => ?_) (fun c => ?_)
        · refine sg (kq4 hS) ?_
          refine sb (rq4_8 hS) ?_
          refine sg (kq91 hS) ?_
          refine sb (rq91_0 hS) ?_
          refine sg (kq92 hS) ?_
          refine bgr (by rw [lq92 hS]) (fun g1 => ?_)
          refine sb (rr92 hS g1) ?_
          refine sg (kr92 hS g1) ?_
          refine bgr (by rw [lr92 hS g1]) (fun g2 => ?_)
          rfl
        · rfl
def gX11_parts (I : Nat → Nat → Int32) (x1 : Int32) (x2 : Int32) (x3 : Int32) (x4 : Int32) (x5 : Int32) : Option ((Nat → Nat → Int32) × (Int32)) :=
  if (fX11_isPest x1) = 0 then
    some (I, (-2 : Int32))
  else
    if (fX11_isStage x2) = 0 then
      some (I, (-2 : Int32))
    else
      if (fX11_isPart x3) = 0 then
        some (I, (-2 : Int32))
      else
        if (fX11_isPart x4) = 0 then
          some (I, (-2 : Int32))
        else
          if (fX11_isPart x5) = 0 then
            some (I, (-2 : Int32))
          else
            (gX5_setParts I x1 x2 x3 x4 x5).bind fun I1 =>
            some (I1, (1 : Int32))
theorem eX11_parts {σ : Shp} {I : Nat → Nat → Int32} {R : Nat → Nat → Option Nat} {x1 : Int32} {x2 : Int32} {x3 : Int32} {x4 : Int32} {x5 : Int32} (hS : Skel σ R) : fX11_parts σ I R 4 x1 x2 x3 x4 x5 = gX11_parts I x1 x2 x3 x4 x5 := by
  unfold fX11_parts gX11_parts
  refine bi (fun c => ?_) (fun c => ?_)
  · rfl
  · refine bi (fun c => ?_) (fun c => ?_)
    · rfl
    · refine bi (fun c => ?_) (fun c => ?_)
      · rfl
      · refine bi (fun c => ?_) (fun c => ?_)
        · rfl
        · refine bi (fun c => ?_) (fun c => ?_)
          · rfl
          · refine sg (kq4 hS) ?_
            refine sb (rq4_8 hS) ?_
            refine sg (kq91 hS) ?_
            refine bc (eX5_setParts hS) (fun I1 hc2 => ?_)
            rfl
def gX11_day_l34  (σ : Shp) (R : Nat → Nat → Option Nat) : Nat → (Nat → Nat → Int32) → (Nat → Nat → Int64) → (Int32) → (Int32) → Option ((Nat → Nat → Int32) × (Nat → Nat → Int64) × (Int32))
  | 0, _, _, _, _ => none
  | n + 1, I, J, x1, x2 =>
    if x1 ≤ x2 then
      some (I, J, (I 91 8))
    else
      (gX5_passDay σ I J R).bind fun (I1, J2) =>
      let v4 := x2 + (1 : Int32)
      gX11_day_l34 σ R n I1 J2 x1 v4
theorem eX11_day_l34 {σ : Shp} {R : Nat → Nat → Option Nat} (hS : Skel σ R) : ∀ (n : Nat) (I : Nat → Nat → Int32) (J : Nat → Nat → Int64) (x1 : Int32) (x2 : Int32), fX11_day_l34 σ R 4 n I J x1 x2 = gX11_day_l34 σ R n I J x1 x2 := by
  intro n
  induction n with
  | zero => intro I J x1 x2; rfl
  | succ n ih =>
    intro I J x1 x2
    rw [fX11_day_l34, gX11_day_l34]
    refine bi (fun c => ?_) (fun c => ?_)
    · refine sg (kq4 hS) ?_
      refine sb (rq4_8 hS) ?_
      refine sg (kq91 hS) ?_
      rfl
    · refine sg (kq4 hS) ?_
      refine sb (rq4_8 hS) ?_
      refine sg (kq91 hS) ?_
      refine bc (eX5_passDay hS) (fun pp hc3 => ?_)
      obtain ⟨I1, J2⟩ := pp
      exact ih _ _ _ _
def gX11_day (σ : Shp) (I : Nat → Nat → Int32) (J : Nat → Nat → Int64) (R : Nat → Nat → Option Nat) (x1 : Int32) : Option ((Nat → Nat → Int32) × (Nat → Nat → Int64) × (Int32)) :=
  if x1 < (1 : Int32) then
    some (I, J, (-2 : Int32))
  else
    if x1 ≤ (50 : Int32) then
      if ((I 91 8) + x1) ≤ (10000 : Int32) then
        gX11_day_l34 σ R FUx I J x1 (0 : Int32)
      else
        some (I, J, (-4 : Int32))
    else
      some (I, J, (-2 : Int32))
theorem eX11_day {σ : Shp} {I : Nat → Nat → Int32} {J : Nat → Nat → Int64} {R : Nat → Nat → Option Nat} {x1 : Int32} (hS : Skel σ R) : fX11_day σ I J R 4 x1 = gX11_day σ I J R x1 := by
  unfold fX11_day gX11_day
  refine bi (fun c => ?_) (fun c => ?_)
  · rfl
  · refine bi (fun c => ?_) (fun c => ?_)
    · refine sg (kq4 hS) ?_
      refine sb (rq4_8 hS) ?_
      refine sg (kq91 hS) ?_
      refine bi (fun c => ?_) (fun c => ?_)
      · exact eX11_day_l34 hS _ _ _ _ _
      · rfl
    · rfl
