/-! ===== plant: failing ends, the model's ends ===== -/
def subV (L M : List (Nat × Nat)) : Bool := L.all fun t => M.any fun u => Nat.ble u.1 t.1 && Nat.ble t.2 u.2
theorem Ag.mv {α : Type} {L M : List (Nat × Nat)} {f g : Nat → Nat → α} (p : Ag L f g) (h : subV L M = true) : Ag M f g := fun a k ha => p a k (by
  by_cases c : inW L (key a k) = true
  · obtain ⟨t, ht, h1, h2⟩ := inW_iff.mp c
    have h3 := List.all_eq_true.mp h t ht
    rw [List.any_eq_true] at h3
    obtain ⟨u, hu, h4⟩ := h3
    rw [Bool.and_eq_true] at h4
    have h5 := Nat.le_of_ble_eq_true h4.1
    have h6 := Nat.le_of_ble_eq_true h4.2
    have : inW M (key a k) = true := inW_iff.mpr ⟨u, hu, by omega, by omega⟩
    rw [ha] at this
    cases this
  · exact Bool.not_eq_true _ ▸ c)
theorem cp_hd2 {σ : Shp} {R : Nat → Nat → Option Nat} {I : Nat → Nat → Int32} {i p r : Int} {x3 x4 : Int32} (hi : 0 ≤ i ∧ i ≤ 15) (hp : 0 ≤ p ∧ p ≤ 15) (hr : 0 ≤ r ∧ r ≤ 15) (f : gX11_isFull I = some 0) : gX11_plant σ I R (Int32.ofInt i) 2 x3 x4 (Int32.ofInt p) (Int32.ofInt r) = gX11_plant_b56 (mkO σ 11 9) I R (Int32.ofInt i) 2 x3 x4 (Int32.ofInt p) (Int32.ofInt r) (nxx σ + 4) := by
  unfold gX11_plant
  rw [tX11_isBinT hi, if_neg n10, if_neg (by decide), if_pos (by decide), if_pos rfl, tX11_isBinT hp, if_neg n10, tX11_isBinT hr, if_neg n10, f, ob_some, if_pos rfl]
theorem cp_ful2 {σ : Shp} {R : Nat → Nat → Option Nat} {I : Nat → Nat → Int32} {i p r : Int} {x3 x4 : Int32} (hi : 0 ≤ i ∧ i ≤ 15) (hp : 0 ≤ p ∧ p ≤ 15) (hr : 0 ≤ r ∧ r ≤ 15) (f : gX11_isFull I = some 1) : gX11_plant σ I R (Int32.ofInt i) 2 x3 x4 (Int32.ofInt p) (Int32.ofInt r) = some (σ, I, R, -4) := by
  unfold gX11_plant
  rw [tX11_isBinT hi, if_neg n10, if_neg (by decide), if_pos (by decide), if_pos rfl, tX11_isBinT hp, if_neg n10, tX11_isBinT hr, if_neg n10, f, ob_some, if_neg n10]
theorem mp_hd2 {σ : Shp} {R : Nat → Nat → Option Nat} {I : Nat → Nat → Int32} {i p r : Int} {x3 x4 : Int32} (hi : 0 ≤ i ∧ i ≤ 15) (hp : 0 ≤ p ∧ p ≤ 15) (hr : 0 ≤ r ∧ r ≤ 15) : gX12_plant σ I R (Int32.ofInt i) 2 x3 x4 (Int32.ofInt p) (Int32.ofInt r) = gX12_plant_b40 σ R I (Int32.ofInt i) 2 x3 x4 (Int32.ofInt p) (Int32.ofInt r) := by
  have e : fX12_in (2 : Int32) 0 5 = 1 := by decide
  unfold gX12_plant
  rw [tX12_isBinT hi, if_neg n10, e, if_neg n10, if_pos rfl, tX12_isBinT hp, if_neg n10, tX12_isBinT hr, if_neg n10]
theorem cplant_2f {σ : Shp} {R : Nat → Nat → Option Nat} {I : Nat → Nat → Int32} {i p r : Int} {x3 x4 : Int32} (h198 : 198 ≤ nxx σ) (hp : 0 ≤ p ∧ p ≤ 15) (hr : 0 ≤ r ∧ r ≤ 15) (g1 : gX11_goesFor (shP σ 2) (u2 I (nxx σ + 4) 0 16) (R 6 p.toNat) 16 = some 0) : gX11_plant_b56 (mkO σ 11 9) I R (Int32.ofInt i) 2 x3 x4 (Int32.ofInt p) (Int32.ofInt r) (nxx σ + 4) = some (shP σ 2, fI (u2 I (nxx σ + 4) 0 16) 4, u2 (u2 R (nxx σ + 4) 1 (some 0)) (nxx σ + 4) 2 (some (nxx σ + 4 + 1)), mfail 4) := by
  have k2 : kdx (mkA (mkO σ 11 9) 26 2) (nxx σ + 4) = 11 := by
    show kdx (shP σ 2) (nxx σ + 4) = 11
    rw [shP_k, if_neg (by omega), if_pos rfl]
  have u6 : ∀ b : Nat, u2 (u2 R (nxx σ + 4) 1 (some 0)) (nxx σ + 4) 2 (some (nxx σ + 1 + 4)) 6 b = R 6 b := fun b => by rw [u2n (by omega), u2n (by omega)]
  have gp : ¬ (Int32.ofInt p < 0 ∨ 16 ≤ Int32.toNatClampNeg (Int32.ofInt p)) := by rw [i_gd (by omega)]; exact id
  unfold gX11_plant_b56
  rw [if_pos rfl]
  show gX11_plant_b75 (mkA (mkO σ 11 9) 26 2) I R (Int32.ofInt i) 2 x3 x4 (Int32.ofInt p) (Int32.ofInt r) (nxx σ + 4) (nxx σ + 4) 16 0 (nxx σ + 1 + 4) = _
  unfold gX11_plant_b75 gX10_init
  rw [if_pos k2, if_pos k2]
  simp only [ob_some]
  rw [if_pos trivial, tX11_isBinT (by omega), if_neg n10, tX11_isBinT (by omega), if_neg n10, if_pos gp, i_tn (by omega), i_tn (by omega)]
  simp only [u6]
  have g1' : gX11_goesFor (mkA (mkO σ 11 9) 26 2) (u2 I (nxx σ + 4) 0 16) (R 6 p.toNat) 16 = some 0 := g1
  rw [g1', ob_some, if_pos rfl, fail_r, ob_some]
  rfl
theorem cplant_2g {σ : Shp} {R : Nat → Nat → Option Nat} {I : Nat → Nat → Int32} {i p r : Int} {x3 x4 : Int32} (h198 : 198 ≤ nxx σ) (hp : 0 ≤ p ∧ p ≤ 15) (hr : 0 ≤ r ∧ r ≤ 15) (g1 : gX11_goesFor (shP σ 2) (u2 I (nxx σ + 4) 0 16) (R 6 p.toNat) 16 = some 1) (g2 : gX11_goesFor (shP σ 2) (u2 I (nxx σ + 4) 0 16) (R 6 r.toNat) 16 = some 0) : gX11_plant_b56 (mkO σ 11 9) I R (Int32.ofInt i) 2 x3 x4 (Int32.ofInt p) (Int32.ofInt r) (nxx σ + 4) = some (shP σ 2, fI (u2 I (nxx σ + 4) 0 16) 4, u2 (u2 R (nxx σ + 4) 1 (some 0)) (nxx σ + 4) 2 (some (nxx σ + 4 + 1)), mfail 4) := by
  have k2 : kdx (mkA (mkO σ 11 9) 26 2) (nxx σ + 4) = 11 := by
    show kdx (shP σ 2) (nxx σ + 4) = 11
    rw [shP_k, if_neg (by omega), if_pos rfl]
  have u6 : ∀ b : Nat, u2 (u2 R (nxx σ + 4) 1 (some 0)) (nxx σ + 4) 2 (some (nxx σ + 1 + 4)) 6 b = R 6 b := fun b => by rw [u2n (by omega), u2n (by omega)]
  have gp : ¬ (Int32.ofInt p < 0 ∨ 16 ≤ Int32.toNatClampNeg (Int32.ofInt p)) := by rw [i_gd (by omega)]; exact id
  have gr : ¬ (Int32.ofInt r < 0 ∨ 16 ≤ r.toNat) := by rw [i_ltl (by omega)]; omega
  unfold gX11_plant_b56
  rw [if_pos rfl]
  show gX11_plant_b75 (mkA (mkO σ 11 9) 26 2) I R (Int32.ofInt i) 2 x3 x4 (Int32.ofInt p) (Int32.ofInt r) (nxx σ + 4) (nxx σ + 4) 16 0 (nxx σ + 1 + 4) = _
  unfold gX11_plant_b75 gX10_init
  rw [if_pos k2, if_pos k2]
  simp only [ob_some]
  rw [if_pos trivial, tX11_isBinT (by omega), if_neg n10, tX11_isBinT (by omega), if_neg n10, if_pos gp, i_tn (by omega), i_tn (by omega)]
  simp only [u6]
  have g1' : gX11_goesFor (mkA (mkO σ 11 9) 26 2) (u2 I (nxx σ + 4) 0 16) (R 6 p.toNat) 16 = some 1 := g1
  have g2' : gX11_goesFor (mkA (mkO σ 11 9) 26 2) (u2 I (nxx σ + 4) 0 16) (R 6 r.toNat) 16 = some 0 := g2
  rw [g1', ob_some, if_neg n10, if_pos gr, g2', ob_some, if_pos rfl, fail_r, ob_some]
  rfl
theorem cplant_2d {σ : Shp} {R : Nat → Nat → Option Nat} {I : Nat → Nat → Int32} {dl dq : Nat} {i p r : Int} {x3 x4 : Int32} (h198 : 198 ≤ nxx σ) (hp : 0 ≤ p ∧ p ≤ 15) (hr : 0 ≤ r ∧ r ≤ 15) (g1 : gX11_goesFor (shP σ 2) (u2 I (nxx σ + 4) 0 16) (R 6 p.toNat) 16 = some 1) (g2 : gX11_goesFor (shP σ 2) (u2 I (nxx σ + 4) 0 16) (R 6 r.toNat) 16 = some 1) (d1 : gX11_depthOf (shP σ 2) (u2 I (nxx σ + 4) 0 16) (R 6 p.toNat) = some (Int32.ofInt dl)) (d2 : gX11_depthOf (shP σ 2) (u2 I (nxx σ + 4) 0 16) (R 6 r.toNat) = some (Int32.ofInt dq)) (h1 : dl ≤ 4) (h2 : dq ≤ 4) (hd : ¬ 1 + (if dl < dq then dq else dl) ≤ 4) : gX11_plant_b56 (mkO σ 11 9) I R (Int32.ofInt i) 2 x3 x4 (Int32.ofInt p) (Int32.ofInt r) (nxx σ + 4) = some (shP σ 2, u2 (u2 I (nxx σ + 4) 0 16) (nxx σ + 4) 7 (Int32.ofInt ((1 + (if dl < dq then dq else dl) : Nat) : Int)), u2 (u2 R (nxx σ + 4) 1 (some 0)) (nxx σ + 4) 2 (some (nxx σ + 4 + 1)), -4) := by
  have k2 : kdx (mkA (mkO σ 11 9) 26 2) (nxx σ + 4) = 11 := by
    show kdx (shP σ 2) (nxx σ + 4) = 11
    rw [shP_k, if_neg (by omega), if_pos rfl]
  have mx := mx_r h1 h2
  have he4 : (if dl < dq then dq else dl) ≤ 4 := by split <;> omega
  generalize hmx : (if dl < dq then dq else dl) = e at *
  have ee : (1 : Int) + (e : Int) = ((1 + e : Nat) : Int) := by omega
  have u6 : ∀ b : Nat, u2 (u2 R (nxx σ + 4) 1 (some 0)) (nxx σ + 4) 2 (some (nxx σ + 1 + 4)) 6 b = R 6 b := fun b => by rw [u2n (by omega), u2n (by omega)]
  have le : ¬ Int32.ofInt ((1 + e : Nat) : Int) ≤ 4 := by rw [i_lel (by omega)]; omega
  have od : (1 : Int32) + Int32.ofInt (e : Int) = Int32.ofInt ((1 + e : Nat) : Int) := by rw [i_addr, ee]
  have gp : ¬ (Int32.ofInt p < 0 ∨ 16 ≤ Int32.toNatClampNeg (Int32.ofInt p)) := by rw [i_gd (by omega)]; exact id
  have gr : ¬ (Int32.ofInt r < 0 ∨ 16 ≤ r.toNat) := by rw [i_ltl (by omega)]; omega
  unfold gX11_plant_b56
  rw [if_pos rfl]
  show gX11_plant_b75 (mkA (mkO σ 11 9) 26 2) I R (Int32.ofInt i) 2 x3 x4 (Int32.ofInt p) (Int32.ofInt r) (nxx σ + 4) (nxx σ + 4) 16 0 (nxx σ + 1 + 4) = _
  unfold gX11_plant_b75 gX10_init
  rw [if_pos k2, if_pos k2]
  simp only [ob_some]
  rw [if_pos trivial, tX11_isBinT (by omega), if_neg n10, tX11_isBinT (by omega), if_neg n10, if_pos gp, i_tn (by omega), i_tn (by omega)]
  simp only [u6]
  have g1' : gX11_goesFor (mkA (mkO σ 11 9) 26 2) (u2 I (nxx σ + 4) 0 16) (R 6 p.toNat) 16 = some 1 := g1
  have g2' : gX11_goesFor (mkA (mkO σ 11 9) 26 2) (u2 I (nxx σ + 4) 0 16) (R 6 r.toNat) 16 = some 1 := g2
  have d1' : gX11_depthOf (mkA (mkO σ 11 9) 26 2) (u2 I (nxx σ + 4) 0 16) (R 6 p.toNat) = some (Int32.ofInt dl) := d1
  have d2' : gX11_depthOf (mkA (mkO σ 11 9) 26 2) (u2 I (nxx σ + 4) 0 16) (R 6 r.toNat) = some (Int32.ofInt dq) := d2
  rw [g1', ob_some, if_neg n10, if_pos gr, g2', ob_some, if_neg n10, d1', ob_some, d2', ob_some, if_pos k2, mx, od]
  rw [u2_self, if_neg le]
  rfl
theorem mplant_f {σ : Shp} {R : Nat → Nat → Option Nat} {I : Nat → Nat → Int32} {l : Nat} {p : Int} {x1 x3 x4 x6 : Int32} (hp : 0 ≤ p ∧ p ≤ 15) (f2 : gX12_isFull I = some 0) (e1 : I 115 p.toNat = Int32.ofInt l) (g1 : gX12_isOf I (Int32.ofInt l) 16 = some 0) : gX12_plant_b40 σ R I x1 2 x3 x4 (Int32.ofInt p) x6 = some (noI I 4, mfail 4) := by
  have gp : ¬ (Int32.ofInt p < 0 ∨ 16 ≤ Int32.toNatClampNeg (Int32.ofInt p)) := by rw [i_gd (by omega)]; exact id
  unfold gX12_plant_b40
  dsimp only
  rw [f2, ob_some, if_pos rfl, if_pos rfl, if_pos gp, i_tn (by omega), e1, g1, ob_some, if_pos rfl, no_r, ob_some]
theorem mplant_g {σ : Shp} {R : Nat → Nat → Option Nat} {I : Nat → Nat → Int32} {l q : Nat} {p r : Int} {x1 x3 x4 : Int32} (hp : 0 ≤ p ∧ p ≤ 15) (hr : 0 ≤ r ∧ r ≤ 15) (f2 : gX12_isFull I = some 0) (e1 : I 115 p.toNat = Int32.ofInt l) (e2 : I 115 r.toNat = Int32.ofInt q) (g1 : gX12_isOf I (Int32.ofInt l) 16 = some 1) (g2 : gX12_isOf I (Int32.ofInt q) 16 = some 0) : gX12_plant_b40 σ R I x1 2 x3 x4 (Int32.ofInt p) (Int32.ofInt r) = some (noI I 4, mfail 4) := by
  have gp : ¬ (Int32.ofInt p < 0 ∨ 16 ≤ Int32.toNatClampNeg (Int32.ofInt p)) := by rw [i_gd (by omega)]; exact id
  have gr : ¬ (Int32.ofInt r < 0 ∨ 16 ≤ Int32.toNatClampNeg (Int32.ofInt r)) := by rw [i_gd (by omega)]; exact id
  unfold gX12_plant_b40
  dsimp only
  rw [f2, ob_some, if_pos rfl, if_pos rfl, if_pos gp]
  rw [i_tn (i := p) (by omega), e1, g1, ob_some, if_neg n10, if_pos gr]
  rw [i_tn (i := r) (by omega), e2, g2, ob_some, if_pos rfl, no_r, ob_some]
theorem mplant_k {σ : Shp} {R : Nat → Nat → Option Nat} {I : Nat → Nat → Int32} {l q dl dq : Nat} {p r : Int} {x1 x3 x4 : Int32} (hp : 0 ≤ p ∧ p ≤ 15) (hr : 0 ≤ r ∧ r ≤ 15) (f2 : gX12_isFull I = some 0) (e1 : I 115 p.toNat = Int32.ofInt l) (e2 : I 115 r.toNat = Int32.ofInt q) (hl : l ≤ 4050) (hq : q ≤ 4050) (g1 : gX12_isOf I (Int32.ofInt l) 16 = some 1) (g2 : gX12_isOf I (Int32.ofInt q) 16 = some 1) (d1 : I 127 l = Int32.ofInt dl) (d2 : I 127 q = Int32.ofInt dq) (h1 : dl ≤ 4) (h2 : dq ≤ 4) : gX12_plant_b40 σ R I x1 2 x3 x4 (Int32.ofInt p) (Int32.ofInt r) = if 1 + (if dl < dq then dq else dl) ≤ 4 then gX12_plant_b163 σ R I x1 2 x3 x4 (Int32.ofInt p) (Int32.ofInt r) (Int32.ofInt ((1 + (if dl < dq then dq else dl) : Nat) : Int)) else some (I, -4) := by
  have gp : ¬ (Int32.ofInt p < 0 ∨ 16 ≤ Int32.toNatClampNeg (Int32.ofInt p)) := by rw [i_gd (by omega)]; exact id
  have gr : ¬ (Int32.ofInt r < 0 ∨ 16 ≤ Int32.toNatClampNeg (Int32.ofInt r)) := by rw [i_gd (by omega)]; exact id
  have gl : ¬ (Int32.ofInt (l : Int) < 0 ∨ 4100 ≤ Int32.toNatClampNeg (Int32.ofInt (l : Int))) := by rw [i_gd (by omega)]; exact id
  have gq : ¬ (Int32.ofInt (q : Int) < 0 ∨ 4100 ≤ Int32.toNatClampNeg (Int32.ofInt (q : Int))) := by rw [i_gd (by omega)]; exact id
  have tl : Int32.toNatClampNeg (Int32.ofInt (l : Int)) = l := by rw [i_tn (by omega)]; exact Int.toNat_natCast l
  have tq : Int32.toNatClampNeg (Int32.ofInt (q : Int)) = q := by rw [i_tn (by omega)]; exact Int.toNat_natCast q
  have od : ∀ e : Nat, (1 : Int32) + Int32.ofInt (e : Int) = Int32.ofInt ((1 + e : Nat) : Int) := fun e => by rw [i_addr, show (1 : Int) + (e : Int) = ((1 + e : Nat) : Int) by omega]
  unfold gX12_plant_b40
  dsimp only
  rw [f2, ob_some, if_pos rfl, if_pos rfl, if_pos gp]
  rw [i_tn (i := p) (by omega), e1, g1, ob_some, if_neg n10, if_pos gr]
  rw [i_tn (i := r) (by omega), e2, g2, ob_some, if_neg n10, if_pos gl, if_pos gq, tl, tq, d1, d2, od, od]
  by_cases c : dl ≤ dq
  · have e : (if dl < dq then dq else dl) = dq := by split <;> omega
    rw [if_pos (by rw [i_le (by omega) (by omega)]; omega), e]
    by_cases c2 : 1 + dq ≤ 4
    · rw [if_pos c2, if_pos (by rw [i_lel (by omega)]; omega)]
    · rw [if_neg c2, if_neg (by rw [i_lel (by omega)]; omega)]
  · have e : (if dl < dq then dq else dl) = dl := by split <;> omega
    rw [if_neg (by rw [i_le (by omega) (by omega)]; omega), e]
    by_cases c2 : 1 + dl ≤ 4
    · rw [if_pos c2, if_pos (by rw [i_lel (by omega)]; omega)]
    · rw [if_neg c2, if_neg (by rw [i_lel (by omega)]; omega)]
theorem depth_eq {G : Nat → Nat → Nat} {C : Nat → Int64} {N : Nat → Nat → Int32} {σ : Shp} {I : Nat → Nat → Int32} {J : Nat → Nat → Int64} {R : Nat → Nat → Option Nat} (hg : TSg G C N) (hc : TCl G C N σ I J R) {x : Nat} (hx : x ≤ G 10 0) : gX11_depthOf σ I (pn G x) = some (Int32.ofInt (G 8 x)) ∧ G 8 x ≤ 4 := by
  unfold gX11_depthOf
  by_cases q : x = 0
  · subst q
    have := (hg.2.2.2.2.1 0 (Or.inl rfl)).2.2.2.1
    rw [pn_0, this]
    exact ⟨rfl, by omega⟩
  · obtain ⟨⟨a1, -⟩, ⟨-, -, -, -, -, b6, -⟩, -⟩ := hc.2.2.1 x (by omega) hx
    have s := (hg.2.2.1 x (by omega) hx).2.2.1
    rw [pn_1 (by omega)]
    show (if kdx σ (G 0 x) = 11 then some (I (G 0 x) 7) else none) = _ ∧ _
    rw [if_pos a1, b6]
    exact ⟨rfl, s⟩
