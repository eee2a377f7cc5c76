/-! ===== plant: the class, grafts ===== -/
def clP2 (I : Nat → Nat → Int32) (a d : Nat) (x3 x4 : Int32) : Nat → Nat → Int32 := u2 (u2 (u2 (u2 (u2 (u2 (u2 (u2 I a 0 16) a 7 (Int32.ofInt d)) a 3 2) a 5 x3) a 6 x4) a 4 (I 4 15)) 4 15 (I 4 15 + 1)) 4 12 (I 4 12 + 1)
def rP2 (R : Nat → Nat → Option Nat) (a : Nat) (u v : Option Nat) : Nat → Nat → Option Nat := u2 (u2 (u2 (u2 R a 1 (some 0)) a 2 (some (a + 1))) (a + 1) 0 u) (a + 1) 1 v
theorem mx_r {x y : Nat} (hx : x ≤ 4) (hy : y ≤ 4) : fXM_maxI (Int32.ofInt x) (Int32.ofInt y) = Int32.ofInt ((if x < y then y else x : Nat) : Int) := by
  unfold fXM_maxI
  by_cases c : x < y
  · rw [if_pos c, if_pos (by rw [i_lt (by omega) (by omega)]; omega)]
  · rw [if_neg c, if_neg (by rw [i_lt (by omega) (by omega)]; omega)]
theorem k_207 {σ : Shp} {I : Nat → Nat → Int32} {R : Nat → Nat → Option Nat} {a : Nat} {i : Int} {x2 x3 x4 : Int32} (h1 : kdx σ a = 11) (ha : 202 ≤ a) (hi : 0 ≤ i ∧ i ≤ 15) : gX11_plant_b207 σ I R (Int32.ofInt i) x2 x3 x4 (some a) = some (σ, u2 (u2 (u2 (u2 (u2 (u2 I a 3 x2) a 5 x3) a 6 x4) a 4 (I 4 15)) 4 15 (I 4 15 + 1)) 4 12 (I 4 12 + 1), u2 R 6 i.toNat (some a), I 4 15) := by
  unfold gX11_plant_b207
  simp (disch := omega) only [fail_r, no_r, nob_r, fI_o, Nat.reduceLeDiff, ↓reduceIte, not_true_eq_false, not_false_eq_true, false_imp_iff, true_imp_iff, and_true, true_and, and_self, implies_true, false_or, or_false, true_or, or_true, d10, d01, d00, d11, g_tn, Tot_some, Tot_none, Tot_ite, Tot_bind, ob_some, onl_n, onl_s, nat32, Int.toNat_natCast, i_add, i_sub, i_mul, i_addl, i_addr, i_subl, i_subr, i_mulr, i_addn, i_gd, i_tn, i_w, i_ltlT, i_ltlF, i_ltrT, i_ltrF, i_lelT, i_lelF, i_lerT, i_lerF, i_eqlT, i_eqlF, i_eqrT, i_eqrF, i_ltnT, i_ltnF, i_lenT, i_lenF, i_eqnT, i_eqnF, i_ltT, i_ltF, i_leT, i_leF, i_eqT, i_eqF, j_ltlT, j_ltlF, j_ltrT, j_ltrF, j_lelT, j_lelF, j_lerT, j_lerF, j_eqlT, j_eqlF, j_ltT, j_ltF, j_leT, j_leF, j_eqT, j_eqF, i_mull, l_tn, l_lt0, l_ne0, nleF, tX11_isStockT, tX11_isStockF, tX11_isBinT, tX11_isBinF, tX11_isPlanT, tX11_isPlanF, tX11_isValveT, tX11_isValveF, tX11_isLaneT, tX11_isLaneF, tX11_isGridFormT, tX11_isGridFormF, tX11_isFormT, tX11_isFormF, tX11_isTrayFormT, tX11_isTrayFormF, tX11_isPlacesFormT, tX11_isPlacesFormF, tX11_isTableT, tX11_isTableF, tX11_isProbeT, tX11_isProbeF, tX11_isHouseT, tX11_isHouseF, tX11_isPestT, tX11_isPestF, tX11_isStageT, tX11_isStageF, tX11_isPartT, tX11_isPartF, tX12_isBinT, tX12_isBinF, tX12_isTableT, tX12_isTableF, tX12_inT, tX12_inF, tX12_innT, tX12_innF, tX12_ingT, tX12_ingF, tX12_isStageT, tX12_isStageF, tX1_isByteT, tX1_isByteF, h1, u2n, u2s]
theorem cplant_2 {σ : Shp} {R : Nat → Nat → Option Nat} {I : Nat → Nat → Int32} {dl dq : Nat} {i p r : Int} {x3 x4 : Int32} (h198 : 198 ≤ nxx σ) (hi : 0 ≤ i ∧ i ≤ 15) (hp : 0 ≤ p ∧ p ≤ 15) (hr : 0 ≤ r ∧ r ≤ 15) (g1 : gX11_goesFor (mkA (mkO σ 11 9) 26 2) (u2 I (nxx σ + 4) 0 16) (R 6 p.toNat) 16 = some 1) (g2 : gX11_goesFor (mkA (mkO σ 11 9) 26 2) (u2 I (nxx σ + 4) 0 16) (R 6 r.toNat) 16 = some 1) (d1 : gX11_depthOf (mkA (mkO σ 11 9) 26 2) (u2 I (nxx σ + 4) 0 16) (R 6 p.toNat) = some (Int32.ofInt dl)) (d2 : gX11_depthOf (mkA (mkO σ 11 9) 26 2) (u2 I (nxx σ + 4) 0 16) (R 6 r.toNat) = some (Int32.ofInt dq)) (h1 : dl ≤ 4) (h2 : dq ≤ 4) (hd : 1 + (if dl < dq then dq else dl) ≤ 4) (o1 : okR (mkA (mkO σ 11 9) 26 2) 11 (R 6 p.toNat) = true) (o2 : okR (mkA (mkO σ 11 9) 26 2) 11 (R 6 r.toNat) = true) : gX11_plant_b56 (mkO σ 11 9) I R (Int32.ofInt i) 2 x3 x4 (Int32.ofInt p) (Int32.ofInt r) (nxx σ + 4) = some (shP σ 2, clP2 I (nxx σ + 4) (1 + (if dl < dq then dq else dl)) x3 x4, u2 (rP2 R (nxx σ + 4) (R 6 p.toNat) (R 6 r.toNat)) 6 i.toNat (some (nxx σ + 4)), I 4 15) := by
  have k2 : kdx (mkA (mkO σ 11 9) 26 2) (nxx σ + 4) = 11 := by
    show kdx (shP σ 2) (nxx σ + 4) = 11
    rw [shP_k, if_neg (by omega), if_pos rfl]
  have k3 : kdx (mkA (mkO σ 11 9) 26 2) (nxx σ + 1 + 4) = 26 := by
    show kdx (shP σ 2) (nxx σ + 1 + 4) = 26
    rw [shP_k, if_pos (by omega)]
  have k4 : lnx (mkA (mkO σ 11 9) 26 2) (nxx σ + 1 + 4) = 2 := by
    show lnx (shP σ 2) (nxx σ + 1 + 4) = 2
    rw [shP_l, if_pos (by omega)]
  have mx := mx_r h1 h2
  generalize hmx : (if dl < dq then dq else dl) = e at *
  have ee : (1 : Int) + (e : Int) = ((1 + e : Nat) : Int) := by omega
  have z0 : ¬ ((0 : Int32) < 0 ∨ 2 ≤ Int32.toNatClampNeg (0 : Int32)) := by decide
  have z1 : ¬ ((1 : Int32) < 0 ∨ 2 ≤ Int32.toNatClampNeg (1 : Int32)) := by decide
  have t0 : Int32.toNatClampNeg (0 : Int32) = 0 := rfl
  have t1 : Int32.toNatClampNeg (1 : Int32) = 1 := rfl
  have t2 : Int32.toNatClampNeg (2 : Int32) = 2 := rfl
  have u6 : ∀ b : Nat, u2 (u2 R (nxx σ + 4) 1 (some 0)) (nxx σ + 4) 2 (some (nxx σ + 1 + 4)) 6 b = R 6 b := fun b => by rw [u2n (by omega), u2n (by omega)]
  have u7 : ∀ b : Nat, u2 (u2 (u2 R (nxx σ + 4) 1 (some 0)) (nxx σ + 4) 2 (some (nxx σ + 1 + 4))) (nxx σ + 1 + 4) 0 (R 6 p.toNat) 6 b = R 6 b := fun b => by rw [u2n (by omega), u6]
  have ua : u2 (u2 R (nxx σ + 4) 1 (some 0)) (nxx σ + 4) 2 (some (nxx σ + 1 + 4)) (nxx σ + 4) 2 = some (nxx σ + 1 + 4) := u2_self _ _ _ _
  have ub : u2 (u2 (u2 R (nxx σ + 4) 1 (some 0)) (nxx σ + 4) 2 (some (nxx σ + 1 + 4))) (nxx σ + 1 + 4) 0 (R 6 p.toNat) (nxx σ + 4) 2 = some (nxx σ + 1 + 4) := by rw [u2n (by omega)]; exact ua
  have le : Int32.ofInt ((1 + e : Nat) : Int) ≤ 4 := by rw [i_lel (by omega)]; omega
  have od : (1 : Int32) + Int32.ofInt (e : Int) = Int32.ofInt ((1 + e : Nat) : Int) := by rw [i_addr, ee]
  have gp : ¬ (Int32.ofInt p < 0 ∨ 16 ≤ Int32.toNatClampNeg (Int32.ofInt p)) := by rw [i_gd (by omega)]; exact id
  have gr : ¬ (Int32.ofInt r < 0 ∨ 16 ≤ r.toNat) := by rw [i_ltl (by omega)]; omega
  unfold gX11_plant_b56
  rw [if_pos rfl]
  show gX11_plant_b75 (mkA (mkO σ 11 9) 26 2) I R (Int32.ofInt i) 2 x3 x4 (Int32.ofInt p) (Int32.ofInt r) (nxx σ + 4) (nxx σ + 4) 16 0 (nxx σ + 1 + 4) = _
  unfold gX11_plant_b75 gX10_init
  rw [if_pos k2, if_pos k2]
  simp only [ob_some]
  rw [if_pos trivial, tX11_isBinT (by omega), if_neg n10, tX11_isBinT (by omega), if_neg n10, if_pos gp, i_tn (by omega), i_tn (by omega)]
  simp only [u6]
  rw [g1, ob_some, if_neg n10, if_pos gr, g2, ob_some, if_neg n10, d1, ob_some, d2, ob_some, if_pos k2, mx, od]
  rw [u2_self, if_pos le, ua, ob_some, if_pos k3, k4, if_pos z0, if_pos o1, t0]
  rw [ub, ob_some, if_pos k3, k4, if_pos z1, u7, if_pos o2, t1, k_207 k2 (by omega) hi]
  rw [u2n (by omega), u2n (by omega), u2n (by omega), u2n (by omega)]
  rfl
