/-! ===== work: taking a row from a row ===== -/
theorem mb {x y : Int} {A B : Nat} (hx : x.natAbs ≤ A) (hy : y.natAbs ≤ B) : (x * y).natAbs ≤ A * B := by
  rw [Int.natAbs_mul]
  exact Nat.mul_le_mul hx hy
theorem dv_b {x a g : Int} {A : Nat} (h : x.natAbs ≤ A) (e : x = g * a) (g0 : g ≠ 0) : a.natAbs ≤ A := by
  have := Int.natAbs_mul g a
  rw [← e] at this
  have h1 : 1 ≤ g.natAbs := by omega
  have h2 : 1 * a.natAbs ≤ g.natAbs * a.natAbs := Nat.mul_le_mul_right _ h1
  omega
/-- small enough to be taken -/
def Tk (U L o d Up Lp : Int) : Prop := U.natAbs ≤ 200000 ∧ (0 < L ∧ L ≤ 20000) ∧ o.natAbs ≤ 20000 ∧ (0 < d ∧ d ≤ 20000) ∧ Up.natAbs ≤ 60000000 ∧ (0 < Lp ∧ Lp ≤ 6000000)
theorem takC_e {σ : Shp} {R : Nat → Nat → Option Nat} {n : Nat} {J : Nat → Nat → Int64} {r p c : Nat} {U L o d Up Lp : Int} (hr : r < 3) (hp : p < 3) (hc : c < 8) (eU : J (80 + r) c = Int64.ofInt U) (eL : J (84 + r) c = Int64.ofInt L) (eUp : J (80 + p) c = Int64.ofInt Up) (eLp : J (84 + p) c = Int64.ofInt Lp) (tk : Tk U L o d Up Lp) : gX2_takeRow_l3 σ R (n + 1) J (Int32.ofInt (r : Int)) (Int32.ofInt (p : Int)) (Int64.ofInt o) (Int64.ofInt d) (Int32.ofInt (c : Int)) = gX2_takeRow_l3 σ R n (wC J r c (U * (Lp * d) - Up * o * L) (L * (Lp * d))) (Int32.ofInt (r : Int)) (Int32.ofInt (p : Int)) (Int64.ofInt o) (Int64.ofInt d) (Int32.ofInt ((c + 1 : Nat) : Int)) := by
  obtain ⟨bU, bL, bo, bd, bUp, bLp⟩ := tk
  have gr : ¬ (Int32.ofInt (r : Int) < 0 ∨ 3 ≤ Int32.toNatClampNeg (Int32.ofInt (r : Int))) := by rw [i_gd (by omega)]; exact id
  have gp : ¬ (Int32.ofInt (p : Int) < 0 ∨ 3 ≤ Int32.toNatClampNeg (Int32.ofInt (p : Int))) := by rw [i_gd (by omega)]; exact id
  have g8 : ¬ (Int32.ofInt (c : Int) < 0 ∨ 8 ≤ Int32.toNatClampNeg (Int32.ofInt (c : Int))) := by rw [i_gd (by omega)]; exact id
  have nr : Int32.toNatClampNeg (Int32.ofInt (r : Int)) = r := by rw [i_tn (by omega), Int.toNat_natCast]
  have np : Int32.toNatClampNeg (Int32.ofInt (p : Int)) = p := by rw [i_tn (by omega), Int.toNat_natCast]
  have n8 : Int32.toNatClampNeg (Int32.ofInt (c : Int)) = c := by rw [i_tn (by omega), Int.toNat_natCast]
  have e1 : Int32.ofInt (c : Int) + 1 = Int32.ofInt ((c + 1 : Nat) : Int) := by rw [i_addl]; rfl
  have m1 := mb (y := o) bUp bo
  have m2 := mb (x := Lp) (y := d) (A := 6000000) (B := 20000) (by omega) (by omega)
  have v60 : Lp * d ≠ 0 := ne_mul (by omega) (by omega)
  have s1 : Sm (Up * o) := by unfold Sm; omega
  have s2 : Sm (Lp * d) := by unfold Sm; omega
  obtain ⟨g, a, b, eg, g0, ha, hb, ta, tb⟩ := gd_ex (x := Up * o) (y := Lp * d) (Or.inr v60)
  have ba := dv_b m1 ha (by omega)
  have bb := dv_b m2 hb (by omega)
  have gb : Int.gcd (Up * o) (Lp * d) ≤ (Lp * d).natAbs := Nat.le_of_dvd (by omega) (Int.gcd_dvd_natAbs_right _ _)
  have sg1 : Sm g := by unfold Sm; omega
  have b0 : b ≠ 0 := fun q => v60 (by rw [hb, q, Int.mul_zero])
  -- what follows, with any quotient
  have fol : ∀ x y : Int, x.natAbs ≤ 60000000 * 20000 → y.natAbs ≤ 6000000 * 20000 → y ≠ 0 → x * (Lp * d) = Up * o * y → gX2_takeRow_b67 (gX2_takeRow_l3 σ R n) σ R J (Int32.ofInt (r : Int)) (Int32.ofInt (p : Int)) (Int64.ofInt o) (Int64.ofInt d) (Int32.ofInt (c : Int)) (Int64.ofInt x) (Int64.ofInt y) = gX2_takeRow_l3 σ R n (wC J r c (U * (Lp * d) - Up * o * L) (L * (Lp * d))) (Int32.ofInt (r : Int)) (Int32.ofInt (p : Int)) (Int64.ofInt o) (Int64.ofInt d) (Int32.ofInt ((c + 1 : Nat) : Int)) := by
    intro x y hx hy y0 hxy
    have q1 := mb bU hy
    have q2 := mb (x := x) (y := L) (A := 60000000 * 20000) (B := 20000) hx (by omega)
    have q3 := mb (x := L) (y := y) (A := 20000) (B := 6000000 * 20000) (by omega) hy
    have ly := ne_mul (x := L) (y := y) (by omega) y0
    have ld := ne_mul (x := L) (y := Lp * d) (by omega) v60
    have re : rU (U * y - x * L) (L * y) = rU (U * (Lp * d) - Up * o * L) (L * (Lp * d)) ∧ rL (U * y - x * L) (L * y) = rL (U * (Lp * d) - Up * o * L) (L * (Lp * d)) := by
      refine rd_eq ?_ ly ld
      rw [Int.sub_mul, Int.sub_mul]
      have k1 : U * y * (L * (Lp * d)) = U * (Lp * d) * (L * y) := by ac_rfl
      have k2 : x * L * (L * (Lp * d)) = Up * o * L * (L * y) := by
        calc x * L * (L * (Lp * d)) = (x * (Lp * d)) * (L * L) := by ac_rfl
          _ = (Up * o * y) * (L * L) := by rw [hxy]
          _ = Up * o * L * (L * y) := by ac_rfl
      rw [k1, k2]
    unfold gX2_takeRow_b67
    simp only [if_pos gr, if_pos g8]
    rw [nr, n8, eU, eL, j_mul, j_mul, j_sub, j_mul, bfC hr hc (by unfold Sm; omega) (by unfold Sm; omega) ly, ob_some, e1, re.1, re.2]
    rfl
  rw [gX2_takeRow_l3, if_neg (by rw [i_ler (by omega)]; omega)]
  simp only [if_pos gp, if_pos g8]
  rw [np, n8, eUp, eLp, j_mul, j_mul, gdC s1 s2, ob_some, eg]
  unfold Sm at sg1
  by_cases c1 : g ≤ 1
  · rw [if_pos (by rw [j_lel (by omega)]; exact c1)]
    exact fol _ _ m1 m2 v60 (by ac_rfl)
  · rw [if_neg (by rw [j_lel (by omega)]; exact c1), if_pos (by rw [j_eql (by omega)]; omega), (jdw s1 sg1).1, (jdw s2 sg1).1, ta, tb]
    exact fol _ _ ba bb b0 (by
      calc a * (Lp * d) = a * (g * b) := by rw [← hb]
        _ = g * a * b := by ac_rfl
        _ = Up * o * b := by rw [← ha])
