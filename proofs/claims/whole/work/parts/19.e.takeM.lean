/-! ===== work: taking a row from a row, the model ===== -/
theorem gs_b {x y : Int} (hy : Sm y) (h0 : y ≠ 0) : Sm ((Int.gcd x y : Nat) : Int) := by
  have := Nat.le_of_dvd (by omega) (Int.gcd_dvd_natAbs_right x y)
  unfold Sm at *
  omega
theorem lesM {σ : Shp} {R : Nat → Nat → Option Nat} {J : Nat → Nat → Int64} {i q : Nat} {U L o d Up Lp : Int} (hi : i < 24) (hq : q < 24) (eU : J 189 i = Int64.ofInt U) (eL : J 190 i = Int64.ofInt L) (eUp : J 189 q = Int64.ofInt Up) (eLp : J 190 q = Int64.ofInt Lp) (tk : Tk U L o d Up Lp) : gX12_less σ J R (Int32.ofInt (i : Int)) (Int64.ofInt o) (Int64.ofInt d) (Int32.ofInt (q : Int)) = some (wM J i (U * (Lp * d) - Up * o * L) (L * (Lp * d))) := by
  obtain ⟨bU, bL, bo, bd, bUp, bLp⟩ := tk
  have gi : ¬ (Int32.ofInt (i : Int) < 0 ∨ 24 ≤ Int32.toNatClampNeg (Int32.ofInt (i : Int))) := by rw [i_gd (by omega)]; exact id
  have gq : ¬ (Int32.ofInt (q : Int) < 0 ∨ 24 ≤ Int32.toNatClampNeg (Int32.ofInt (q : Int))) := by rw [i_gd (by omega)]; exact id
  have ni : Int32.toNatClampNeg (Int32.ofInt (i : Int)) = i := by rw [i_tn (by omega), Int.toNat_natCast]
  have nq : Int32.toNatClampNeg (Int32.ofInt (q : Int)) = q := by rw [i_tn (by omega), Int.toNat_natCast]
  have d0 : d ≠ 0 := by omega
  have L0 : L ≠ 0 := by omega
  have Lp0 : Lp ≠ 0 := by omega
  have so : Sm o := by unfold Sm; omega
  have sd : Sm d := by unfold Sm; omega
  have sL : Sm L := by unfold Sm; omega
  have sUp : Sm Up := by unfold Sm; omega
  have sLp : Sm Lp := by unfold Sm; omega
  obtain ⟨g, o', q', eg, g0, ho, hq', to, tq⟩ := gd_ex (x := o) (y := Lp) (Or.inr Lp0)
  obtain ⟨k, w, e, ek, k0, hw, he, tw', te⟩ := gd_ex (x := Up) (y := d) (Or.inr d0)
  have sgg : Sm g := by rw [← eg]; exact gs_b sLp Lp0
  have skk : Sm k := by rw [← ek]; exact gs_b sd d0
  have q0 : q' ≠ 0 := fun z => Lp0 (by rw [hq', z, Int.mul_zero])
  have e0 : e ≠ 0 := fun z => d0 (by rw [he, z, Int.mul_zero])
  have bo' := dv_b bo ho (by omega)
  have bq' := dv_b (A := 6000000) (by omega) hq' (by omega)
  have bw := dv_b bUp hw (by omega)
  have be := dv_b (A := 20000) (by omega) he (by omega)
  have m10 := mb bo' bw
  have m12 := mb be bq'
  have v12 : e * q' ≠ 0 := ne_mul e0 q0
  have s12 : Sm (e * q') := by unfold Sm; omega
  obtain ⟨t, h, f, et, t0, hh, hf, th, tf⟩ := gd_ex (x := L) (y := e * q') (Or.inr v12)
  have stt : Sm t := by rw [← et]; exact gs_b s12 v12
  have h0 : h ≠ 0 := fun z => L0 (by rw [hh, z, Int.mul_zero])
  have f0 : f ≠ 0 := fun z => v12 (by rw [hf, z, Int.mul_zero])
  have bh := dv_b (A := 20000) (by omega) hh (by omega)
  have bf := dv_b m12 hf (by omega)
  have p1 := mb bU bf
  have p2 := mb m10 bh
  have p3 := mb bh m12
  have zg : ¬ Int64.ofInt g = 0 := by unfold Sm at sgg; rw [j_eql (by omega)]; omega
  have zk : ¬ Int64.ofInt k = 0 := by unfold Sm at skk; rw [j_eql (by omega)]; omega
  have zt : ¬ Int64.ofInt t = 0 := by unfold Sm at stt; rw [j_eql (by omega)]; omega
  have hv : h * (e * q') ≠ 0 := ne_mul h0 v12
  have re : rU (U * f - o' * w * h) (h * (e * q')) = rU (U * (Lp * d) - Up * o * L) (L * (Lp * d)) ∧ rL (U * f - o' * w * h) (h * (e * q')) = rL (U * (Lp * d) - Up * o * L) (L * (Lp * d)) := by
    refine rd_eq ?_ hv (ne_mul L0 (ne_mul Lp0 d0))
    have x1 : Lp * d = g * k * (e * q') := by
      calc Lp * d = (g * q') * (k * e) := by rw [← hq', ← he]
        _ = g * k * (e * q') := by ac_rfl
    have x2 : Up * o = g * k * (o' * w) := by
      calc Up * o = (k * w) * (g * o') := by rw [← hw, ← ho]
        _ = g * k * (o' * w) := by ac_rfl
    rw [x1, x2, Int.sub_mul, Int.sub_mul]
    have k1 : U * f * (L * (g * k * (e * q'))) = U * (g * k * (e * q')) * (h * (e * q')) := by
      calc U * f * (L * (g * k * (e * q'))) = U * f * ((t * h) * (g * k * (e * q'))) := by rw [← hh]
        _ = U * (g * k * (t * f)) * (h * (e * q')) := by ac_rfl
        _ = U * (g * k * (e * q')) * (h * (e * q')) := by rw [← hf]
    have k2 : o' * w * h * (L * (g * k * (e * q'))) = g * k * (o' * w) * L * (h * (e * q')) := by ac_rfl
    rw [k1, k2]
  have b55 : gX12_less_b55 σ R J (Int32.ofInt (i : Int)) (Int64.ofInt o) (Int64.ofInt d) (Int32.ofInt (q : Int)) (Int64.ofInt g) (Int64.ofInt k) = some (wM J i (U * (Lp * d) - Up * o * L) (L * (Lp * d))) := by
    unfold gX12_less_b55
    simp only [if_pos gi, if_pos gq, if_pos zg, if_pos zk]
    rw [ni, nq, eUp, eLp, eU, eL, (jdw so sgg).1, (jdw sUp skk).1, (jdw sd skk).1, (jdw sLp sgg).1, to, tq, tw', te, j_mul, j_mul, gdM sL s12, ob_some, et, if_pos zt, (jdw s12 stt).1, (jdw sL stt).1, th, tf, j_mul, j_mul, j_sub, j_mul, frWM hi (by unfold Sm; omega) (by unfold Sm; omega) hv, ob_some, re.1, re.2]
    rfl
  unfold gX12_less
  simp only [if_pos gq]
  rw [nq, eLp, gdM so sLp, ob_some, eg, eUp, gdM sUp sd, ob_some, ek, if_neg zg, if_neg zk]
  exact b55
