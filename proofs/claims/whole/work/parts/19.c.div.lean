/-! ===== work: dividing a row ===== -/
theorem rd_eq {X Y X' Y' : Int} (e : X * Y' = X' * Y) (h : Y ≠ 0) (h' : Y' ≠ 0) : rU X Y = rU X' Y' ∧ rL X Y = rL X' Y' := Fr.uq (rdF h) ((rdF h').to e.symm h)
def B31 (x : Int) : Prop := x.natAbs < 2147483648
theorem sm_mul {x y : Int} (hx : B31 x) (hy : B31 y) : Sm (x * y) := by
  unfold B31 at *
  have h : x.natAbs * y.natAbs ≤ 2147483647 * 2147483647 := Nat.mul_le_mul (by omega) (by omega)
  have e := Int.natAbs_mul x y
  unfold Sm
  omega
theorem sm_b {x : Int} (hx : B31 x) : Sm x := by
  unfold B31 at hx
  unfold Sm
  omega
theorem b_dv {x a g : Int} (h : B31 x) (e : x = g * a) (g0 : g ≠ 0) : B31 a := by
  unfold B31 at *
  have := Int.natAbs_mul g a
  rw [← e] at this
  have h1 : 1 ≤ g.natAbs := by omega
  have h2 : 1 * a.natAbs ≤ g.natAbs * a.natAbs := Nat.mul_le_mul_right _ h1
  omega
/-- two and their greatest common divisor -/
theorem gd_ex {x y : Int} (h : x ≠ 0 ∨ y ≠ 0) : ∃ g a b : Int, ((Int.gcd x y : Nat) : Int) = g ∧ 0 < g ∧ x = g * a ∧ y = g * b ∧ x.tdiv g = a ∧ y.tdiv g = b := by
  have hg : 0 < Int.gcd x y := by
    rcases h with h | h
    · exact Int.gcd_pos_of_ne_zero_left y h
    · exact Int.gcd_pos_of_ne_zero_right x h
  obtain ⟨a, ha⟩ := Int.gcd_dvd_left x y
  obtain ⟨b, hb⟩ := Int.gcd_dvd_right x y
  have g0 : ((Int.gcd x y : Nat) : Int) ≠ 0 := by omega
  have t1 := Int.mul_tdiv_cancel a g0
  have t2 := Int.mul_tdiv_cancel b g0
  rw [Int.mul_comm, ← ha] at t1
  rw [Int.mul_comm, ← hb] at t2
  exact ⟨((Int.gcd x y : Nat) : Int), a, b, rfl, by omega, ha, hb, t1, t2⟩
theorem ne_mul {x y : Int} (h : x ≠ 0) (h' : y ≠ 0) : x * y ≠ 0 := fun e => by
  rcases Int.mul_eq_zero.mp e with e | e
  · exact h e
  · exact h' e
/-- an entry written -/
def wC (J : Nat → Nat → Int64) (r c : Nat) (X Y : Int) : Nat → Nat → Int64 := u2 (u2 J (80 + r) c (Int64.ofInt (rU X Y))) (84 + r) c (Int64.ofInt (rL X Y))
def wM (J : Nat → Nat → Int64) (i : Nat) (X Y : Int) : Nat → Nat → Int64 := u2 (u2 J 189 i (Int64.ofInt (rU X Y))) 190 i (Int64.ofInt (rL X Y))
theorem divC_e {σ : Shp} {R : Nat → Nat → Option Nat} {n : Nat} {J : Nat → Nat → Int64} {p c : Nat} {U L o d : Int} (hp : p < 3) (hc : c < 8) (eU : J (80 + p) c = Int64.ofInt U) (eL : J (84 + p) c = Int64.ofInt L) (bU : B31 U) (bL : B31 L) (bo : B31 o) (bd : B31 d) (L0 : L ≠ 0) (o0 : o ≠ 0) : gX2_divideRow_l3 σ R (n + 1) J (Int32.ofInt (p : Int)) (Int64.ofInt o) (Int64.ofInt d) (Int32.ofInt (c : Int)) = gX2_divideRow_l3 σ R n (wC J p c (U * d) (L * o)) (Int32.ofInt (p : Int)) (Int64.ofInt o) (Int64.ofInt d) (Int32.ofInt ((c + 1 : Nat) : Int)) := by
  have g3 : ¬ (Int32.ofInt (p : Int) < 0 ∨ 3 ≤ Int32.toNatClampNeg (Int32.ofInt (p : Int))) := by rw [i_gd (by omega)]; exact id
  have g8 : ¬ (Int32.ofInt (c : Int) < 0 ∨ 8 ≤ Int32.toNatClampNeg (Int32.ofInt (c : Int))) := by rw [i_gd (by omega)]; exact id
  have n3 : Int32.toNatClampNeg (Int32.ofInt (p : Int)) = p := by rw [i_tn (by omega), Int.toNat_natCast]
  have n8 : Int32.toNatClampNeg (Int32.ofInt (c : Int)) = c := by rw [i_tn (by omega), Int.toNat_natCast]
  have e1 : Int32.ofInt (c : Int) + 1 = Int32.ofInt ((c + 1 : Nat) : Int) := by rw [i_addl]; rfl
  rw [gX2_divideRow_l3, if_neg (by rw [i_ler (by omega)]; omega)]
  simp only [if_pos g3, if_pos g8]
  rw [n3, n8, eU, eL, j_mul, j_mul, bfC hp hc (sm_mul bU bd) (sm_mul bL bo) (ne_mul L0 o0), ob_some, e1]
  rfl
theorem divM_e {σ : Shp} {R : Nat → Nat → Option Nat} {n : Nat} {I : Nat → Nat → Int32} {J : Nat → Nat → Int64} {x1 : Int32} {p c : Nat} {U L o d : Int} (hp : p < 3) (hc : c < 8) (ep : I 114 114 = Int32.ofInt (p : Int)) (eU : J 189 (8 * p + c) = Int64.ofInt U) (eL : J 190 (8 * p + c) = Int64.ofInt L) (bU : B31 U) (bL : B31 L) (bo : B31 o) (bd : B31 d) (L0 : L ≠ 0) (o0 : o ≠ 0) : gX12_clear_l34 σ R (n + 1) I J x1 (Int64.ofInt o) (Int64.ofInt d) (Int32.ofInt (c : Int)) = gX12_clear_l34 σ R n I (wM J (8 * p + c) (U * d) (L * o)) x1 (Int64.ofInt o) (Int64.ofInt d) (Int32.ofInt ((c + 1 : Nat) : Int)) := by
  have ei : (8 : Int32) * Int32.ofInt (p : Int) + Int32.ofInt (c : Int) = Int32.ofInt ((8 * p + c : Nat) : Int) := by rw [i_mulr, i_add, Int.natCast_add, Int.natCast_mul]; rfl
  have g3 : ¬ (Int32.ofInt ((8 * p + c : Nat) : Int) < 0 ∨ 24 ≤ Int32.toNatClampNeg (Int32.ofInt ((8 * p + c : Nat) : Int))) := by rw [i_gd (by omega)]; exact id
  have n3 : Int32.toNatClampNeg (Int32.ofInt ((8 * p + c : Nat) : Int)) = 8 * p + c := by rw [i_tn (by omega), Int.toNat_natCast]
  have e1 : Int32.ofInt (c : Int) + 1 = Int32.ofInt ((c + 1 : Nat) : Int) := by rw [i_addl]; rfl
  obtain ⟨g, a, b, eg, g0, ha, hb, ta, tb⟩ := gd_ex (x := U) (y := o) (Or.inr o0)
  obtain ⟨k, e, f, ek, k0, he, hf, te, tf⟩ := gd_ex (x := d) (y := L) (Or.inr L0)
  have sg1 : Sm g := by
    have := Int.gcd_dvd_natAbs_right U o
    have := Nat.le_of_dvd (by omega) this
    unfold B31 at bo
    unfold Sm
    omega
  have sk1 : Sm k := by
    have := Int.gcd_dvd_natAbs_right d L
    have := Nat.le_of_dvd (by omega) this
    unfold B31 at bL
    unfold Sm
    omega
  have ba := b_dv bU ha (by omega)
  have bb := b_dv bo hb (by omega)
  have be := b_dv bd he (by omega)
  have bf := b_dv bL hf (by omega)
  have b0 : b ≠ 0 := fun q => o0 (by rw [hb, q, Int.mul_zero])
  have f0 : f ≠ 0 := fun q => L0 (by rw [hf, q, Int.mul_zero])
  have zg : ¬ Int64.ofInt g = 0 := by unfold Sm at sg1; rw [j_eql (by omega)]; omega
  have zk : ¬ Int64.ofInt k = 0 := by unfold Sm at sk1; rw [j_eql (by omega)]; omega
  have re : rU (a * e) (f * b) = rU (U * d) (L * o) ∧ rL (a * e) (f * b) = rL (U * d) (L * o) := rd_eq (by rw [ha, hb, he, hf]; ac_rfl) (ne_mul f0 b0) (ne_mul L0 o0)
  rw [gX12_clear_l34, if_neg (by rw [i_ler (by omega)]; omega), ep, ei, if_pos g3, n3, eU, gdM (sm_b bU) (sm_b bo), ob_some, eg]
  have g3' : ¬ (Int32.ofInt ((8 * p + c : Nat) : Int) < 0 ∨ 24 ≤ 8 * p + c) := by rw [n3] at g3; exact g3
  rw [if_pos g3', eL, gdM (sm_b bd) (sm_b bL), ob_some, ek, if_pos zg, if_pos zk, (jdw (sm_b bU) sg1).1, (jdw (sm_b bd) sk1).1, (jdw (sm_b bL) sk1).1, (jdw (sm_b bo) sg1).1, ta, tb, te, tf, j_mul, j_mul, frWM (by omega) (sm_mul ba be) (sm_mul bf bb) (ne_mul f0 b0), ob_some, e1, re.1, re.2]
  rfl
