/-! ===== minute: the air's change ===== -/
theorem airC {σ : Shp} {R : Nat → Nat → Option Nat} {I I2 : Nat → Nat → Int32} {J : Nat → Nat → Int64} {h : Nat} {p4 p8 p14 p17 z nn y : Int64} (hS : Skel σ R) (hh : h < 3) (e4 : Int32.toInt64 (I 61 0 / 8) + 5 * J (58 + h) 4 = p4) (e8 : (J (58 + h) 0 - Int32.toInt64 (I 61 1)) * (2 + J (58 + h) 3) / 200 = p8) (e14 : Int32.toInt64 (12 + I 61 0 / 50) = p14) (e17 : (J (58 + h) 1 - Int32.toInt64 (I 61 2)) * J (58 + h) 3 / 80 = p17) (ez : J (58 + h) 1 + p14 - p17 = z) (en : (if 0 ≤ z then z else 0) = nn) (hv : gX4_mostVapour σ I R (J (58 + h) 0 + (p4 - p8)) = some (I2, y)) : ∃ J2, gX4_changeAir σ I J R (Int32.ofInt (h : Int)) = some (I2, J2) ∧ J2 (58 + h) 0 = J (58 + h) 0 + (p4 - p8) ∧ J2 (58 + h) 1 = fXM_minJ nn y ∧ J2 (58 + h) 2 = J (58 + h) 2 + fXM_maxJ 0 (nn - y) ∧ J2 (58 + h) 3 = J (58 + h) 3 ∧ J2 (58 + h) 4 = J (58 + h) 4 ∧ J2 (58 + h) 5 = J (58 + h) 5 ∧ J2 (58 + h) 6 = J (58 + h) 6 + p4 ∧ J2 (58 + h) 7 = J (58 + h) 7 + p8 ∧ J2 (58 + h) 8 = J (58 + h) 8 + p14 ∧ J2 (58 + h) 9 = J (58 + h) 9 + p17 ∧ J2 (58 + h) 10 = (if 0 ≤ z then J (58 + h) 10 else J (58 + h) 10 - z) ∧ (∀ a k, a ≠ 58 + h → J2 a k = J a k) := by
  obtain ⟨k1, k2⟩ := k58 hS hh
  have gh : ¬ (Int32.ofInt (h : Int) < 0 ∨ 3 ≤ Int32.toNatClampNeg (Int32.ofInt (h : Int))) := by rw [i_gd (by omega)]; exact id
  have gn : Int32.toNatClampNeg (Int32.ofInt (h : Int)) = h := by rw [i_tn (by omega), Int.toNat_natCast]
  have n0 : Int32.toNatClampNeg (0 : Int32) = 0 := rfl
  have n1 : Int32.toNatClampNeg (1 : Int32) = 1 := rfl
  have n2 : Int32.toNatClampNeg (2 : Int32) = 2 := rfl
  have n3 : Int32.toNatClampNeg (3 : Int32) = 3 := rfl
  have n4 : Int32.toNatClampNeg (4 : Int32) = 4 := rfl
  have n6 : Int32.toNatClampNeg (6 : Int32) = 6 := rfl
  have n7 : Int32.toNatClampNeg (7 : Int32) = 7 := rfl
  have n8 : Int32.toNatClampNeg (8 : Int32) = 8 := rfl
  have n9 : Int32.toNatClampNeg (9 : Int32) = 9 := rfl
  have n10' : Int32.toNatClampNeg (10 : Int32) = 10 := rfl
  have z0 : ¬ (0 : Int32) < 0 := by decide
  have z1 : ¬ (1 : Int32) < 0 := by decide
  have z2 : ¬ (2 : Int32) < 0 := by decide
  have z3 : ¬ (3 : Int32) < 0 := by decide
  have z4 : ¬ (4 : Int32) < 0 := by decide
  have z6 : ¬ (6 : Int32) < 0 := by decide
  have z7 : ¬ (7 : Int32) < 0 := by decide
  have z8 : ¬ (8 : Int32) < 0 := by decide
  have z9 : ¬ (9 : Int32) < 0 := by decide
  have z10 : ¬ (10 : Int32) < 0 := by decide
  have b162 : ∀ (J5 : Nat → Nat → Int64) (m : Int64), J5 (58 + h) 0 = J (58 + h) 0 + (p4 - p8) → gX4_changeAir_b162 σ R I J5 (some (58 + h)) m = some (I2, u2 (u2 J5 (58 + h) 2 (J5 (58 + h) 2 + fXM_maxJ 0 (m - y))) (58 + h) 1 (fXM_minJ m y)) := by
    intro J5 m q
    unfold gX4_changeAir_b162
    rw [ob_some]
    simp only [k1, k2, n0, n1, n2, z0, z1, z2, false_or, if_true, if_false, Nat.reduceLeDiff, not_false_eq_true, q, hv, ob_some]
  have hd : ∀ J5, J5 = u2 (u2 (u2 (u2 (u2 J (58 + h) 0 (J (58 + h) 0 + (p4 - p8))) (58 + h) 6 (J (58 + h) 6 + p4)) (58 + h) 7 (J (58 + h) 7 + p8)) (58 + h) 8 (J (58 + h) 8 + p14)) (58 + h) 9 (J (58 + h) 9 + p17) → gX4_changeAir σ I J R (Int32.ofInt (h : Int)) = if 0 ≤ z then gX4_changeAir_b162 σ R I J5 (some (58 + h)) z else gX4_changeAir_b162 σ R I (u2 J5 (58 + h) 10 (J5 (58 + h) 10 - z)) (some (58 + h)) 0 := by
    intro J5 q
    subst q
    unfold gX4_changeAir
    simp only [if_pos gh]
    simp (disch := omega) only [gn, n0, n1, n2, n3, n4, n6, n7, n8, n9, n10', z0, z1, z2, z3, z4, z6, z7, z8, z9, z10, false_or, if_true, if_false, Nat.reduceLeDiff, not_false_eq_true, e4, e8, e14, u2n, e17, ez]
  generalize hJ5 : u2 (u2 (u2 (u2 (u2 J (58 + h) 0 (J (58 + h) 0 + (p4 - p8))) (58 + h) 6 (J (58 + h) 6 + p4)) (58 + h) 7 (J (58 + h) 7 + p8)) (58 + h) 8 (J (58 + h) 8 + p14)) (58 + h) 9 (J (58 + h) 9 + p17) = J5 at hd
  rw [hd J5 rfl]
  by_cases c : 0 ≤ z
  · rw [if_pos c] at en
    subst en
    rw [if_pos c, if_pos c, b162 J5 z (by rw [← hJ5]; simp (disch := omega) only [u2n, u2s])]
    refine ⟨_, rfl, ?_, ?_, ?_, ?_, ?_, ?_, ?_, ?_, ?_, ?_, ?_, fun a k q => ?_⟩ <;> rw [← hJ5] <;> simp (disch := omega) only [u2n, u2s]
  · rw [if_neg c] at en
    subst en
    rw [if_neg c, if_neg c, b162 (u2 J5 (58 + h) 10 (J5 (58 + h) 10 - z)) 0 (by rw [← hJ5]; simp (disch := omega) only [u2n, u2s])]
    refine ⟨_, rfl, ?_, ?_, ?_, ?_, ?_, ?_, ?_, ?_, ?_, ?_, ?_, fun a k q => ?_⟩ <;> rw [← hJ5] <;> simp (disch := omega) only [u2n, u2s]
theorem airM {σ : Shp} {R : Nat → Nat → Option Nat} {I I2 : Nat → Nat → Int32} {J : Nat → Nat → Int64} {h : Nat} {p4 p8 p14 p17 z nn e y : Int64} (hh : h < 3) (e4 : Int32.toInt64 (I 174 0 / 8 + 5 * I 178 h) = p4) (e8 : (J 175 h - Int32.toInt64 (I 174 1)) * Int32.toInt64 (2 + I 177 h) / 200 = p8) (e14 : Int32.toInt64 (12 + I 174 0 / 50) = p14) (e17 : (J 176 h - Int32.toInt64 (I 174 2)) * Int32.toInt64 (I 177 h) / 80 = p17) (ez : J 176 h + (p14 - p17) = z) (en : z + (if 0 ≤ z then 0 else -z) = nn) (ee : (if nn ≤ y then 0 else nn - y) = e) (hv : ∀ J5 x2 x4 x6 x8 s0, J5 175 h = J 175 h + (p4 - p8) → gX12_breathe_b142 σ R I J5 (Int32.ofInt (h : Int)) x2 x4 x6 x8 s0 = gX12_breathe_b202 σ R I2 (u2 J5 176 h (J5 176 h + s0)) (Int32.ofInt (h : Int)) x2 x4 x6 x8 s0 y) : ∃ J2, gX12_breathe σ I J R (Int32.ofInt (h : Int)) = some (I2, J2) ∧ J2 175 h = J 175 h + (p4 - p8) ∧ J2 176 h = nn - e ∧ J2 180 (6 * h) = J 180 (6 * h) + e ∧ J2 180 (6 * h + 1) = J 180 (6 * h + 1) + p4 ∧ J2 180 (6 * h + 2) = J 180 (6 * h + 2) + p8 ∧ J2 180 (6 * h + 3) = J 180 (6 * h + 3) + p14 ∧ J2 180 (6 * h + 4) = J 180 (6 * h + 4) + p17 ∧ J2 180 (6 * h + 5) = J 180 (6 * h + 5) + (if 0 ≤ z then 0 else -z) ∧ (∀ a k, ¬ ((a = 175 ∨ a = 176) ∧ k = h) → ¬ (a = 180 ∧ 6 * h ≤ k ∧ k ≤ 6 * h + 5) → J2 a k = J a k) := by
  have gh : ¬ (Int32.ofInt (h : Int) < 0 ∨ 3 ≤ Int32.toNatClampNeg (Int32.ofInt (h : Int))) := by rw [i_gd (by omega)]; exact id
  have gn : Int32.toNatClampNeg (Int32.ofInt (h : Int)) = h := by rw [i_tn (by omega), Int.toNat_natCast]
  have n0 : Int32.toNatClampNeg (0 : Int32) = 0 := rfl
  have n1 : Int32.toNatClampNeg (1 : Int32) = 1 := rfl
  have n2 : Int32.toNatClampNeg (2 : Int32) = 2 := rfl
  have z0 : ¬ (0 : Int32) < 0 := by decide
  have z1 : ¬ (1 : Int32) < 0 := by decide
  have z2 : ¬ (2 : Int32) < 0 := by decide
  have m6 : (6 : Int32) * Int32.ofInt (h : Int) = Int32.ofInt ((6 * h : Nat) : Int) := by rw [i_mulr]; rfl
  have ad : ∀ k : Nat, ((6 * h : Nat) : Int) + (k : Int) = ((6 * h + k : Nat) : Int) := fun k => by omega
  have b229 : ∀ (J5 : Nat → Nat → Int64) (x2 x4 x6 x8 x10 s : Int64), gX12_breathe_b229 σ R I2 J5 (Int32.ofInt (h : Int)) x2 x4 x6 x8 x10 s = some (I2, u2 (u2 (u2 (u2 (u2 (u2 (u2 J5 176 h (J5 176 h - s)) 180 (6 * h) (J5 180 (6 * h) + s)) 180 (6 * h + 1) (J5 180 (6 * h + 1) + x2)) 180 (6 * h + 2) (J5 180 (6 * h + 2) + x4)) 180 (6 * h + 3) (J5 180 (6 * h + 3) + x6)) 180 (6 * h + 4) (J5 180 (6 * h + 4) + x8)) 180 (6 * h + 5) (J5 180 (6 * h + 5) + x10)) := by
    intro J5 x2 x4 x6 x8 x10 s
    have q : ∀ k : Nat, k < 6 → ¬ (Int32.ofInt ((6 * h + k : Nat) : Int) < 0 ∨ 18 ≤ Int32.toNatClampNeg (Int32.ofInt ((6 * h + k : Nat) : Int))) := fun k hk => by rw [i_gd (by omega)]; exact id
    have t : ∀ k : Nat, k < 6 → Int32.toNatClampNeg (Int32.ofInt ((6 * h + k : Nat) : Int)) = 6 * h + k := fun k hk => by rw [i_tn (by omega), Int.toNat_natCast]
    have a1 : Int32.ofInt ((6 * h : Nat) : Int) + 1 = Int32.ofInt ((6 * h + 1 : Nat) : Int) := by rw [i_addl]; rfl
    have a2 : Int32.ofInt ((6 * h : Nat) : Int) + 2 = Int32.ofInt ((6 * h + 2 : Nat) : Int) := by rw [i_addl]; rfl
    have a3 : Int32.ofInt ((6 * h : Nat) : Int) + 3 = Int32.ofInt ((6 * h + 3 : Nat) : Int) := by rw [i_addl]; rfl
    have a4 : Int32.ofInt ((6 * h : Nat) : Int) + 4 = Int32.ofInt ((6 * h + 4 : Nat) : Int) := by rw [i_addl]; rfl
    have a5 : Int32.ofInt ((6 * h : Nat) : Int) + 5 = Int32.ofInt ((6 * h + 5 : Nat) : Int) := by rw [i_addl]; rfl
    have q0 := q 0 (by decide)
    have t0 := t 0 (by decide)
    rw [Nat.add_zero] at q0 t0
    unfold gX12_breathe_b229
    rw [m6, a1, a2, a3, a4, a5]
    simp only [if_pos gh, if_pos q0, if_pos (q 1 (by decide)), if_pos (q 2 (by decide)), if_pos (q 3 (by decide)), if_pos (q 4 (by decide)), if_pos (q 5 (by decide))]
    simp (disch := omega) only [t0, t 1 (by decide), t 2 (by decide), t 3 (by decide), t 4 (by decide), t 5 (by decide), gn, u2n]
  have b202 : ∀ (J5 : Nat → Nat → Int64) (x2 x4 x6 x8 x10 : Int64), J5 176 h = nn → gX12_breathe_b202 σ R I2 J5 (Int32.ofInt (h : Int)) x2 x4 x6 x8 x10 y = gX12_breathe_b229 σ R I2 J5 (Int32.ofInt (h : Int)) x2 x4 x6 x8 x10 e := by
    intro J5 x2 x4 x6 x8 x10 q
    unfold gX12_breathe_b202
    rw [if_pos gh, gn, q]
    by_cases c : nn ≤ y
    · rw [if_pos c] at ee
      rw [if_pos c, ee]
    · rw [if_neg c] at ee
      rw [if_neg c, ee]
  have hd : gX12_breathe σ I J R (Int32.ofInt (h : Int)) = gX12_breathe_b142 σ R I (u2 (u2 J 175 h (J 175 h + (p4 - p8))) 176 h z) (Int32.ofInt (h : Int)) p4 p8 p14 p17 (if 0 ≤ z then 0 else -z) := by
    unfold gX12_breathe
    simp only [if_pos gh]
    simp (disch := omega) only [gn, n0, n1, n2, z0, z1, z2, false_or, if_true, if_false, Nat.reduceLeDiff, not_false_eq_true, e4, e8, e14, u2n, e17, ez, u2_self]
    by_cases c : 0 ≤ z
    · rw [if_pos c, if_pos c]
    · rw [if_neg c, if_neg c]
  rw [hd, hv _ _ _ _ _ _ (by simp (disch := omega) only [u2n, u2s]), b202 _ _ _ _ _ _ (by simp (disch := omega) only [u2n, u2s]; exact en), b229]
  generalize (if 0 ≤ z then 0 else -z) = s at en ⊢
  refine ⟨_, rfl, ?_, ?_, ?_, ?_, ?_, ?_, ?_, ?_, fun a k q1 q2 => ?_⟩
  · simp (disch := omega) only [u2n, u2s]
  · simp (disch := omega) only [u2n, u2s]; rw [en]
  · simp (disch := omega) only [u2n, u2s]
  · simp (disch := omega) only [u2n, u2s]
  · simp (disch := omega) only [u2n, u2s]
  · simp (disch := omega) only [u2n, u2s]
  · simp (disch := omega) only [u2n, u2s]
  · simp (disch := omega) only [u2n, u2s]
  · simp (disch := omega) only [u2n, u2s]
