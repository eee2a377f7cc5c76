/-! ===== doubles: exact values ===== -/
/-- the value of a is (-1)^s c 2^q -/
def Ex (a : UInt64) (s : Bool) (c : Nat) (q : Int) : Prop := -1074 ≤ q ∧ ∃ c' q', FP.Core.val64 a = .fin s c' q' ∧ FP.Core.inUnits c' q' (-1074) = FP.Core.inUnits c q (-1074)
theorem qm : FP.Core.b64.qmin = -1074 := by decide
theorem qx : FP.Core.b64.qmax = 971 := by decide
theorem Ex.nn {a : UInt64} {s : Bool} {c : Nat} {q : Int} (h : Ex a s c q) : a &&& 0x7fffffffffffffff ≤ 0x7ff0000000000000 := by
  obtain ⟨-, c', q', h1, -⟩ := h
  have := (FP.Core.ne_nan a).mp (by rw [h1]; intro z; cases z)
  rw [UInt64.le_iff_toNat_le, UInt64.toNat_and]
  show a.toNat &&& 9223372036854775807 ≤ 9218868437227405312
  rw [show (9223372036854775807 : Nat) = 2 ^ 63 - 1 by decide, Nat.and_two_pow_sub_one_eq_mod]
  exact this
/-- a number is known by its value -/
theorem Ex.uq {a b : UInt64} {s : Bool} {c d : Nat} {q r : Int} (h : Ex a s c q) (h' : Ex b s d r) (e : FP.Core.inUnits c q (-1074) = FP.Core.inUnits d r (-1074)) : a = b := by
  obtain ⟨-, c1, q1, h1, h2⟩ := h
  obtain ⟨-, c2, q2, h3, h4⟩ := h'
  have f1 := FP.Core.val64_fits a
  have f2 := FP.Core.val64_fits b
  have na : FP.Core.val64 a ≠ .nan := by rw [h1]; intro z; cases z
  refine FP.Core.val64_inj na ?_
  have u : FP.Core.inUnits c1 q1 (-1074) = FP.Core.inUnits c2 q2 (-1074) := by rw [h2, h4, e]
  have r1 := FP.Core.round_of_fits FP.Core.good_b64 f1
  have r2 := FP.Core.round_of_fits FP.Core.good_b64 f2
  rw [h1] at f1 r1 ⊢
  rw [h3] at f2 r2 ⊢
  rw [← r1, ← r2]
  show FP.Core.roundRatio FP.Core.b64 s c1 1 q1 = FP.Core.roundRatio FP.Core.b64 s c2 1 q2
  have g1 : -1074 ≤ q1 := by have := f1.2.1; rw [qm] at this; exact this
  have g2 : -1074 ≤ q2 := by have := f2.2.1; rw [qm] at this; exact this
  refine FP.Core.roundRatio_congr (by decide) (by decide) ?_
  unfold FP.Core.inUnits at u
  rw [Nat.mul_one, Nat.mul_one]
  by_cases z : q1 ≤ q2
  · rw [show (q1 - q2).toNat = 0 by omega, Nat.pow_zero, Nat.mul_one]
    have : (q2 - -1074).toNat = (q2 - q1).toNat + (q1 - -1074).toNat := by omega
    rw [this, Nat.pow_add, ← Nat.mul_assoc] at u
    exact Nat.eq_of_mul_eq_mul_right (Nat.two_pow_pos _) u
  · rw [show (q2 - q1).toNat = 0 by omega, Nat.pow_zero, Nat.mul_one]
    have : (q1 - -1074).toNat = (q1 - q2).toNat + (q2 - -1074).toNat := by omega
    rw [this, Nat.pow_add, ← Nat.mul_assoc] at u
    exact Nat.eq_of_mul_eq_mul_right (Nat.two_pow_pos _) u
/-- times a power of two -/
theorem Ex.mul {a b : UInt64} {s : Bool} {c : Nat} {q j : Int} (h : Ex a s c q) (h' : Ex b false 1 j) (hc : c < 2 ^ 53) (h1 : -1074 ≤ q + j) (h2 : q + j ≤ 971) : Ex (FP.dmul a b) s c (q + j) := by
  obtain ⟨g0, c1, q1, e1, u1'⟩ := h
  obtain ⟨g1, c2, q2, e2, u2'⟩ := h'
  have f1 := FP.Core.val64_fits a
  have f2 := FP.Core.val64_fits b
  rw [e1] at f1
  rw [e2] at f2
  have p1 : -1074 ≤ q1 := by have := f1.2.1; rw [qm] at this; exact this
  have p2 : -1074 ≤ q2 := by have := f2.2.1; rw [qm] at this; exact this
  have v : FP.Core.val64 (FP.dmul a b) = FP.Core.round FP.Core.b64 (.fin s c (q + j)) := by
    show FP.Core.val64 (FP.Core.dmul a b) = _
    rw [FP.Core.val64_dmul, e1, e2]
    show FP.Core.roundRatio FP.Core.b64 (s != false) (c1 * c2) 1 (q1 + q2) = FP.Core.roundRatio FP.Core.b64 s c 1 (q + j)
    rw [show (s != false) = s by cases s <;> rfl]
    refine FP.Core.roundRatio_congr (by decide) (by decide) ?_
    rw [Nat.mul_one, Nat.mul_one]
    unfold FP.Core.inUnits at u1' u2'
    rw [Nat.one_mul] at u2'
    have t : c1 * c2 * 2 ^ ((q1 - -1074).toNat + (q2 - -1074).toNat) = c * 2 ^ ((q - -1074).toNat + (j - -1074).toNat) := by
      rw [Nat.pow_add, Nat.pow_add, ← u2', Nat.mul_mul_mul_comm, u1', Nat.mul_assoc]
    by_cases z : q1 + q2 ≤ q + j
    · rw [show (q1 + q2 - (q + j)).toNat = 0 by omega, Nat.pow_zero, Nat.mul_one]
      have : (q - -1074).toNat + (j - -1074).toNat = (q + j - (q1 + q2)).toNat + ((q1 - -1074).toNat + (q2 - -1074).toNat) := by omega
      rw [this] at t
      generalize (q1 - -1074).toNat + (q2 - -1074).toNat = X at t
      rw [Nat.pow_add, ← Nat.mul_assoc] at t
      exact Nat.eq_of_mul_eq_mul_right (Nat.two_pow_pos _) t
    · rw [show (q + j - (q1 + q2)).toNat = 0 by omega, Nat.pow_zero, Nat.mul_one]
      have : (q1 - -1074).toNat + (q2 - -1074).toNat = (q1 + q2 - (q + j)).toNat + ((q - -1074).toNat + (j - -1074).toNat) := by omega
      rw [this] at t
      generalize (q - -1074).toNat + (j - -1074).toNat = X at t
      rw [Nat.pow_add, ← Nat.mul_assoc] at t
      exact Nat.eq_of_mul_eq_mul_right (Nat.two_pow_pos _) t
  obtain ⟨c', q', r1, r2⟩ := FP.Core.round_exact FP.Core.good_b64 s (c := c) (q := q + j) hc (by rw [qm]; exact h1) (by rw [qx]; exact h2)
  rw [qm] at r2
  exact ⟨h1, c', q', by rw [v, r1], r2⟩
