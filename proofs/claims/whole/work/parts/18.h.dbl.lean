/-! ===== doubles: bits and values ===== -/
abbrev Zv (a : UInt64) : Int := FP.Core.zval FP.Core.b64 (FP.Core.val64 a)
theorem Ex.ne {a : UInt64} {s : Bool} {c : Nat} {q : Int} (h : Ex a s c q) : FP.Core.val64 a ≠ .nan := by
  obtain ⟨-, c', q', h1, -⟩ := h
  rw [h1]; intro z; cases z
theorem Ex.fin {a : UInt64} {s : Bool} {c : Nat} {q : Int} (h : Ex a s c q) : FP.Core.DFin a := by
  obtain ⟨-, c', q', h1, -⟩ := h
  exact ⟨s, c', q', h1⟩
theorem Ex.zv {a : UInt64} {s : Bool} {c : Nat} {q : Int} (h : Ex a s c q) : Zv a = FP.Core.signed s (FP.Core.inUnits c q (-1074)) := by
  obtain ⟨-, c', q', h1, h2⟩ := h
  show FP.Core.zval FP.Core.b64 (FP.Core.val64 a) = _
  unfold FP.Core.zval
  rw [h1]
  show FP.Core.signed s (FP.Core.inUnits c' q' FP.Core.b64.qmin) = _
  rw [qm, h2]
theorem Ex.to {a : UInt64} {s : Bool} {c d : Nat} {q r : Int} (h : Ex a s c q) (hr : -1074 ≤ r) (e : FP.Core.inUnits c q (-1074) = FP.Core.inUnits d r (-1074)) : Ex a s d r := by
  obtain ⟨-, c', q', h1, h2⟩ := h
  exact ⟨hr, c', q', h1, h2.trans e⟩
theorem Ex.bits {a : UInt64} {c : Nat} {q : Int} (hq : -1074 ≤ q) (h : a.toNat % 2 ^ 63 < 9218868437227405312) (hu : FP.Core.unitsOf FP.Core.b64 (a.toNat % 2 ^ 63) = FP.Core.inUnits c q (-1074)) : Ex a (decide (2 ^ 63 ≤ a.toNat)) c q := by
  have h' : FP.Core.mag FP.Core.b64 a.toNat < FP.Core.infBits FP.Core.b64 := by rw [FP.Core.mag_toNat64, FP.Core.infBits_b64]; exact h
  obtain ⟨c', q', e1, e2⟩ := FP.Core.decode_fin h'
  rw [qm, FP.Core.mag_toNat64] at e2
  refine ⟨hq, c', q', ?_, e2.trans hu⟩
  show FP.Core.decode FP.Core.b64 a.toNat = _
  rw [e1, FP.Core.fieldS_mag FP.Core.b64 (FP.Core.lt_full64 a), FP.Core.half_b64]
theorem Ex.neg {a : UInt64} {s : Bool} {c : Nat} {q : Int} (h : Ex a s c q) : Ex (FP.dneg a) (!s) c q := by
  obtain ⟨g, c', q', h1, h2⟩ := h
  refine ⟨g, c', q', ?_, h2⟩
  rw [FP.val64_dneg, h1]
  rfl
theorem Ex.l2d {x : Nat} (h : x < 2 ^ 53) : Ex (FP.l2d (Int64.ofInt (x : Int))) false x 0 := by
  obtain ⟨c', q', r1, r2⟩ := FP.Core.round_exact FP.Core.good_b64 false (c := x) (q := 0) h (by rw [qm]; decide) (by rw [qx]; decide)
  rw [qm] at r2
  refine ⟨by decide, c', q', ?_, r2⟩
  show FP.Core.val64 (FP.Core.l2d _) = _
  rw [FP.Core.val64_l2d, tiJ (by omega) (by omega)]
  show FP.Core.round FP.Core.b64 (.fin (decide ((x : Int) < 0)) (x : Int).natAbs 0) = _
  rw [show decide ((x : Int) < 0) = false from decide_eq_false (by omega), Int.natAbs_natCast]
  exact r1
theorem ex_one : Ex FP.dconst1 false 1 0 := ⟨by decide, 2 ^ 52, -52, by decide +kernel, by decide +kernel⟩
theorem ex_two : Ex 4611686018427387904 false 1 1 := ⟨by decide, 2 ^ 52, -51, by decide +kernel, by decide +kernel⟩
theorem ex_half : Ex 4602678819172646912 false 1 (-1) := ⟨by decide, 2 ^ 52, -53, by decide +kernel, by decide +kernel⟩
theorem ex_zero : Ex FP.dconst0 false 0 0 := ⟨by decide, 0, -1074, by decide +kernel, by decide +kernel⟩
theorem nn_of {a : UInt64} (h : FP.Core.val64 a ≠ .nan) : a &&& 0x7fffffffffffffff ≤ 0x7ff0000000000000 := by
  have := (FP.Core.ne_nan a).mp h
  rw [UInt64.le_iff_toNat_le, UInt64.toNat_and]
  show a.toNat &&& 9223372036854775807 ≤ 9218868437227405312
  rw [show (9223372036854775807 : Nat) = 2 ^ 63 - 1 by decide, Nat.and_two_pow_sub_one_eq_mod]
  exact this
theorem nn_to {a : UInt64} (h : a &&& 0x7fffffffffffffff ≤ 0x7ff0000000000000) : FP.Core.val64 a ≠ .nan := by
  rw [FP.Core.ne_nan]
  rw [UInt64.le_iff_toNat_le, UInt64.toNat_and] at h
  have h : a.toNat &&& 9223372036854775807 ≤ 9218868437227405312 := h
  rw [show (9223372036854775807 : Nat) = 2 ^ 63 - 1 by decide, Nat.and_two_pow_sub_one_eq_mod] at h
  exact h
theorem gmul {a b : UInt64} (ha : FP.Core.DFin a) (hb : FP.Core.DFin b) : FP.dmul a b &&& 0x7fffffffffffffff ≤ 0x7ff0000000000000 := nn_of ((FP.Core.notNaN_iff _).mp (FP.Core.dmul_out ha hb))
theorem ioU {c : Nat} {q : Int} {j : Nat} (h : -1074 ≤ q) : FP.Core.inUnits (c * 2 ^ j) q (-1074) = FP.Core.inUnits c (q + j) (-1074) := by
  unfold FP.Core.inUnits
  rw [Nat.mul_assoc, ← Nat.pow_add, show (q + j - -1074).toNat = j + (q - -1074).toNat by omega]
/-! the class's way of scaling -/
theorem h2048 : ∀ r : Fin 2048, (Int32.ofInt ((r.val : Nat) : Int) &&& 1) = Int32.ofInt ((r.val % 2 : Nat) : Int) ∧ (Int32.ofInt ((r.val : Nat) : Int) >>> ((1 : Int32) &&& 31)) = Int32.ofInt ((r.val / 2 : Nat) : Int) := by decide +kernel
theorem pw2 (k : Nat) : (2 : Int) ^ (k + 1) = 2 * 2 ^ k := by rw [Int.pow_succ, Int.mul_comm]
theorem scl {s : Bool} {c : Nat} (hc : c < 2 ^ 53) {g : Int} (hg : g = 1 ∨ g = -1) : ∀ (m k r f : Nat) (x3 x5 : UInt64) (q : Int), k + m = 11 → m < f → r < 2 ^ m → Ex x3 s c q → (0 < r → Ex x5 false 1 (g * 2 ^ k)) → -1074 ≤ q + g * ((r : Int) * 2 ^ k) → q + g * ((r : Int) * 2 ^ k) ≤ 971 → -1074 ≤ g * ((r : Int) * 2 ^ k) → g * ((r : Int) * 2 ^ k) ≤ 971 → q ≤ 971 → ∃ y, fX11_scaled_l32 f x3 x5 (Int32.ofInt (r : Int)) (Int32.ofInt (k : Int)) = some y ∧ Ex y s c (q + g * ((r : Int) * 2 ^ k)) := by
  intro m
  induction m with
  | zero =>
    intro k r f x3 x5 q hk hf hr h3 h5 b1 b2 b3 b4 b5
    obtain ⟨f, rfl⟩ : ∃ f', f = f' + 1 := ⟨f - 1, by omega⟩
    have r0 : r = 0 := by rw [Nat.pow_zero] at hr; omega
    subst r0
    rw [fX11_scaled_l32, if_pos (by rw [i_ler (by omega)]; omega)]
    refine ⟨x3, rfl, ?_⟩
    rw [show q + g * (((0 : Nat) : Int) * 2 ^ k) = q by rw [Int.natCast_zero, Int.zero_mul, Int.mul_zero, Int.add_zero]]
    exact h3
  | succ m ih =>
    intro k r f x3 x5 q hk hf hr h3 h5 b1 b2 b3 b4 b5
    obtain ⟨f, rfl⟩ : ∃ f', f = f' + 1 := ⟨f - 1, by omega⟩
    rw [fX11_scaled_l32, if_neg (by rw [i_ler (by omega)]; omega)]
    have hr2 : r < 2048 := Nat.lt_of_lt_of_le hr (by rw [show 2048 = 2 ^ 11 by decide]; exact Nat.pow_le_pow_right (by decide) (by omega))
    by_cases c0 : r = 0
    · subst c0
      rw [if_pos (by decide)]
      refine ⟨x3, rfl, ?_⟩
      rw [show q + g * (((0 : Nat) : Int) * 2 ^ k) = q by rw [Int.natCast_zero, Int.zero_mul, Int.mul_zero, Int.add_zero]]
      exact h3
    · rw [if_neg (by rw [i_lel (by omega)]; omega)]
      obtain ⟨o1, o2⟩ := h2048 ⟨r, hr2⟩
      have o1 : (Int32.ofInt (r : Int) &&& 1) = Int32.ofInt ((r % 2 : Nat) : Int) := o1
      have o2 : (Int32.ofInt (r : Int) >>> ((1 : Int32) &&& 31)) = Int32.ofInt ((r / 2 : Nat) : Int) := o2
      rw [o1, o2]
      have h5' := h5 (by omega)
      have hP : (1 : Int) ≤ 2 ^ k := by have := Int.pow_pos (n := 2) (m := k) (by decide); omega
      have hr3 : r / 2 < 2 ^ m := by rw [Nat.pow_succ] at hr; omega
      have hk1 : (k : Int) + 1 = ((k + 1 : Nat) : Int) := by omega
      have hT : (0 : Int) ≤ ((r / 2 : Nat) : Int) * 2 ^ k := Int.mul_nonneg (by omega) (by omega)
      have hT1 : 0 < r / 2 → (2 : Int) ^ k ≤ ((r / 2 : Nat) : Int) * 2 ^ k := fun z => by
        have := Int.mul_le_mul_of_nonneg_right (c := (2 : Int) ^ k) (show (1 : Int) ≤ ((r / 2 : Nat) : Int) by omega) (by omega)
        omega
      have eR : (r : Int) * 2 ^ k = 2 * (((r / 2 : Nat) : Int) * 2 ^ k) + ((r % 2 : Nat) : Int) * 2 ^ k := by
        rw [← Int.mul_assoc, ← Int.add_mul]
        congr 1
        omega
      have eN : ((r / 2 : Nat) : Int) * 2 ^ (k + 1) = 2 * (((r / 2 : Nat) : Int) * 2 ^ k) := by rw [pw2, Int.mul_left_comm]
      have gP : g * 2 ^ (k + 1) = g * 2 ^ k + g * 2 ^ k := by rw [pw2, Int.mul_left_comm, Int.two_mul]
      have sq : 0 < r / 2 → Ex (FP.dmul x5 x5) false 1 (g * 2 ^ (k + 1)) := fun z => by
        have w := hT1 z
        rw [gP]
        refine h5'.mul h5' (by decide) ?_ ?_ <;> rcases hg with rfl | rfl <;> rcases (show r % 2 = 0 ∨ r % 2 = 1 by omega) with e | e <;> rw [e] at eR <;> simp only [Int.one_mul, Int.natCast_zero, Int.zero_mul, Int.natCast_one, Int.neg_mul] at * <;> omega
      rw [i_addl, hk1]
      rcases (show r % 2 = 0 ∨ r % 2 = 1 by omega) with e | e
      · rw [e] at eR ⊢
        rw [if_neg (by decide), if_pos (gmul h5'.fin h5'.fin)]
        have eR : (r : Int) * 2 ^ k = ((r / 2 : Nat) : Int) * 2 ^ (k + 1) := by rw [eN, eR]; simp
        rw [eR] at b1 b2 b3 b4 ⊢
        exact ih (k + 1) (r / 2) f x3 (FP.dmul x5 x5) q (by omega) (by omega) hr3 h3 sq b1 b2 b3 b4 b5
      · rw [e] at eR ⊢
        rw [if_pos (by decide), if_pos (gmul h3.fin h5'.fin), if_pos (gmul h5'.fin h5'.fin)]
        have eR : (r : Int) * 2 ^ k = ((r / 2 : Nat) : Int) * 2 ^ (k + 1) + 2 ^ k := by rw [eN, eR]; simp
        have eG : g * ((r : Int) * 2 ^ k) = g * (((r / 2 : Nat) : Int) * 2 ^ (k + 1)) + g * 2 ^ k := by rw [eR, Int.mul_add]
        rw [eG] at b1 b2 b3 b4 ⊢
        have bq := h3.1
        have bm : -1074 ≤ q + g * 2 ^ k ∧ q + g * 2 ^ k ≤ 971 := by
          rcases hg with rfl | rfl <;> simp only [Int.one_mul, Int.neg_mul] at * <;> omega
        have h3' := h3.mul h5' hc bm.1 bm.2
        have := ih (k + 1) (r / 2) f (FP.dmul x3 x5) (FP.dmul x5 x5) (q + g * 2 ^ k) (by omega) (by omega) hr3 h3' sq (by omega) (by omega) (by rcases hg with rfl | rfl <;> simp only [Int.one_mul, Int.neg_mul] at * <;> omega) (by rcases hg with rfl | rfl <;> simp only [Int.one_mul, Int.neg_mul] at * <;> omega) bm.2
        rw [show q + (g * (((r / 2 : Nat) : Int) * 2 ^ (k + 1)) + g * 2 ^ k) = q + g * 2 ^ k + g * (((r / 2 : Nat) : Int) * 2 ^ (k + 1)) by omega]
        exact this
/-- the class's way of scaling is exact -/
theorem sc {x : UInt64} {s : Bool} {c : Nat} {q p : Int} (h : Ex x s c q) (hc : c < 2 ^ 53) (h1 : -1074 ≤ p) (h2 : p ≤ 971) (h3 : -1074 ≤ q + p) (h4 : q + p ≤ 971) (h5 : q ≤ 971) : ∃ y, fX11_scaled x (Int32.ofInt p) = some y ∧ Ex y s c (q + p) := by
  unfold fX11_scaled fX11_scaled_b15
  by_cases z : 0 ≤ p
  · obtain ⟨r, rfl⟩ := Int.eq_ofNat_of_zero_le z
    rw [if_pos (by rw [show (0 : Int32) = Int32.ofInt 0 from rfl, i_le (by omega) (by omega)]; omega), if_pos (by rw [show (0 : Int32) = Int32.ofInt 0 from rfl, i_le (by omega) (by omega)]; omega)]
    have := scl (s := s) hc (Or.inl rfl) 11 0 r FUx x 4611686018427387904 q rfl (by rw [FUx_eq]; decide) (by omega) h (fun _ => by simpa using ex_two) (by simpa using h3) (by simpa using h4) (by simpa using h1) (by simpa using h2) h5
    simpa using this
  · obtain ⟨r, hr⟩ := Int.eq_ofNat_of_zero_le (show 0 ≤ -p by omega)
    rw [if_neg (by rw [show (0 : Int32) = Int32.ofInt 0 from rfl, i_le (by omega) (by omega)]; omega), if_neg (by rw [show (0 : Int32) = Int32.ofInt 0 from rfl, i_le (by omega) (by omega)]; omega)]
    have hp : p = -(r : Int) := by omega
    subst hp
    have := scl (s := s) hc (g := -1) (Or.inr rfl) 11 0 r FUx x 4602678819172646912 q rfl (by rw [FUx_eq]; decide) (by omega) h (fun _ => by simpa using ex_half) (by simpa using h3) (by simpa using h4) (by simpa using h1) (by simpa using h2) h5
    rw [i_neg, show - -(r : Int) = (r : Int) by omega]
    simpa using this
