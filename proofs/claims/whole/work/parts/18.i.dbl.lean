/-! ===== doubles: the model's powers, and reals made of bits ===== -/
theorem pwl {c : Nat} (hc : c < 2 ^ 53) {g : Int} (hg : g = 1 ∨ g = -1) {x3 : UInt64} (h3 : Ex x3 false 1 g) {n : Nat} (hn : n ≤ 2000) : ∀ (m f k : Nat) (x1 : UInt64) (q : Int), k + m = n → m < f → Ex x1 false c q → q ≤ 971 → -1074 ≤ q + g * (m : Int) → q + g * (m : Int) ≤ 971 → ∃ y, fX12_powerOf_l31 f x1 x3 (Int32.ofInt (n : Int)) (Int32.ofInt (k : Int)) = some y ∧ Ex y false c (q + g * (m : Int)) := by
  intro m
  induction m with
  | zero =>
    intro f k x1 q hk hf h1 b1 b2 b3
    obtain ⟨f, rfl⟩ : ∃ f', f = f' + 1 := ⟨f - 1, by omega⟩
    rw [fX12_powerOf_l31, if_pos (by rw [i_le (by omega) (by omega)]; omega)]
    exact ⟨x1, rfl, by simpa using h1⟩
  | succ m ih =>
    intro f k x1 q hk hf h1 b1 b2 b3
    obtain ⟨f, rfl⟩ : ∃ f', f = f' + 1 := ⟨f - 1, by omega⟩
    rw [fX12_powerOf_l31, if_neg (by rw [i_le (by omega) (by omega)]; omega), if_pos (gmul h1.fin h3.fin)]
    have bq := h1.1
    have e : g * ((m + 1 : Nat) : Int) = g + g * (m : Int) := by rw [show ((m + 1 : Nat) : Int) = 1 + (m : Int) by omega, Int.mul_add, Int.mul_one]
    rw [e] at b2 b3 ⊢
    have b : -1074 ≤ q + g ∧ q + g ≤ 971 := by rcases hg with rfl | rfl <;> omega
    have h1' := h1.mul h3 hc b.1 b.2
    rw [i_addl, show (k : Int) + 1 = ((k + 1 : Nat) : Int) by omega]
    obtain ⟨y, e1, e2⟩ := ih f (k + 1) _ (q + g) (by omega) (by omega) h1' b.2 (by omega) (by omega)
    exact ⟨y, e1, by rw [← Int.add_assoc]; exact e2⟩
theorem pw {p : Int} (h1 : -1074 ≤ p) (h2 : p ≤ 971) : ∃ y, fX12_powerOf (Int32.ofInt p) = some y ∧ Ex y false 1 p := by
  unfold fX12_powerOf fX12_powerOf_b15
  by_cases z : 0 ≤ p
  · obtain ⟨r, rfl⟩ := Int.eq_ofNat_of_zero_le z
    rw [if_pos (by rw [show (0 : Int32) = Int32.ofInt 0 from rfl, i_le (by omega) (by omega)]; omega), if_pos (by rw [show (0 : Int32) = Int32.ofInt 0 from rfl, i_le (by omega) (by omega)]; omega)]
    have := pwl (c := 1) (by decide) (Or.inl rfl) ex_two (n := r) (by omega) r FUx 0 FP.dconst1 0 (by omega) (by rw [FUx_eq]; omega) ex_one (by decide) (by omega) (by omega)
    simpa using this
  · obtain ⟨r, hr⟩ := Int.eq_ofNat_of_zero_le (show 0 ≤ -p by omega)
    rw [if_neg (by rw [show (0 : Int32) = Int32.ofInt 0 from rfl, i_le (by omega) (by omega)]; omega), if_neg (by rw [show (0 : Int32) = Int32.ofInt 0 from rfl, i_le (by omega) (by omega)]; omega)]
    have hp : p = -(r : Int) := by omega
    subst hp
    have := pwl (c := 1) (by decide) (g := -1) (Or.inr rfl) ex_half (n := r) (by omega) r FUx 0 FP.dconst1 0 (by omega) (by rw [FUx_eq]; omega) ex_one (by decide) (by omega) (by omega)
    simp only []
    rw [i_neg, show - -(r : Int) = (r : Int) by omega]
    simpa using this
theorem i_half {p : Int} (h : -2147483648 ≤ p ∧ p < 2147483648) : Int32.ofInt p / (2 : Int32) = Int32.ofInt (p.tdiv 2) ∧ (p < 0 → p ≤ p.tdiv 2 ∧ p.tdiv 2 ≤ 0) ∧ (0 ≤ p → p.tdiv 2 = p / 2) := by
  have t := tdv (p := p) (w := 2) (by decide)
  have b : -2147483648 ≤ p.tdiv 2 ∧ p.tdiv 2 < 2147483648 := by rw [t]; split <;> omega
  refine ⟨?_, fun z => ?_, fun z => ?_⟩
  · rw [← Int32.toInt_inj, Int32.toInt_div, ti h.1 h.2, ti b.1 b.2, show (2 : Int32).toInt = 2 from rfl, Int.bmod_def]
    omega
  · rw [t]; split <;> omega
  · rw [t, if_pos (Or.inl z)]
theorem i_negl {i : Int} (h : -2147483648 ≤ i ∧ i < 2147483648) : (Int32.ofInt i < (0 : Int32)) = (i < 0) := by rw [show (0 : Int32) = Int32.ofInt 0 from rfl, i_lt (by omega) (by omega)]
theorem msc {x : Nat} (hx : x < 2 ^ 53) {p : Int} (h1 : -1074 ≤ p) (h2 : p ≤ 971) : ∃ y, fX12_scaled (Int64.ofInt (x : Int)) (Int32.ofInt p) = some y ∧ Ex y false x p := by
  unfold fX12_scaled
  by_cases z : p < 0
  · rw [if_pos (by rw [i_negl (by omega)]; exact z)]
    obtain ⟨e, f, -⟩ := i_half (p := p) (by omega)
    have f := f z
    simp only []
    rw [e, i_sub]
    generalize p.tdiv 2 = u at *
    obtain ⟨y1, k1, k2⟩ := pw (p := u) (by omega) (by omega)
    obtain ⟨y2, k3, k4⟩ := pw (p := p - u) (by omega) (by omega)
    have w1 := (Ex.l2d hx).mul k2 hx (by omega) (by omega)
    have w2 := w1.mul k4 hx (by omega) (by omega)
    rw [k1, ob_some, if_pos w1.nn, k3, ob_some, if_pos w2.nn]
    exact ⟨_, rfl, by rw [show 0 + u + (p - u) = p by omega] at w2; exact w2⟩
  · rw [if_neg (by rw [i_negl (by omega)]; exact z)]
    obtain ⟨y1, k1, k2⟩ := pw (p := p) h1 h2
    have w1 := (Ex.l2d hx).mul k2 hx (by omega) (by omega)
    rw [k1, ob_some, if_pos w1.nn]
    exact ⟨_, rfl, by rw [show 0 + p = p by omega] at w1; exact w1⟩
/-! the bits of a long -/
theorem j_nat {b : Int64} {k : Nat} (h : b.toBitVec.toNat = k) : b = Int64.ofInt (k : Int) := by
  rw [Int64.ofInt_eq_ofNat]
  refine Int64.toBitVec_inj.mp (BitVec.eq_of_toNat_eq ?_)
  show _ = (BitVec.ofNat 64 k).toNat
  rw [BitVec.toNat_ofNat, h, Nat.mod_eq_of_lt (h ▸ b.toBitVec.isLt)]
theorem t_and52 (b : Int64) : (b &&& (4503599627370495 : Int64)) = Int64.ofInt ((b.toUInt64.toNat % 2 ^ 52 : Nat) : Int) := by
  refine j_nat ?_
  rw [Int64.toBitVec_and, BitVec.toNat_and]
  exact Nat.and_two_pow_sub_one_eq_mod _ 52
theorem t_and63 (b : Int64) : (b &&& (9223372036854775807 : Int64)) = Int64.ofInt ((b.toUInt64.toNat % 2 ^ 63 : Nat) : Int) := by
  refine j_nat ?_
  rw [Int64.toBitVec_and, BitVec.toNat_and]
  exact Nat.and_two_pow_sub_one_eq_mod _ 63
theorem t_or52 (b : Int64) : ((b &&& (4503599627370495 : Int64)) ||| (4503599627370496 : Int64)) = Int64.ofInt ((2 ^ 52 + b.toUInt64.toNat % 2 ^ 52 : Nat) : Int) := by
  refine j_nat ?_
  rw [Int64.toBitVec_or, BitVec.toNat_or, Int64.toBitVec_and, BitVec.toNat_and]
  show (b.toUInt64.toNat &&& (2 ^ 52 - 1)) ||| 2 ^ 52 = _
  rw [Nat.and_two_pow_sub_one_eq_mod, Nat.or_comm]
  have := Nat.two_pow_add_eq_or_of_lt (i := 52) (Nat.mod_lt b.toUInt64.toNat (Nat.two_pow_pos 52)) 1
  rw [Nat.mul_one] at this
  exact this.symm
theorem shb (x : BitVec 64) : (x.sshiftRight 52 &&& 2047#64).toNat = x.toNat / 2 ^ 52 % 2048 := by
  rw [BitVec.toNat_and]
  show (x.sshiftRight 52).toNat &&& (2 ^ 11 - 1) = _
  rw [Nat.and_two_pow_sub_one_eq_mod]
  have hx := x.isLt
  cases hm : x.msb with
  | false =>
    rw [BitVec.toNat_sshiftRight_of_msb_false hm, Nat.shiftRight_eq_div_pow]
  | true =>
    rw [BitVec.toNat_sshiftRight_of_msb_true hm, Nat.shiftRight_eq_div_pow]
    omega
theorem t_e (b : Int64) : Int64.toInt32 ((b >>> (Int32.toInt64 (52 : Int32) &&& 63)) &&& (2047 : Int64)) = Int32.ofInt ((b.toUInt64.toNat / 2 ^ 52 % 2048 : Nat) : Int) := by
  rw [← Int64.toInt32_ofInt]
  congr 1
  refine j_nat ?_
  exact shb b.toBitVec
theorem t_le0 (b : Int64) : ((0 : Int64) ≤ b) = (b.toUInt64.toNat < 2 ^ 63) := by
  have hb := b.toUInt64.toNat_lt
  rw [Int64.le_iff_toInt_le]
  have e : b.toInt = if 2 * b.toUInt64.toNat < 2 ^ 64 then (b.toUInt64.toNat : Int) else (b.toUInt64.toNat : Int) - (2 ^ 64 : Nat) := BitVec.toInt_eq_toNat_cond _
  rw [e, show (0 : Int64).toInt = 0 from rfl]
  apply propext
  split <;> omega
theorem t_num (b : Int64) : isNum b = (b.toUInt64.toNat % 2 ^ 63 ≤ 9218868437227405312) := by
  unfold isNum
  rw [t_and63, j_lel (by omega)]
  apply propext
  omega
/-- the number that the bits of a finite one tell -/
theorem real_v {b : Int64} (hf : b.toUInt64.toNat % 2 ^ 63 < 9218868437227405312) : (b.toUInt64.toNat / 2 ^ 52 % 2048 = 0 ∧ Ex b.toUInt64 (decide (2 ^ 63 ≤ b.toUInt64.toNat)) (b.toUInt64.toNat % 2 ^ 52) (-1074)) ∨ (0 < b.toUInt64.toNat / 2 ^ 52 % 2048 ∧ b.toUInt64.toNat / 2 ^ 52 % 2048 < 2047 ∧ Ex b.toUInt64 (decide (2 ^ 63 ≤ b.toUInt64.toNat)) (2 ^ 52 + b.toUInt64.toNat % 2 ^ 52) (((b.toUInt64.toNat / 2 ^ 52 % 2048 : Nat) : Int) - 1075)) := by
  by_cases z : b.toUInt64.toNat % 2 ^ 63 < 2 ^ 52
  · refine Or.inl ⟨by omega, Ex.bits (by decide) hf ?_⟩
    unfold FP.Core.unitsOf FP.Core.inUnits
    rw [FP.Core.tails_b64, if_pos z, show (-1074 - -1074 : Int).toNat = 0 by decide, Nat.pow_zero, Nat.mul_one]
    omega
  · refine Or.inr ⟨by omega, by omega, Ex.bits (by omega) hf ?_⟩
    unfold FP.Core.unitsOf FP.Core.inUnits
    rw [FP.Core.tails_b64, if_neg z, show (((b.toUInt64.toNat / 2 ^ 52 % 2048 : Nat) : Int) - 1075 - -1074).toNat = b.toUInt64.toNat % 2 ^ 63 / 2 ^ 52 - 1 by omega, show b.toUInt64.toNat % 2 ^ 63 % 2 ^ 52 = b.toUInt64.toNat % 2 ^ 52 by omega]
theorem sc_inf : fX11_scaled FP.dconst1 (1024 : Int32) = some 9218868437227405312 := by decide +kernel
theorem gr_inf : fX12_great = some 9218868437227405312 := by decide +kernel
theorem inf_pos {a : UInt64} (h : a.toNat % 2 ^ 63 = 9218868437227405312) (z : a.toNat < 2 ^ 63) : a = 9218868437227405312 := UInt64.toNat.inj (by show _ = 9218868437227405312; omega)
theorem inf_neg {a : UInt64} (h : a.toNat % 2 ^ 63 = 9218868437227405312) (z : ¬ a.toNat < 2 ^ 63) : a = FP.dneg 9218868437227405312 := by
  have := a.toNat_lt
  rw [show FP.dneg 9218868437227405312 = 18442240474082181120 by decide +kernel]
  exact UInt64.toNat.inj (by show _ = 18442240474082181120; omega)
/-- what the sign makes of the size -/
theorem sgn_v {b : Int64} {y : UInt64} {c : Nat} {q : Int} (h : Ex b.toUInt64 (decide (2 ^ 63 ≤ b.toUInt64.toNat)) c q) (hy : Ex y false c q) : (if (0 : Int64) ≤ b then some y else some (FP.dneg y)) = some b.toUInt64 := by
  by_cases z : (0 : Int64) ≤ b
  · rw [if_pos z]
    rw [t_le0] at z
    rw [decide_eq_false (by omega)] at h
    rw [hy.uq h rfl]
  · rw [if_neg z]
    rw [t_le0] at z
    rw [decide_eq_true (by omega)] at h
    rw [hy.neg.uq h rfl]
theorem sgn_i {b : Int64} (hi : b.toUInt64.toNat % 2 ^ 63 = 9218868437227405312) : (if (0 : Int64) ≤ b then some (9218868437227405312 : UInt64) else some (FP.dneg 9218868437227405312)) = some b.toUInt64 := by
  by_cases z : (0 : Int64) ≤ b
  · rw [if_pos z]
    rw [t_le0] at z
    rw [inf_pos hi z]
  · rw [if_neg z]
    rw [t_le0] at z
    rw [inf_neg hi z]
/-- the class's reals are the numbers of their bits -/
theorem realOf_num {b : Int64} (h : isNum b) : fX11_realOf b = some b.toUInt64 := by
  rw [t_num] at h
  unfold fX11_realOf
  simp only []
  rw [t_e, t_and52]
  by_cases hi : b.toUInt64.toNat % 2 ^ 63 = 9218868437227405312
  · rw [if_pos (by rw [i_eql (by omega)]; omega), sc_inf, ob_some]
    exact sgn_i hi
  · rw [if_neg (by rw [i_eql (by omega)]; omega)]
    rcases real_v (b := b) (by omega) with ⟨e0, hE⟩ | ⟨e0, e1, hE⟩
    · rw [if_pos (by rw [e0]; rfl)]
      obtain ⟨y, k1, k2⟩ := sc (p := -1074) (Ex.l2d (x := b.toUInt64.toNat % 2 ^ 52) (by omega)) (by omega) (by decide) (by decide) (by decide) (by decide) (by decide)
      rw [show (-1074 : Int32) = Int32.ofInt (-1074) from rfl, k1, ob_some]
      exact sgn_v hE k2
    · rw [if_neg (by rw [i_eql (by omega)]; omega), ← t_and52, t_or52, i_subl]
      obtain ⟨y, k1, k2⟩ := sc (p := ((b.toUInt64.toNat / 2 ^ 52 % 2048 : Nat) : Int) - 1075) (Ex.l2d (x := 2 ^ 52 + b.toUInt64.toNat % 2 ^ 52) (by omega)) (by omega) (by omega) (by omega) (by omega) (by omega) (by decide)
      rw [k1, ob_some]
      rw [Int.zero_add] at k2
      exact sgn_v hE k2
theorem fromBits_num {b : Int64} (h : isNum b) : fX12_fromBits b = some b.toUInt64 := by
  rw [t_num] at h
  unfold fX12_fromBits
  simp only []
  rw [t_e, t_and52]
  by_cases hi : b.toUInt64.toNat % 2 ^ 63 = 9218868437227405312
  · rw [if_pos (by rw [i_eql (by omega)]; omega), if_pos (by rw [show b.toUInt64.toNat % 2 ^ 52 = 0 by omega]; rfl), gr_inf, ob_some]
    exact sgn_i hi
  · rw [if_neg (by rw [i_eql (by omega)]; omega)]
    rcases real_v (b := b) (by omega) with ⟨e0, hE⟩ | ⟨e0, e1, hE⟩
    · rw [if_pos (by rw [e0]; rfl)]
      obtain ⟨y, k1, k2⟩ := msc (x := b.toUInt64.toNat % 2 ^ 52) (by omega) (p := -1074) (by decide) (by decide)
      rw [show (-1074 : Int32) = Int32.ofInt (-1074) from rfl, k1, ob_some]
      exact sgn_v hE k2
    · rw [if_neg (by rw [i_eql (by omega)]; omega), ← t_and52, t_or52, i_subl]
      obtain ⟨y, k1, k2⟩ := msc (x := 2 ^ 52 + b.toUInt64.toNat % 2 ^ 52) (by omega) (p := ((b.toUInt64.toNat / 2 ^ 52 % 2048 : Nat) : Int) - 1075) (by omega) (by omega)
      rw [k1, ob_some]
      exact sgn_v hE k2
theorem fromBits_nan {b : Int64} (h : ¬ isNum b) : fX12_fromBits b = some 9221120237041090560 := by
  rw [t_num] at h
  unfold fX12_fromBits
  simp only []
  rw [t_e, t_and52, if_pos (by rw [i_eql (by omega)]; omega), if_neg]
  rw [j_eql (by omega)]
  omega
