/-! ===== doubles: floats widened ===== -/
theorem u_nat {b : Int32} {k : Nat} (h : b.toBitVec.toNat = k) : b = Int32.ofInt (k : Int) := by
  rw [Int32.ofInt_eq_ofNat]
  refine Int32.toBitVec_inj.mp (BitVec.eq_of_toNat_eq ?_)
  show _ = (BitVec.ofNat 32 k).toNat
  rw [BitVec.toNat_ofNat, h, Nat.mod_eq_of_lt (h ▸ b.toBitVec.isLt)]
theorem un {n : Nat} (h : n < 4294967296) : (Int32.ofInt (n : Int)).toBitVec.toNat = n := by
  rw [Int32.ofInt_eq_ofNat]
  show (BitVec.ofNat 32 n).toNat = n
  rw [BitVec.toNat_ofNat, Nat.mod_eq_of_lt h]
theorem jn {n : Nat} (h : n < 18446744073709551616) : (Int64.ofInt (n : Int)).toBitVec.toNat = n := by
  rw [Int64.ofInt_eq_ofNat]
  show (BitVec.ofNat 64 n).toNat = n
  rw [BitVec.toNat_ofNat, Nat.mod_eq_of_lt h]
theorem us {n s : Nat} {c : Int32} (hn : n < 4294967296) (hc : ((Int32.toUInt32 c &&& Int32.toUInt32 31).toBitVec % 32#32).toNat = s) : (Int32.toUInt32 (Int32.ofInt (n : Int)) >>> (Int32.toUInt32 c &&& Int32.toUInt32 31)).toInt32 = Int32.ofInt ((n / 2 ^ s : Nat) : Int) := by
  refine u_nat ?_
  show ((Int32.ofInt (n : Int)).toBitVec >>> ((Int32.toUInt32 c &&& Int32.toUInt32 31).toBitVec % 32#32)).toNat = _
  rw [BitVec.ushiftRight_eq', BitVec.toNat_ushiftRight, hc, un hn, Nat.shiftRight_eq_div_pow]
theorem nlz61 {n : Nat} {k : Int} (h1 : 1 ≤ n) (h2 : n < 16) (hk : 0 ≤ k ∧ k ≤ 31) : ∃ t : Nat, t ≤ 3 ∧ 2 ^ t ≤ n ∧ n < 2 ^ (t + 1) ∧ fXN_nlzI_b61 (Int32.ofInt (n : Int)) (Int32.ofInt k) = Int32.ofInt (k - (t : Int)) := by
  unfold fXN_nlzI_b61
  by_cases c : n < 4
  · rw [if_pos (by rw [i_ltl (by omega)]; omega), us (s := 1) (by omega) (by decide), i_sub]
    refine ⟨n / 2 ^ 1, by omega, ?_, ?_, rfl⟩
    · rcases (show n = 1 ∨ n = 2 ∨ n = 3 by omega) with rfl | rfl | rfl <;> decide
    · rcases (show n = 1 ∨ n = 2 ∨ n = 3 by omega) with rfl | rfl | rfl <;> decide
  · rw [if_neg (by rw [i_ltl (by omega)]; omega)]
    simp only []
    rw [us (s := 2) (by omega) (by decide), us (s := 1) (by omega) (by decide), i_addn, i_sub]
    by_cases c2 : n < 8
    · refine ⟨2, by omega, by omega, by omega, ?_⟩
      congr 1
      omega
    · refine ⟨3, by omega, by omega, by omega, ?_⟩
      congr 1
      omega
theorem nlz33 {n : Nat} {k : Int} (h1 : 1 ≤ n) (h2 : n < 65536) (hk : 15 ≤ k ∧ k ≤ 31) : ∃ t : Nat, t ≤ 15 ∧ 2 ^ t ≤ n ∧ n < 2 ^ (t + 1) ∧ fXN_nlzI_b33 (Int32.ofInt (n : Int)) (Int32.ofInt k) = Int32.ofInt (k - (t : Int)) := by
  unfold fXN_nlzI_b33
  by_cases c : n < 256
  · rw [if_pos (by rw [i_ltl (by omega)]; omega)]
    by_cases c2 : n < 16
    · rw [if_pos (by rw [i_ltl (by omega)]; omega)]
      obtain ⟨t, e1, e2, e3, e4⟩ := nlz61 (n := n) (k := k) h1 c2 (by omega)
      exact ⟨t, by omega, e2, e3, e4⟩
    · rw [if_neg (by rw [i_ltl (by omega)]; omega)]
      simp only []
      rw [us (s := 4) (by omega) (by decide), i_addn]
      obtain ⟨t, e1, e2, e3, e4⟩ := nlz61 (n := n / 2 ^ 4) (k := k + -4) (by omega) (by omega) (by omega)
      refine ⟨4 + t, by omega, ?_, ?_, ?_⟩
      · rw [Nat.pow_add]; omega
      · rw [Nat.add_assoc, Nat.pow_add]; omega
      · rw [e4]; congr 1; omega
  · rw [if_neg (by rw [i_ltl (by omega)]; omega)]
    simp only []
    rw [us (s := 8) (by omega) (by decide), i_addn]
    by_cases c2 : n / 2 ^ 8 < 16
    · rw [if_pos (by rw [i_ltl (by omega)]; omega)]
      obtain ⟨t, e1, e2, e3, e4⟩ := nlz61 (n := n / 2 ^ 8) (k := k + -8) (by omega) c2 (by omega)
      refine ⟨8 + t, by omega, ?_, ?_, ?_⟩
      · rw [Nat.pow_add]; omega
      · rw [Nat.add_assoc, Nat.pow_add]; omega
      · rw [e4]; congr 1; omega
    · rw [if_neg (by rw [i_ltl (by omega)]; omega)]
      rw [us (s := 4) (by omega) (by decide), i_addn]
      obtain ⟨t, e1, e2, e3, e4⟩ := nlz61 (n := n / 2 ^ 8 / 2 ^ 4) (k := k + -8 + -4) (by omega) (by omega) (by omega)
      refine ⟨12 + t, by omega, ?_, ?_, ?_⟩
      · rw [Nat.pow_add]; omega
      · rw [Nat.add_assoc, Nat.pow_add]; omega
      · rw [e4]; congr 1; omega
theorem nlzI {n : Nat} (h1 : 1 ≤ n) (h2 : n < 2147483648) : ∃ t : Nat, t ≤ 31 ∧ 2 ^ t ≤ n ∧ n < 2 ^ (t + 1) ∧ fXN_nlzI (Int32.ofInt (n : Int)) = Int32.ofInt (31 - (t : Int)) := by
  unfold fXN_nlzI
  rw [if_pos (by rw [i_ltr (by omega)]; omega)]
  by_cases c : n < 65536
  · rw [if_pos (by rw [i_ltl (by omega)]; omega)]
    obtain ⟨t, e1, e2, e3, e4⟩ := nlz33 (n := n) (k := 31) h1 c (by omega)
    exact ⟨t, by omega, e2, e3, e4⟩
  · rw [if_neg (by rw [i_ltl (by omega)]; omega)]
    simp only []
    rw [us (s := 16) (by omega) (by decide)]
    obtain ⟨t, e1, e2, e3, e4⟩ := nlz33 (n := n / 2 ^ 16) (k := 15) (by omega) (by omega) (by omega)
    refine ⟨16 + t, by omega, ?_, ?_, ?_⟩
    · rw [Nat.pow_add]; omega
    · rw [Nat.add_assoc, Nat.pow_add]; omega
    · rw [show (31 : Int32) + (-16 : Int32) = Int32.ofInt 15 from rfl, e4]; congr 1; omega
theorem nlzL {n : Nat} (h1 : 1 ≤ n) (h2 : n < 2147483648) : ∃ t : Nat, t ≤ 31 ∧ 2 ^ t ≤ n ∧ n < 2 ^ (t + 1) ∧ fXN_nlzL (Int64.ofInt (n : Int)) = Int32.ofInt (63 - (t : Int)) := by
  unfold fXN_nlzL
  have e : (Int64.toUInt64 (Int64.ofInt (n : Int)) >>> ((Int32.toInt64 (32 : Int32)).toUInt64 &&& Int64.toUInt64 63)).toInt64 = Int64.ofInt ((0 : Nat) : Int) := by
    refine j_nat ?_
    show ((Int64.ofInt (n : Int)).toBitVec >>> (((Int32.toInt64 (32 : Int32)).toUInt64 &&& Int64.toUInt64 63).toBitVec % 64#64)).toNat = _
    rw [BitVec.ushiftRight_eq', BitVec.toNat_ushiftRight, jn (by omega), Nat.shiftRight_eq_div_pow, show (((Int32.toInt64 (32 : Int32)).toUInt64 &&& Int64.toUInt64 63).toBitVec % 64#64).toNat = 32 by decide]
    omega
  simp only []
  rw [e, if_pos (by decide), Int64.toInt32_ofInt]
  obtain ⟨t, e1, e2, e3, e4⟩ := nlzI h1 h2
  exact ⟨t, e1, e2, e3, by rw [e4, i_addr]; congr 1; omega⟩
/-! longs by their bits -/
theorem shl64 : ∀ k : Fin 64, ((Int64.ofInt ((k.val : Nat) : Int) &&& 63).toBitVec.smod 64#64).toNat = k.val := by decide +kernel
theorem j_shl {a k : Nat} (hk : k < 64) (h : a * 2 ^ k < 18446744073709551616) : Int64.ofInt (a : Int) <<< (Int64.ofInt (k : Int) &&& 63) = Int64.ofInt ((a * 2 ^ k : Nat) : Int) := by
  refine j_nat ?_
  have ha : a < 18446744073709551616 := Nat.lt_of_le_of_lt (Nat.le_mul_of_pos_right _ (Nat.two_pow_pos k)) h
  show ((Int64.ofInt (a : Int)).toBitVec <<< ((Int64.ofInt (k : Int) &&& 63).toBitVec.smod 64#64)).toNat = _
  rw [BitVec.shiftLeft_eq', BitVec.toNat_shiftLeft, jn ha, shl64 ⟨k, hk⟩, Nat.shiftLeft_eq]
  exact Nat.mod_eq_of_lt h
theorem j_or {A b k : Nat} (hA : A % 2 ^ k = 0) (hb : b < 2 ^ k) (hs : A + b < 18446744073709551616) : Int64.ofInt (A : Int) ||| Int64.ofInt (b : Int) = Int64.ofInt ((A + b : Nat) : Int) := by
  refine j_nat ?_
  rw [Int64.toBitVec_or, BitVec.toNat_or, jn (by omega), jn (by omega)]
  have e : A = 2 ^ k * (A / 2 ^ k) := by
    have := Nat.div_add_mod A (2 ^ k)
    omega
  rw [e]
  exact (Nat.two_pow_add_eq_or_of_lt hb _).symm
theorem sgn63 {b : Int64} : (b &&& (-9223372036854775808 : Int64)) = Int64.ofInt (((if b.toUInt64.toNat < 2 ^ 63 then 0 else 2 ^ 63) : Nat) : Int) := by
  refine j_nat ?_
  rw [Int64.toBitVec_and, BitVec.toNat_and]
  have hb := b.toUInt64.toNat_lt
  show b.toUInt64.toNat &&& 2 ^ 63 = _
  apply Nat.eq_of_testBit_eq
  intro i
  rw [Nat.testBit_and, Nat.testBit_two_pow]
  by_cases hi : 63 = i
  · subst hi
    rw [decide_eq_true rfl, Bool.and_true, Nat.testBit_eq_decide_div_mod_eq]
    by_cases z : b.toUInt64.toNat < 2 ^ 63
    · rw [if_pos z, Nat.zero_testBit, decide_eq_false (by omega)]
    · rw [if_neg z, Nat.testBit_two_pow_self, decide_eq_true (by omega)]
  · rw [decide_eq_false hi, Bool.and_false]
    by_cases z : b.toUInt64.toNat < 2 ^ 63
    · rw [if_pos z, Nat.zero_testBit]
    · rw [if_neg z, Nat.testBit_two_pow, decide_eq_false hi]
theorem se_nat (v : Int32) : (Int32.toInt64 v).toUInt64.toNat = v.toUInt32.toNat + if v.toUInt32.toNat < 2 ^ 31 then 0 else 2 ^ 64 - 2 ^ 32 := by
  show (v.toBitVec.signExtend 64).toNat = v.toBitVec.toNat + if v.toBitVec.toNat < 2 ^ 31 then 0 else 2 ^ 64 - 2 ^ 32
  have hv := v.toBitVec.isLt
  rw [BitVec.toNat_signExtend, BitVec.toNat_setWidth, Nat.mod_eq_of_lt (by omega), BitVec.msb_eq_decide]
  by_cases z : v.toBitVec.toNat < 2 ^ 31
  · rw [if_pos z, decide_eq_false (by omega)]; rfl
  · rw [if_neg z, decide_eq_true (by omega)]; rfl
theorem w_and (v : Int32) : (Int32.toInt64 v &&& (8388607 : Int64)) = Int64.ofInt ((v.toUInt32.toNat % 2 ^ 23 : Nat) : Int) := by
  refine j_nat ?_
  rw [Int64.toBitVec_and, BitVec.toNat_and]
  show (Int32.toInt64 v).toUInt64.toNat &&& (2 ^ 23 - 1) = _
  rw [Nat.and_two_pow_sub_one_eq_mod, se_nat]
  split <;> omega
theorem shb23 (x : BitVec 64) : (x.sshiftRight 23 &&& 255#64).toNat = x.toNat / 2 ^ 23 % 256 := by
  rw [BitVec.toNat_and]
  show (x.sshiftRight 23).toNat &&& (2 ^ 8 - 1) = _
  rw [Nat.and_two_pow_sub_one_eq_mod]
  have hx := x.isLt
  cases hm : x.msb with
  | false =>
    rw [BitVec.toNat_sshiftRight_of_msb_false hm, Nat.shiftRight_eq_div_pow]
  | true =>
    rw [BitVec.toNat_sshiftRight_of_msb_true hm, Nat.shiftRight_eq_div_pow]
    omega
theorem shw23 (x : BitVec 32) : (x.sshiftRight 23 &&& 255#32).toNat = x.toNat / 2 ^ 23 % 256 := by
  rw [BitVec.toNat_and]
  show (x.sshiftRight 23).toNat &&& (2 ^ 8 - 1) = _
  rw [Nat.and_two_pow_sub_one_eq_mod]
  have hx := x.isLt
  cases hm : x.msb with
  | false =>
    rw [BitVec.toNat_sshiftRight_of_msb_false hm, Nat.shiftRight_eq_div_pow]
  | true =>
    rw [BitVec.toNat_sshiftRight_of_msb_true hm, Nat.shiftRight_eq_div_pow]
    omega
theorem w_e (v : Int32) : ((Int32.toInt64 v >>> (Int32.toInt64 (23 : Int32) &&& 63)) &&& (255 : Int64)) = Int64.ofInt ((v.toUInt32.toNat / 2 ^ 23 % 256 : Nat) : Int) := by
  refine j_nat ?_
  refine Eq.trans (shb23 (Int32.toInt64 v).toBitVec) ?_
  show (Int32.toInt64 v).toUInt64.toNat / 2 ^ 23 % 256 = _
  rw [se_nat]
  have := v.toUInt32.toNat_lt
  split <;> omega
theorem w_ei (v : Int32) : ((v >>> ((23 : Int32) &&& 31)) &&& (255 : Int32)) = Int32.ofInt ((v.toUInt32.toNat / 2 ^ 23 % 256 : Nat) : Int) := by
  refine u_nat ?_
  exact shw23 v.toBitVec
theorem w_le0 (v : Int32) : ((0 : Int32) ≤ v) = (v.toUInt32.toNat < 2 ^ 31) := by
  have hb := v.toUInt32.toNat_lt
  rw [Int32.le_iff_toInt_le]
  have e : v.toInt = if 2 * v.toUInt32.toNat < 2 ^ 32 then (v.toUInt32.toNat : Int) else (v.toUInt32.toNat : Int) - (2 ^ 32 : Nat) := BitVec.toInt_eq_toNat_cond _
  rw [e, show (0 : Int32).toInt = 0 from rfl]
  apply propext
  split <;> omega
theorem w_s (v : Int32) : (Int32.toInt64 v &&& (-9223372036854775808 : Int64)) = Int64.ofInt (((if v.toUInt32.toNat < 2 ^ 31 then 0 else 2 ^ 63) : Nat) : Int) := by
  rw [sgn63, se_nat]
  congr 2
  have := v.toUInt32.toNat_lt
  by_cases z : v.toUInt32.toNat < 2 ^ 31
  · rw [if_pos z, if_pos z, if_pos (by omega)]
  · rw [if_neg z, if_neg z, if_neg (by omega)]
theorem w_or (n : Nat) : Int64.ofInt ((n % 2 ^ 23 : Nat) : Int) ||| (8388608 : Int64) = Int64.ofInt ((2 ^ 23 + n % 2 ^ 23 : Nat) : Int) := by
  have := j_or (A := 2 ^ 23) (b := n % 2 ^ 23) (k := 23) (by decide) (by omega) (by omega)
  rw [← this, show (8388608 : Int64) = Int64.ofInt ((2 ^ 23 : Nat) : Int) from rfl]
  refine Int64.toBitVec_inj.mp ?_
  rw [Int64.toBitVec_or, Int64.toBitVec_or, BitVec.or_comm]
/-- the sign's bit -/
def sgbt (v : Int32) : Nat := if v.toUInt32.toNat < 2 ^ 31 then 0 else 2 ^ 63
theorem widB {v : Int32} {y : UInt64} {c m : Nat} {q : Int} (hq : -1074 ≤ q) (hm : m < 9218868437227405312) (hu : FP.Core.unitsOf FP.Core.b64 m = FP.Core.inUnits c q (-1074)) (hy : Ex y false c q) : isNum (Int64.ofInt ((sgbt v + m : Nat) : Int)) ∧ (if (0 : Int32) ≤ v then some y else some (FP.dneg y)) = some (Int64.ofInt ((sgbt v + m : Nat) : Int)).toUInt64 := by
  have hs : sgbt v = 0 ∧ v.toUInt32.toNat < 2 ^ 31 ∨ sgbt v = 2 ^ 63 ∧ ¬ v.toUInt32.toNat < 2 ^ 31 := by
    unfold sgbt
    split <;> omega
  have e : (Int64.ofInt ((sgbt v + m : Nat) : Int)).toUInt64.toNat = sgbt v + m := jn (by omega)
  have h := Ex.bits (a := (Int64.ofInt ((sgbt v + m : Nat) : Int)).toUInt64) (c := c) hq (by rw [e]; omega) (by rw [e, show (sgbt v + m) % 2 ^ 63 = m by omega]; exact hu)
  rw [e] at h
  refine ⟨by rw [t_num, e]; omega, ?_⟩
  rcases hs with ⟨s1, s2⟩ | ⟨s1, s2⟩
  · rw [if_pos (by rw [w_le0]; exact s2)]
    rw [decide_eq_false (by omega)] at h
    rw [hy.uq h rfl]
  · rw [if_neg (by rw [w_le0]; exact s2)]
    rw [decide_eq_true (by omega)] at h
    rw [hy.neg.uq h rfl]
theorem not_num : ¬ isNum (9221120237041090560 : Int64) := by unfold isNum; decide
/-- a float as a double: the class by its bits, the model by its value -/
theorem widF (v : Int32) : (isNum (fX11_widened (Int32.toInt64 v)) ∧ fX12_fromSingle v = some (fX11_widened (Int32.toInt64 v)).toUInt64) ∨ (fX11_widened (Int32.toInt64 v) = 9221120237041090560 ∧ fX12_fromSingle v = some 9221120237041090560) := by
  have hn := v.toUInt32.toNat_lt
  unfold fX11_widened fX12_fromSingle
  simp only []
  rw [w_e, w_ei, w_and, w_s]
  rw [show (if v.toUInt32.toNat < 2 ^ 31 then 0 else 2 ^ 63) = sgbt v from rfl]
  have hs : sgbt v = 0 ∨ sgbt v = 2 ^ 63 := by unfold sgbt; split <;> omega
  generalize hE : v.toUInt32.toNat / 2 ^ 23 % 256 = E
  generalize hF : v.toUInt32.toNat % 2 ^ 23 = F
  have hE2 : E < 256 := by omega
  have hF2 : F < 8388608 := by omega
  have E1 : (Int64.ofInt (E : Int) = 255) = (E = 255) := by rw [j_eql (by omega)]; apply propext; omega
  have E2 : (Int32.ofInt (E : Int) = 255) = (E = 255) := by rw [i_eql (by omega)]; apply propext; omega
  have E3 : (Int64.ofInt (E : Int) = 0) = (E = 0) := by rw [j_eql (by omega)]; apply propext; omega
  have E4 : (Int32.ofInt (E : Int) = 0) = (E = 0) := by rw [i_eql (by omega)]; apply propext; omega
  have F0 : (Int64.ofInt (F : Int) = 0) = (F = 0) := by rw [j_eql (by omega)]; apply propext; omega
  simp only [E1, E2, E3, E4, F0]
  have hs63 : sgbt v % 2 ^ 63 = 0 := by rcases hs with h | h <;> rw [h] <;> decide
  have hs52 : ∀ y, (sgbt v + y * 2 ^ 52) % 2 ^ 52 = 0 := fun y => by rcases hs with h | h <;> rw [h] <;> omega
  by_cases c1 : E = 255
  · simp only [if_pos c1]
    by_cases c2 : F = 0
    · simp only [if_pos c2]
      rw [gr_inf, ob_some]
      refine Or.inl ?_
      have e := j_or (A := sgbt v) (b := 9218868437227405312) (k := 63) hs63 (by omega) (by omega)
      rw [show (9218868437227405312 : Int64) = Int64.ofInt ((9218868437227405312 : Nat) : Int) from rfl, e]
      have e2 : (Int64.ofInt ((sgbt v + 9218868437227405312 : Nat) : Int)).toUInt64.toNat = sgbt v + 9218868437227405312 := jn (by omega)
      refine ⟨by rw [t_num, e2]; omega, ?_⟩
      have e3 : (Int64.ofInt ((sgbt v + 9218868437227405312 : Nat) : Int)).toUInt64.toNat % 2 ^ 63 = 9218868437227405312 := by rw [e2]; omega
      by_cases z : (0 : Int32) ≤ v
      · rw [if_pos z]
        rw [w_le0] at z
        rw [inf_pos e3 (by rw [e2]; unfold sgbt; rw [if_pos z]; omega)]
      · rw [if_neg z]
        rw [w_le0] at z
        rw [inf_neg e3 (by rw [e2]; unfold sgbt; rw [if_neg z]; omega)]
    · simp only [if_neg c2]
      exact Or.inr ⟨trivial, trivial⟩
  · simp only [if_neg c1]
    refine Or.inl ?_
    by_cases c2 : E = 0
    · simp only [if_pos c2]
      obtain ⟨y, k1, k2⟩ := msc (x := F) (by omega) (p := -149) (by decide) (by decide)
      rw [show (-149 : Int32) = Int32.ofInt (-149) from rfl, k1, ob_some]
      by_cases c3 : F = 0
      · simp only [if_pos c3]
        have := widB (v := v) (m := 0) (c := F) (q := -149) (by decide) (by decide) (by rw [c3]; unfold FP.Core.inUnits; rw [FP.Core.unitsOf_zero, Nat.zero_mul]) k2
        rw [Nat.add_zero] at this
        exact this
      · simp only [if_neg c3]
        obtain ⟨t, t1, t2, t3, t4⟩ := nlzL (n := F) (by omega) (by omega)
        have t5 : t ≤ 22 := by
          refine Nat.le_of_lt_succ ?_
          have : 2 ^ t < 2 ^ 23 := Nat.lt_of_le_of_lt t2 (by omega)
          exact (Nat.pow_lt_pow_iff_right (by decide)).mp this
        rw [t4, i_subr, show (63 : Int) - (63 - (t : Int)) = (t : Int) by omega, i_w (by omega), j_addl, show (t : Int) + 874 = ((t + 874 : Nat) : Int) by omega, show Int32.toInt64 (52 : Int32) = Int64.ofInt ((52 : Nat) : Int) from rfl, j_shl (by decide) (by omega), i_subr, show (52 : Int) - (t : Int) = ((52 - t : Nat) : Int) by omega, i_w (by omega)]
        have p1 : F * 2 ^ (52 - t) < 2 ^ 53 := by
          have : F * 2 ^ (52 - t) < 2 ^ (t + 1) * 2 ^ (52 - t) := Nat.mul_lt_mul_of_pos_right t3 (Nat.two_pow_pos _)
          rwa [← Nat.pow_add, show t + 1 + (52 - t) = 53 by omega] at this
        have p2 : 2 ^ 52 ≤ F * 2 ^ (52 - t) := by
          have : 2 ^ t * 2 ^ (52 - t) ≤ F * 2 ^ (52 - t) := Nat.mul_le_mul_right _ t2
          rwa [← Nat.pow_add, show t + (52 - t) = 52 by omega] at this
        rw [j_shl (by omega) (by omega), t_and52]
        rw [show (Int64.ofInt ((F * 2 ^ (52 - t) : Nat) : Int)).toUInt64.toNat = F * 2 ^ (52 - t) from jn (by omega)]
        rw [j_or (k := 63) hs63 (by omega) (by omega), j_or (k := 52) (hs52 _) (by omega) (by omega)]
        rw [Nat.add_assoc]
        refine widB (q := -149) (by decide) (by omega) ?_ k2
        unfold FP.Core.unitsOf FP.Core.inUnits
        rw [FP.Core.tails_b64, if_neg (by omega), show ((t + 874) * 2 ^ 52 + F * 2 ^ (52 - t) % 2 ^ 52) % 2 ^ 52 = F * 2 ^ (52 - t) - 2 ^ 52 by omega, show ((t + 874) * 2 ^ 52 + F * 2 ^ (52 - t) % 2 ^ 52) / 2 ^ 52 - 1 = t + 873 by omega, show 2 ^ 52 + (F * 2 ^ (52 - t) - 2 ^ 52) = F * 2 ^ (52 - t) by omega, Nat.mul_assoc, ← Nat.pow_add, show 52 - t + (t + 873) = (-149 - -1074 : Int).toNat by omega]
    · simp only [if_neg c2]
      obtain ⟨y, k1, k2⟩ := msc (x := 2 ^ 23 + F) (by omega) (p := (E : Int) - 150) (by omega) (by omega)
      rw [← hF, w_or, hF, i_subl, k1, ob_some, j_addl, show (E : Int) + 896 = ((E + 896 : Nat) : Int) by omega, show Int32.toInt64 (52 : Int32) = Int64.ofInt ((52 : Nat) : Int) from rfl, j_shl (by decide) (by omega), show Int32.toInt64 (29 : Int32) = Int64.ofInt ((29 : Nat) : Int) from rfl, j_shl (by decide) (by omega)]
      rw [j_or (k := 63) hs63 (by omega) (by omega), j_or (k := 52) (hs52 _) (by omega) (by omega)]
      rw [Nat.add_assoc]
      refine widB (q := (E : Int) - 150) (by omega) (by omega) ?_ k2
      unfold FP.Core.unitsOf FP.Core.inUnits
      rw [FP.Core.tails_b64, if_neg (by omega), show ((E + 896) * 2 ^ 52 + F * 2 ^ 29) % 2 ^ 52 = F * 2 ^ 29 by omega, show ((E + 896) * 2 ^ 52 + F * 2 ^ 29) / 2 ^ 52 - 1 = E + 895 by omega, show 2 ^ 52 + F * 2 ^ 29 = (2 ^ 23 + F) * 2 ^ 29 by omega, Nat.mul_assoc, ← Nat.pow_add, show ((E : Int) - 150 - -1074).toNat = 29 + (E + 895) by omega]
