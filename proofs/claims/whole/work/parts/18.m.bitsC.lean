/-! ===== doubles: the class's bits of a real ===== -/
theorem cvZ {a b : UInt64} {w} (ha : FP.Core.val64 a ≠ .nan) (hb : FP.Core.val64 b ≠ .nan) : (Op.cmpValue (FP.dcmp a b) w < 0) = (Zv a < Zv b) ∧ (Op.cmpValue (FP.dcmp a b) w ≤ 0) = (Zv a ≤ Zv b) ∧ (0 ≤ Op.cmpValue (FP.dcmp a b) w) = (Zv b ≤ Zv a) ∧ (0 < Op.cmpValue (FP.dcmp a b) w) = (Zv b < Zv a) ∧ (Op.cmpValue (FP.dcmp a b) w = 0) = (Zv a = Zv b) := by
  refine cv3 ?_
  show Op.cmpValue (FP.Core.dcmp a b) w = _
  rw [FP.Core.dcmp_zval ha hb, FP.Core.compare_ite]
  show Op.cmpValue (some (if Zv a < Zv b then _ else if Zv a = Zv b then _ else _)) w = _
  by_cases c1 : Zv a < Zv b
  · rw [if_pos c1, if_pos c1]; rfl
  · rw [if_neg c1, if_neg c1]
    by_cases c2 : Zv a = Zv b
    · rw [if_pos c2, if_pos c2]; rfl
    · rw [if_neg c2, if_neg c2]; rfl
theorem Ex.zp {a : UInt64} {c : Nat} {q : Int} (h : Ex a false c q) : Zv a = ((c * 2 ^ (q + 1074).toNat : Nat) : Int) := by
  rw [h.zv]
  show ((c * 2 ^ (q - -1074).toNat : Nat) : Int) = _
  rw [show q - -1074 = q + 1074 by omega]
theorem ex0_z : Zv FP.dconst0 = 0 := by rw [ex_zero.zp]; simp
theorem cmp2 {y z : UInt64} {c : Nat} {q s : Int} (hy : Ex y false c q) (hz : Ex z false 1 s) (hc : 1 ≤ c) : (Zv z ≤ Zv y) = (s ≤ (c.log2 : Int) + q) := by
  have b1 := hy.1
  have b2 := hz.1
  rw [hy.zp, hz.zp]
  have l1 := Nat.log2_self_le (show c ≠ 0 by omega)
  have l2 : c < 2 ^ (c.log2 + 1) := Nat.lt_log2_self
  generalize c.log2 = L at *
  apply propext
  rw [Int.ofNat_le, Nat.one_mul]
  constructor
  · intro h
    have h2 : c * 2 ^ (q + 1074).toNat < 2 ^ (L + 1) * 2 ^ (q + 1074).toNat := Nat.mul_lt_mul_of_pos_right l2 (Nat.two_pow_pos _)
    rw [← Nat.pow_add] at h2
    have h3 := (Nat.pow_lt_pow_iff_right (by decide : 1 < 2)).mp (Nat.lt_of_le_of_lt h h2)
    omega
  · intro h
    refine Nat.le_trans ?_ (Nat.mul_le_mul_right _ l1)
    rw [← Nat.pow_add]
    exact Nat.pow_le_pow_right (by decide) (by omega)
theorem log53 {c : Nat} (hc : 1 ≤ c) (h : c < 2 ^ 53) : c.log2 ≤ 52 := by
  have := (Nat.log2_lt (show c ≠ 0 by omega)).mpr h
  omega
/-- one: the real 2 to a power, the class's way -/
theorem two_s {s : Int} (h1 : -1074 ≤ s) (h2 : s ≤ 971) : ∃ z, fX11_scaled FP.dconst1 (Int32.ofInt s) = some z ∧ Ex z false 1 s := by
  obtain ⟨z, e1, e2⟩ := sc (p := s) ex_one (by decide) h1 h2 (by omega) (by omega) (by decide)
  rw [Int.zero_add] at e2
  exact ⟨z, e1, e2⟩
theorem i_hn {n : Nat} (h : n < 2147483648) : Int32.ofInt (n : Int) / (2 : Int32) = Int32.ofInt ((n / 2 : Nat) : Int) := by
  obtain ⟨e, -, f⟩ := i_half (p := (n : Int)) (by omega)
  rw [e, f (by omega)]
  congr 1
theorem i_pos {i : Int} (h : -2147483648 ≤ i ∧ i < 2147483648) : (Int32.ofInt i ≤ (0 : Int32)) = (i ≤ 0) := by rw [show (0 : Int32) = Int32.ofInt 0 from rfl, i_le (by omega) (by omega)]
theorem p2k (k : Nat) (h : k ≤ 9) : 2 ^ k ≤ 512 := by
  have := Nat.pow_le_pow_right (n := 2) (by decide) h
  omega
/-- scaling down: at the end the real is below 2 -/
theorem down {c : Nat} {q0 : Int} (hc : 1 ≤ c) (h53 : c < 2 ^ 53) (hq0 : -1074 ≤ q0 ∧ q0 ≤ 971) : ∀ (k f : Nat) (y : UInt64) (q p : Int), k ≤ 9 → k + 1 < f → Ex y false c q → q + p = q0 → -2000 ≤ p ∧ p ≤ 3000 → q ≤ 971 → (c.log2 : Int) + q < 2 ^ (k + 1) → ∃ y' q' p', fX11_bitsOf_l29 f y (Int32.ofInt p) (Int32.ofInt ((2 ^ k : Nat) : Int)) = fX11_bitsOf_l29 (f - (k + 1)) y' (Int32.ofInt p') (0 : Int32) ∧ Ex y' false c q' ∧ q' + p' = q0 ∧ q' ≤ 971 ∧ (c.log2 : Int) + q' < 1 ∧ (q' = q ∨ 0 ≤ (c.log2 : Int) + q') := by
  intro k
  have hL := log53 hc h53
  induction k with
  | zero =>
    intro f y q p hk hf hy hp hb hq hu
    obtain ⟨f, rfl⟩ : ∃ f', f = f' + 1 := ⟨f - 1, by omega⟩
    obtain ⟨z, z1, z2⟩ := two_s (s := 1) (by decide) (by decide)
    have bq := hy.1
    rw [fX11_bitsOf_l29, if_neg (by decide), show Int32.ofInt ((2 ^ 0 : Nat) : Int) = Int32.ofInt 1 from rfl, z1, ob_some]
    try simp only []
    obtain ⟨f1, -, -, -, -⟩ := cvZ (w := .l) hy.ne z2.ne
    have cm := cmp2 hy z2 hc
    simp only [f1]
    rw [show (Int32.ofInt 1) / (2 : Int32) = 0 by decide]
    by_cases d : Zv y < Zv z
    · rw [if_pos d]
      have d' : ¬ Zv z ≤ Zv y := by omega
      rw [cm] at d'
      exact ⟨y, q, p, rfl, hy, hp, hq, by omega, Or.inl rfl⟩
    · rw [if_neg d]
      have d' : Zv z ≤ Zv y := by omega
      rw [cm] at d'
      obtain ⟨y', w1, w2⟩ := sc (p := -1) hy h53 (by decide) (by decide) (by omega) (by omega) hq
      rw [show -Int32.ofInt 1 = Int32.ofInt (-1) from rfl, w1, ob_some, i_add]
      exact ⟨y', q + -1, p + 1, rfl, w2, by omega, by omega, by omega, Or.inr (by omega)⟩
  | succ k ih =>
    intro f y q p hk hf hy hp hb hq hu
    obtain ⟨f, rfl⟩ : ∃ f', f = f' + 1 := ⟨f - 1, by omega⟩
    have bq := hy.1
    have hP := p2k (k + 1) hk
    have hP1 := Nat.two_pow_pos k
    have eP : 2 ^ (k + 1) = 2 * 2 ^ k := by rw [Nat.pow_succ, Nat.mul_comm]
    have eI : (2 : Int) ^ (k + 1 + 1) = 2 * ((2 ^ (k + 1) : Nat) : Int) := by rw [Int.natCast_pow, pw2]; rfl
    have eI2 : (2 : Int) ^ (k + 1) = ((2 ^ (k + 1) : Nat) : Int) := by rw [Int.natCast_pow]; rfl
    rw [eI] at hu
    rw [eI2] at ih
    obtain ⟨z, z1, z2⟩ := two_s (s := ((2 ^ (k + 1) : Nat) : Int)) (by omega) (by omega)
    rw [fX11_bitsOf_l29, if_neg (by rw [i_pos (by omega)]; omega), z1, ob_some]
    try simp only []
    obtain ⟨f1, -, -, -, -⟩ := cvZ (w := .l) hy.ne z2.ne
    have cm := cmp2 hy z2 hc
    simp only [f1]
    rw [i_hn (by omega), show 2 ^ (k + 1) / 2 = 2 ^ k by omega]
    by_cases d : Zv y < Zv z
    · rw [if_pos d]
      have d' : ¬ Zv z ≤ Zv y := by omega
      rw [cm] at d'
      obtain ⟨y', q', p', r1, r2, r3, r4, r5, r6⟩ := ih f y q p (by omega) (by omega) hy hp hb hq (by omega)
      refine ⟨y', q', p', ?_, r2, r3, r4, r5, r6⟩
      rw [r1, show f - (k + 1) = f + 1 - (k + 1 + 1) by omega]
    · rw [if_neg d]
      have d' : Zv z ≤ Zv y := by omega
      rw [cm] at d'
      obtain ⟨y2, w1, w2⟩ := sc (p := -((2 ^ (k + 1) : Nat) : Int)) hy h53 (by omega) (by omega) (by omega) (by omega) hq
      rw [i_neg, w1, ob_some, i_add]
      obtain ⟨y', q', p', r1, r2, r3, r4, r5, r6⟩ := ih f y2 (q + -((2 ^ (k + 1) : Nat) : Int)) (p + ((2 ^ (k + 1) : Nat) : Int)) (by omega) (by omega) w2 (by omega) (by omega) (by omega) (by omega)
      refine ⟨y', q', p', ?_, r2, r3, r4, r5, ?_⟩
      · rw [r1, show f - (k + 1) = f + 1 - (k + 1 + 1) by omega]
      · rcases r6 with r6 | r6
        · exact Or.inr (by omega)
        · exact Or.inr r6
/-- scaling up: at the end the real is 1 or more -/
theorem upw {c : Nat} {q0 : Int} (hc : 1 ≤ c) (h53 : c < 2 ^ 53) (hq0 : -1074 ≤ q0 ∧ q0 ≤ 971) : ∀ (k f : Nat) (y : UInt64) (q p : Int), k ≤ 9 → k + 1 < f → Ex y false c q → q + p = q0 → -3000 ≤ p ∧ p ≤ 3000 → q ≤ 971 → (c.log2 : Int) + q < 1 → 1 ≤ (c.log2 : Int) + q + 2 ^ (k + 1) → ∃ y' q' p', fX11_bitsOf_l100 f y (Int32.ofInt p) (Int32.ofInt ((2 ^ k : Nat) : Int)) = fX11_bitsOf_l100 (f - (k + 1)) y' (Int32.ofInt p') (0 : Int32) ∧ Ex y' false c q' ∧ q' + p' = q0 ∧ q' ≤ 971 ∧ (c.log2 : Int) + q' = 0 := by
  intro k
  have hL := log53 hc h53
  induction k with
  | zero =>
    intro f y q p hk hf hy hp hb hq hu hl
    obtain ⟨f, rfl⟩ : ∃ f', f = f' + 1 := ⟨f - 1, by omega⟩
    obtain ⟨z, z1, z2⟩ := two_s (s := 0) (by decide) (by decide)
    have bq := hy.1
    rw [fX11_bitsOf_l100, if_neg (by decide), show (1 : Int32) - Int32.ofInt ((2 ^ 0 : Nat) : Int) = Int32.ofInt 0 from rfl, z1, ob_some]
    try simp only []
    obtain ⟨-, -, f1, -, -⟩ := cvZ (w := .g) hy.ne z2.ne
    have cm := cmp2 hy z2 hc
    simp only [f1]
    rw [show (Int32.ofInt ((2 ^ 0 : Nat) : Int)) / (2 : Int32) = 0 by decide]
    have hl : 1 ≤ (c.log2 : Int) + q + 2 := hl
    by_cases d : Zv z ≤ Zv y
    · rw [if_pos d]
      rw [cm] at d
      exact ⟨y, q, p, rfl, hy, hp, hq, by omega⟩
    · rw [if_neg d]
      rw [cm] at d
      obtain ⟨y', w1, w2⟩ := sc (p := 1) hy h53 (by decide) (by decide) (by omega) (by omega) hq
      rw [show Int32.ofInt ((2 ^ 0 : Nat) : Int) = Int32.ofInt 1 from rfl, w1, ob_some, i_sub]
      exact ⟨y', q + 1, p - 1, rfl, w2, by omega, by omega, by omega⟩
  | succ k ih =>
    intro f y q p hk hf hy hp hb hq hu hl
    obtain ⟨f, rfl⟩ : ∃ f', f = f' + 1 := ⟨f - 1, by omega⟩
    have bq := hy.1
    have hP := p2k (k + 1) hk
    have hP1 := Nat.two_pow_pos k
    have eP : 2 ^ (k + 1) = 2 * 2 ^ k := by rw [Nat.pow_succ, Nat.mul_comm]
    have eI : (2 : Int) ^ (k + 1 + 1) = 2 * ((2 ^ (k + 1) : Nat) : Int) := by rw [Int.natCast_pow, pw2]; rfl
    have eI2 : (2 : Int) ^ (k + 1) = ((2 ^ (k + 1) : Nat) : Int) := by rw [Int.natCast_pow]; rfl
    rw [eI] at hl
    rw [eI2] at ih
    obtain ⟨z, z1, z2⟩ := two_s (s := 1 - ((2 ^ (k + 1) : Nat) : Int)) (by omega) (by omega)
    rw [fX11_bitsOf_l100, if_neg (by rw [i_pos (by omega)]; omega), i_subr, z1, ob_some]
    try simp only []
    obtain ⟨-, -, f1, -, -⟩ := cvZ (w := .g) hy.ne z2.ne
    have cm := cmp2 hy z2 hc
    simp only [f1]
    rw [i_hn (by omega), show 2 ^ (k + 1) / 2 = 2 ^ k by omega]
    by_cases d : Zv z ≤ Zv y
    · rw [if_pos d]
      rw [cm] at d
      obtain ⟨y', q', p', r1, r2, r3, r4, r5⟩ := ih f y q p (by omega) (by omega) hy hp hb hq hu (by omega)
      refine ⟨y', q', p', ?_, r2, r3, r4, r5⟩
      rw [r1, show f - (k + 1) = f + 1 - (k + 1 + 1) by omega]
    · rw [if_neg d]
      rw [cm] at d
      obtain ⟨y2, w1, w2⟩ := sc (p := ((2 ^ (k + 1) : Nat) : Int)) hy h53 (by omega) (by omega) (by omega) (by omega) hq
      rw [w1, ob_some, i_sub]
      obtain ⟨y', q', p', r1, r2, r3, r4, r5⟩ := ih f y2 (q + ((2 ^ (k + 1) : Nat) : Int)) (p - ((2 ^ (k + 1) : Nat) : Int)) (by omega) (by omega) w2 (by omega) (by omega) (by omega) (by omega) (by omega)
      refine ⟨y', q', p', ?_, r2, r3, r4, r5⟩
      rw [r1, show f - (k + 1) = f + 1 - (k + 1 + 1) by omega]
theorem d2l_n {y : UInt64} {c M : Nat} {q : Int} (h : Ex y false c q) (hM : c * 2 ^ (q + 1074).toNat = M * 2 ^ 1074) (hb : M < 9223372036854775808) : FP.d2l y = Int64.ofInt (M : Int) := by
  have h1 := FP.Core.d2l_val h.ne
  have h2 : FP.Core.signed (FP.Core.sgn (FP.Core.val64 y)) (FP.Core.zmag FP.Core.b64 (FP.Core.val64 y) / FP.Core.one64) = (M : Int) := by
    obtain ⟨-, c', q', e1, e2⟩ := h
    rw [e1]
    show ((FP.Core.inUnits c' q' FP.Core.b64.qmin / FP.Core.one64 : Nat) : Int) = _
    rw [qm, e2]
    unfold FP.Core.inUnits FP.Core.one64
    rw [show q - -1074 = q + 1074 by omega, hM, Nat.mul_div_cancel _ (Nat.two_pow_pos _)]
  rw [← Int64.toInt_inj, tiJ (by omega) (by omega)]
  show (FP.Core.d2l y).toInt = _
  rw [h1, h2]
  omega
/-- the bits of a number, by its value -/
theorem bits_hi {x : UInt64} {c M : Nat} {q p : Int} (hx : Ex x false c q) (h1 : 2 ^ 52 ≤ M) (h2 : M < 2 ^ 53) (h3 : -1022 ≤ p) (h4 : p ≤ 1023) (hv : c * 2 ^ (q + 1074).toNat = M * 2 ^ (p + 1022).toNat) : x.toNat = (p + 1023).toNat * 2 ^ 52 + (M - 2 ^ 52) := by
  have e : (UInt64.ofNat ((p + 1023).toNat * 2 ^ 52 + (M - 2 ^ 52))).toNat = (p + 1023).toNat * 2 ^ 52 + (M - 2 ^ 52) := by
    rw [UInt64.toNat_ofNat']
    omega
  have h := Ex.bits (a := UInt64.ofNat ((p + 1023).toNat * 2 ^ 52 + (M - 2 ^ 52))) (c := c) (q := q) hx.1 (by rw [e]; omega) (by
    rw [e]
    unfold FP.Core.unitsOf FP.Core.inUnits
    rw [FP.Core.tails_b64, show ((p + 1023).toNat * 2 ^ 52 + (M - 2 ^ 52)) % 2 ^ 63 = (p + 1023).toNat * 2 ^ 52 + (M - 2 ^ 52) by omega, if_neg (by omega), show ((p + 1023).toNat * 2 ^ 52 + (M - 2 ^ 52)) % 2 ^ 52 = M - 2 ^ 52 by omega, show ((p + 1023).toNat * 2 ^ 52 + (M - 2 ^ 52)) / 2 ^ 52 - 1 = (p + 1022).toNat by omega, show 2 ^ 52 + (M - 2 ^ 52) = M by omega, show q - -1074 = q + 1074 by omega, hv])
  rw [e, decide_eq_false (by omega)] at h
  rw [hx.uq h rfl, e]
theorem bits_lo {x : UInt64} {c M : Nat} {q : Int} (hx : Ex x false c q) (h2 : M < 2 ^ 52) (hv : c * 2 ^ (q + 1074).toNat = M) : x.toNat = M := by
  have e : (UInt64.ofNat M).toNat = M := by
    rw [UInt64.toNat_ofNat']
    omega
  have h := Ex.bits (a := UInt64.ofNat M) (c := c) (q := q) hx.1 (by rw [e]; omega) (by
    rw [e]
    unfold FP.Core.unitsOf FP.Core.inUnits
    rw [FP.Core.tails_b64, show M % 2 ^ 63 = M by omega, if_pos h2, show q - -1074 = q + 1074 by omega, hv])
  rw [e, decide_eq_false (by omega)] at h
  rw [hx.uq h rfl, e]
theorem to_j {x : UInt64} {n : Nat} (h : x.toNat = n) : x.toInt64 = Int64.ofInt (n : Int) := j_nat h
theorem sra_n {M d : Nat} (hM : M < 2 ^ 53) (hd : d < 64) : Int64.ofInt (M : Int) >>> (Int64.ofInt (d : Int) &&& 63) = Int64.ofInt ((M / 2 ^ d : Nat) : Int) := by
  refine j_nat ?_
  show ((Int64.ofInt (M : Int)).toBitVec.sshiftRight ((Int64.ofInt (d : Int) &&& 63).toBitVec.smod 64#64).toNat).toNat = _
  have hm : (Int64.ofInt (M : Int)).toBitVec.msb = false := by rw [BitVec.msb_eq_decide, jn (by omega)]; exact decide_eq_false (by omega)
  rw [shl64 ⟨d, hd⟩, BitVec.toNat_sshiftRight_of_msb_false hm, jn (by omega), Nat.shiftRight_eq_div_pow]
theorem pow53 {c L : Nat} (l1 : 2 ^ L ≤ c) (l2 : c < 2 ^ (L + 1)) {k : Nat} (h : L + k = 52) : 2 ^ 52 ≤ c * 2 ^ k ∧ c * 2 ^ k < 2 ^ 53 := by
  constructor
  · have := Nat.mul_le_mul_right (2 ^ k) l1
    rwa [← Nat.pow_add, h] at this
  · have := Nat.mul_lt_mul_of_pos_right l2 (Nat.two_pow_pos k)
    rwa [← Nat.pow_add, show L + 1 + k = 53 by omega] at this
/-- the class's bits of a finite real above 0 -/
theorem bitsOf_pos {x : UInt64} {c : Nat} {q : Int} (hx : Ex x false c q) (hc : 1 ≤ c) (h53 : c < 2 ^ 53) (hq : q ≤ 971) : fX11_bitsOf_l29 FUx x (0 : Int32) (512 : Int32) = some x.toInt64 := by
  obtain ⟨F, hF⟩ : ∃ F, FUx = F := ⟨_, rfl⟩
  have hF' : F = 2000000 := by rw [← hF, FUx_eq]
  have bq := hx.1
  have hL := log53 hc h53
  have l1 := Nat.log2_self_le (show c ≠ 0 by omega)
  have l2 : c < 2 ^ (c.log2 + 1) := Nat.lt_log2_self
  rw [hF]
  obtain ⟨y, q1, p1, d1, d2, d3, d4, d5, d6⟩ := down (q0 := q) hc h53 ⟨bq, hq⟩ 9 F x q 0 (by decide) (by omega) hx (by omega) (by decide) hq (by omega)
  rw [show (0 : Int32) = Int32.ofInt 0 from rfl, show (512 : Int32) = Int32.ofInt ((2 ^ 9 : Nat) : Int) from rfl, d1]
  obtain ⟨f, hf⟩ : ∃ f, F - (9 + 1) = f + 1 := ⟨F - 11, by omega⟩
  obtain ⟨z, z1, z2⟩ := two_s (s := -511) (by decide) (by decide)
  rw [hf, fX11_bitsOf_l29, if_pos (by decide), show (-511 : Int32) = Int32.ofInt (-511) from rfl, z1, ob_some, hF]
  obtain ⟨-, -, f1, -, -⟩ := cvZ (w := .g) d2.ne z2.ne
  have cm := cmp2 d2 z2 hc
  have b1 := d2.1
  -- behind the step by 512
  have mid : ∃ y2 q2 p2, (if 0 ≤ (Op.cmpValue (FP.dcmp y z) .g) then fX11_bitsOf_l100 F y (Int32.ofInt p1) (512 : Int32) else (fX11_scaled y (512 : Int32)).bind fun r15 => let v17 := Int32.ofInt p1 + (-512 : Int32); fX11_bitsOf_l100 F r15 v17 (512 : Int32)) = fX11_bitsOf_l100 F y2 (Int32.ofInt p2) (Int32.ofInt ((2 ^ 9 : Nat) : Int)) ∧ Ex y2 false c q2 ∧ q2 + p2 = q ∧ q2 ≤ 971 ∧ (c.log2 : Int) + q2 < 1 ∧ 1 ≤ (c.log2 : Int) + q2 + 1024 := by
    simp only [f1, cm]
    by_cases g : -511 ≤ (c.log2 : Int) + q1
    · rw [if_pos g]
      exact ⟨y, q1, p1, rfl, d2, d3, d4, d5, by omega⟩
    · rw [if_neg g]
      obtain ⟨y', w1, w2⟩ := sc (p := 512) d2 h53 (by decide) (by decide) (by omega) (by omega) d4
      rw [show (512 : Int32) = Int32.ofInt 512 from rfl, w1, ob_some]
      try simp only []
      rw [i_neg, i_add]
      exact ⟨y', q1 + 512, p1 + -512, rfl, w2, by omega, by omega, by omega, by omega⟩
  obtain ⟨y2, q2, p2, m1, m2, m3, m4, m5, m6⟩ := mid
  rw [m1]
  have b2 := m2.1
  obtain ⟨y3, q3, p3, u1, u2', u3, u4, u5⟩ := upw (q0 := q) hc h53 ⟨bq, hq⟩ 9 F y2 q2 p2 (by decide) (by omega) m2 m3 (by omega) m4 m5 (by omega)
  rw [u1]
  obtain ⟨f2, hf2⟩ : ∃ f, F - (9 + 1) = f + 1 := ⟨F - 11, by omega⟩
  have b3 := u2'.1
  obtain ⟨y4, s1, s2⟩ := sc (p := 52) u2' h53 (by decide) (by decide) (by omega) (by omega) u4
  rw [hf2, fX11_bitsOf_l100, if_pos (by decide), show (52 : Int32) = Int32.ofInt 52 from rfl, s1, ob_some]
  try simp only []
  -- the digits
  obtain ⟨k, hk⟩ := Int.eq_ofNat_of_zero_le (show 0 ≤ q3 + 52 by omega)
  obtain ⟨M1, M2⟩ := pow53 l1 l2 (k := k) (by omega)
  have dl := d2l_n (M := c * 2 ^ k) s2 (by rw [Nat.mul_assoc, ← Nat.pow_add]; congr 2 <;> omega) (by omega)
  rw [dl, show (-1022 : Int32) = Int32.ofInt (-1022) from rfl]
  by_cases g : -1022 ≤ p3
  · rw [if_pos (by rw [i_le (by omega) (by omega)]; exact g)]
    have hv : c * 2 ^ (q + 1074).toNat = c * 2 ^ k * 2 ^ (p3 + 1022).toNat := by rw [Nat.mul_assoc, ← Nat.pow_add]; congr 2; omega
    have e := bits_hi hx M1 M2 g (by omega) hv
    rw [to_j e, i_w (by omega), j_addl, show p3 + 1023 = (((p3 + 1023).toNat : Nat) : Int) by omega, show Int32.toInt64 (Int32.ofInt 52) = Int64.ofInt ((52 : Nat) : Int) from rfl, j_shl (by decide) (by omega), t_and52, show (Int64.ofInt ((c * 2 ^ k : Nat) : Int)).toUInt64.toNat = c * 2 ^ k from jn (by omega), show c * 2 ^ k % 2 ^ 52 = c * 2 ^ k - 2 ^ 52 by omega, j_or (k := 52) (by omega) (by omega) (by omega)]
    congr 4
  · rw [if_neg (by rw [i_le (by omega) (by omega)]; exact g)]
    have h0 : 0 ≤ q + 1074 := by omega
    have hv : c * 2 ^ k = c * 2 ^ (q + 1074).toNat * 2 ^ (-1022 - p3).toNat := by rw [Nat.mul_assoc, ← Nat.pow_add]; congr 2; omega
    have hp := Nat.two_pow_pos (-1022 - p3).toNat
    have hd : c * 2 ^ k / 2 ^ (-1022 - p3).toNat = c * 2 ^ (q + 1074).toNat := by rw [hv, Nat.mul_div_cancel _ hp]
    have h2 : 2 ≤ 2 ^ (-1022 - p3).toNat := by
      have := Nat.pow_le_pow_right (n := 2) (by decide) (show 1 ≤ (-1022 - p3).toNat by omega)
      omega
    have h3 : c * 2 ^ (q + 1074).toNat < 2 ^ 52 := by
      have : c * 2 ^ (q + 1074).toNat * 2 ≤ c * 2 ^ (q + 1074).toNat * 2 ^ (-1022 - p3).toNat := Nat.mul_le_mul_left _ h2
      omega
    have e := bits_lo hx h3 rfl
    rw [to_j e, i_sub, i_w (by omega), show -1022 - p3 = (((-1022 - p3).toNat : Nat) : Int) by omega, sra_n M2 (by omega), hd]
