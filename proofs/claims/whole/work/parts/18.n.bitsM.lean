/-! ===== doubles: the model's bits of a real ===== -/
theorem cself {x : UInt64} {w} (h : FP.Core.val64 x ≠ .nan) : Op.cmpValue (FP.dcmp x x) w = 0 := by
  rw [(cv (w := w) h h).2.2.2.2]
theorem val_two : FP.Core.val64 4611686018427387904 = .fin false (2 ^ 52) (-51) := by decide +kernel
theorem val_half : FP.Core.val64 4602678819172646912 = .fin false (2 ^ 52) (-53) := by decide +kernel
theorem dhalf {x : UInt64} (h : FP.Core.val64 x ≠ .nan) : FP.ddiv x 4611686018427387904 = FP.dmul x 4602678819172646912 := by
  have e : FP.Core.val64 (FP.Core.ddiv x 4611686018427387904) = FP.Core.val64 (FP.Core.dmul x 4602678819172646912) ∧ FP.Core.val64 (FP.Core.ddiv x 4611686018427387904) ≠ .nan := by
    rw [FP.Core.val64_ddiv, FP.Core.val64_dmul, val_two, val_half]
    cases hx : FP.Core.val64 x with
    | nan => exact absurd hx h
    | inf s => exact ⟨rfl, by intro z; cases z⟩
    | fin s c q =>
      constructor
      · show FP.Core.roundRatio FP.Core.b64 (s != false) c (2 ^ 52) (q - -51) = FP.Core.roundRatio FP.Core.b64 (s != false) (c * 2 ^ 52) 1 (q + -53)
        refine FP.Core.roundRatio_congr (by decide) (by decide) ?_
        rw [show (q - -51 - (q + -53)).toNat = 104 by omega, show (q + -53 - (q - -51)).toNat = 0 by omega]
        omega
      · exact FP.Core.roundRatio_ne_nan _ _ _ _ _
  exact FP.Core.val64_inj e.2 e.1
theorem fin_c {x : UInt64} (h : x.toNat < 9218868437227405312) : ∃ c q, Ex x false c q ∧ c < 2 ^ 53 ∧ q ≤ 971 ∧ (x.toNat ≠ 0 → 1 ≤ c) := by
  obtain ⟨s, c, q, e⟩ := (FP.Core.fin_bits x).mpr (by omega)
  have f := FP.Core.val64_fits x
  rw [e] at f
  have hs : s = false := by
    have := FP.Core.sign_bits (a := x) (s := s) (Or.inl ⟨c, q, e⟩)
    cases s with
    | false => rfl
    | true => have := this.mp rfl; omega
  subst hs
  have f1 := f.1
  have f2 := f.2.1
  have f3 := f.2.2.1
  rw [qm] at f2
  rw [qx] at f3
  refine ⟨c, q, ⟨f2, c, q, e, rfl⟩, f1, f3, fun z => ?_⟩
  refine Nat.pos_of_ne_zero fun c0 => z ?_
  subst c0
  have := (FP.Core.zero_bits2 x).mp ⟨false, q, e⟩
  omega
theorem zv_neg {x : UInt64} (h : FP.Core.val64 x ≠ .nan) : Zv (FP.dneg x) = - Zv x := by
  show FP.Core.zval FP.Core.b64 (FP.Core.val64 (FP.dneg x)) = - FP.Core.zval FP.Core.b64 (FP.Core.val64 x)
  rw [FP.val64_dneg, FP.Core.zval_negate]
/-- half of a finite number above 0 is another one -/
theorem half_ne {x : UInt64} {c : Nat} {q : Int} (hx : Ex x false c q) (hc : 1 ≤ c) (h53 : c < 2 ^ 53) (hq : q ≤ 971) : Zv (FP.dmul x 4602678819172646912) ≠ Zv x := by
  have bq := hx.1
  by_cases g : -1073 ≤ q
  · have h2 := hx.mul ex_half h53 (by omega) (by omega)
    rw [h2.zp, hx.zp]
    have e : c * 2 ^ (q + 1074).toNat = 2 * (c * 2 ^ (q + -1 + 1074).toNat) := by
      rw [show (q + 1074).toNat = (q + -1 + 1074).toNat + 1 by omega, Nat.pow_succ, Nat.mul_comm 2, Nat.mul_assoc]
    have hp : 0 < c * 2 ^ (q + -1 + 1074).toNat := Nat.mul_pos (by omega) (Nat.two_pow_pos _)
    rw [e]
    generalize c * 2 ^ (q + -1 + 1074).toNat = w at *
    omega
  · have q0 : q = -1074 := by omega
    subst q0
    obtain ⟨-, c1, q1, e1, e2⟩ := hx
    have f := FP.Core.val64_fits x
    rw [e1] at f
    have f2 := f.2.1
    rw [qm] at f2
    have v : FP.Core.val64 (FP.dmul x 4602678819172646912) = FP.Core.roundRatio FP.Core.b64 false c 1 (-1075) := by
      show FP.Core.val64 (FP.Core.dmul x 4602678819172646912) = _
      rw [FP.Core.val64_dmul, e1, val_half]
      show FP.Core.roundRatio FP.Core.b64 (false != false) (c1 * 2 ^ 52) 1 (q1 + -53) = _
      refine FP.Core.roundRatio_congr (by decide) (by decide) ?_
      unfold FP.Core.inUnits at e2
      rw [show (-1074 - -1074 : Int).toNat = 0 by decide, Nat.pow_zero, Nat.mul_one] at e2
      rw [← e2, Nat.mul_one, Nat.mul_one]
      by_cases z : 0 ≤ q1 + 1022
      · rw [show (q1 + -53 - -1075).toNat = (q1 + 1022).toNat by omega, show (-1075 - (q1 + -53)).toNat = 0 by omega, Nat.pow_zero, Nat.mul_one, Nat.mul_assoc, ← Nat.pow_add]
        congr 2
        omega
      · rw [show (q1 + -53 - -1075).toNat = 0 by omega, Nat.pow_zero, Nat.mul_one, Nat.mul_assoc, ← Nat.pow_add]
        congr 2
        omega
    have hx' : Zv x = (c : Int) := by
      show FP.Core.zval FP.Core.b64 (FP.Core.val64 x) = _
      rw [e1]
      show ((FP.Core.inUnits c1 q1 FP.Core.b64.qmin : Nat) : Int) = _
      rw [qm, e2]
      unfold FP.Core.inUnits
      simp
    have hy' : Zv (FP.dmul x 4602678819172646912) = ((FP.Core.zmag FP.Core.b64 (FP.Core.roundRatio FP.Core.b64 false c 1 (-1075)) : Nat) : Int) := by
      show FP.Core.zval FP.Core.b64 (FP.Core.val64 (FP.dmul x 4602678819172646912)) = _
      rw [v]
      unfold FP.Core.zval
      rw [FP.Core.sgn_roundRatio]
      rfl
    rw [hx', hy']
    by_cases c2 : c = 1
    · subst c2
      have := FP.Core.roundRatio_small FP.Core.good_b64 (s := false) (A := 1) (B := 1) (e := -1075) (e0 := -1075) (by decide) (by rw [qm]; decide) (by decide) (by rw [qm]; decide)
      rw [this]
      show ((FP.Core.inUnits 0 FP.Core.b64.qmin FP.Core.b64.qmin : Nat) : Int) ≠ _
      unfold FP.Core.inUnits
      simp
    · have h := FP.Core.zmag_roundRatio_le FP.Core.good_b64 (s := false) (A := c) (B := 1) (e := -1075) (e0 := -1075) (V := .fin false (c - 1) (-1074)) (by decide) ⟨by show c - 1 < 2 ^ 53; omega, by rw [qm]; decide, by rw [qx]; decide, Or.inl qm.symm⟩ (by intro z; cases z) (by rw [qm]; decide) (by decide) (by
        show c * 2 ^ (-1075 - -1075 : Int).toNat ≤ (c - 1) * 2 ^ (-1074 - FP.Core.b64.qmin).toNat * 2 ^ (FP.Core.b64.qmin - -1075).toNat * 1
        rw [qm, show (-1075 - -1075 : Int).toNat = 0 by decide, show (-1074 - -1074 : Int).toNat = 0 by decide, show (-1074 - -1075 : Int).toNat = 1 by decide]
        omega)
      have e3 : FP.Core.zmag FP.Core.b64 (.fin false (c - 1) (-1074)) = c - 1 := by
        show (c - 1) * 2 ^ (-1074 - FP.Core.b64.qmin).toNat = c - 1
        rw [qm, show (-1074 - -1074 : Int).toNat = 0 by decide, Nat.pow_zero, Nat.mul_one]
      rw [e3] at h
      omega
theorem ex_52 : Ex 4841369599423283200 false 1 52 := ⟨by decide, 2 ^ 52, 0, by decide +kernel, by decide +kernel⟩
theorem ex_53 : Ex 4845873199050653696 false 1 53 := ⟨by decide, 2 ^ 52, 1, by decide +kernel, by decide +kernel⟩
theorem mup {σ : Shp} {c : Nat} {q0 : Int} (hc : 1 ≤ c) (h53 : c < 2 ^ 53) : ∀ (m f : Nat) (I : Nat → Nat → Int32) (J : Nat → Nat → Int64) (y : UInt64) (q p : Int), m < f → Ex y false c q → q + p = q0 → I 114 134 = Int32.ofInt p → (m : Int) = p + 1074 → p ≤ 971 → (c.log2 : Int) + q < 53 → ∃ I' y' q' p', gX12_parted_l38 σ f I J (Int32.ofInt (-1074)) y = some (I', u2 J 114 133 (FP.d2l y')) ∧ Ex y' false c q' ∧ q' + p' = q0 ∧ I' 114 134 = Int32.ofInt p' ∧ Ag [(1000134, 1000135)] I I' ∧ -1074 ≤ p' ∧ p' ≤ 971 ∧ (c.log2 : Int) + q' < 53 ∧ (52 ≤ (c.log2 : Int) + q' ∨ p' = -1074) := by
  intro m
  induction m with
  | zero =>
    intro f I J y q p hf hy hp hI hm hb hu
    obtain ⟨f, rfl⟩ : ∃ f', f = f' + 1 := ⟨f - 1, by omega⟩
    rw [gX12_parted_l38]
    obtain ⟨-, -, f1, -, -⟩ := cvZ (w := .g) hy.ne ex_52.ne
    have cm := cmp2 hy ex_52 hc
    simp only [f1, cm]
    rw [hI]
    by_cases d : 52 ≤ (c.log2 : Int) + q
    · rw [if_pos d]
      exact ⟨I, y, q, p, rfl, hy, hp, hI, Ag.rf, by omega, hb, hu, Or.inl d⟩
    · rw [if_neg d, if_pos (by rw [i_le (by omega) (by omega)]; omega)]
      exact ⟨I, y, q, p, rfl, hy, hp, hI, Ag.rf, by omega, hb, hu, Or.inr (by omega)⟩
  | succ m ih =>
    intro f I J y q p hf hy hp hI hm hb hu
    obtain ⟨f, rfl⟩ : ∃ f', f = f' + 1 := ⟨f - 1, by omega⟩
    rw [gX12_parted_l38]
    obtain ⟨-, -, f1, -, -⟩ := cvZ (w := .g) hy.ne ex_52.ne
    have cm := cmp2 hy ex_52 hc
    simp only [f1, cm]
    rw [hI]
    have bq := hy.1
    by_cases d : 52 ≤ (c.log2 : Int) + q
    · rw [if_pos d]
      exact ⟨I, y, q, p, rfl, hy, hp, hI, Ag.rf, by omega, hb, hu, Or.inl d⟩
    · rw [if_neg d, if_neg (by rw [i_le (by omega) (by omega)]; omega), if_pos (gmul hy.fin ex_two.fin)]
      have hy2 := hy.mul ex_two h53 (by omega) (by omega)
      try simp only []
      obtain ⟨I', y', q', p', r1, r2, r3, r4, r5, r6⟩ := ih f (u2 I 114 134 (Int32.ofInt p - 1)) J _ (q + 1) (p - 1) (by omega) hy2 (by omega) (by rw [u2_self, i_subl]) (by omega) (by omega) (by omega)
      exact ⟨I', y', q', p', r1, r2, r3, r4, Ag.tr (Ag.st Ag.rf rfl) r5, r6⟩
theorem mdown {σ : Shp} {c : Nat} {q0 : Int} (hc : 1 ≤ c) (h53 : c < 2 ^ 53) (hq0 : -1074 ≤ q0 ∧ q0 ≤ 971) {F : Nat} (hF : FUx = F) : ∀ (m f : Nat) (I : Nat → Nat → Int32) (J : Nat → Nat → Int64) (y : UInt64) (q p : Int), m < f → Ex y false c q → q + p = q0 → I 114 134 = Int32.ofInt p → q ≤ (m : Int) → 0 ≤ p → p ≤ 971 → q ≤ 971 → ∃ I' y' q' p', gX12_parted_l8 σ f I J (Int32.ofInt (-1074)) y = some (I', u2 J 114 133 (FP.d2l y')) ∧ Ex y' false c q' ∧ q' + p' = q0 ∧ I' 114 134 = Int32.ofInt p' ∧ Ag [(1000134, 1000135)] I I' ∧ -1074 ≤ p' ∧ p' ≤ 971 ∧ (c.log2 : Int) + q' < 53 ∧ (52 ≤ (c.log2 : Int) + q' ∨ p' = -1074) := by
  have hF' : F = 2000000 := by rw [← hF, FUx_eq]
  have hL := log53 hc h53
  intro m
  induction m with
  | zero =>
    intro f I J y q p hf hy hp hI hm hb hb2 hq
    obtain ⟨f, rfl⟩ : ∃ f', f = f' + 1 := ⟨f - 1, by omega⟩
    rw [gX12_parted_l8]
    obtain ⟨f1, -, -, -, -⟩ := cvZ (w := .l) hy.ne ex_53.ne
    have cm := cmp2 hy ex_53 hc
    have d : Zv y < Zv 4845873199050653696 := by
      have : ¬ Zv 4845873199050653696 ≤ Zv y := by rw [cm]; omega
      omega
    simp only [f1]
    rw [if_pos d, hF]
    obtain ⟨mm, hmm⟩ := Int.eq_ofNat_of_zero_le (show 0 ≤ p + 1074 by omega)
    exact mup hc h53 mm F I J y q p (by omega) hy hp hI hmm.symm hb2 (by omega)
  | succ m ih =>
    intro f I J y q p hf hy hp hI hm hb hb2 hq
    obtain ⟨f, rfl⟩ : ∃ f', f = f' + 1 := ⟨f - 1, by omega⟩
    rw [gX12_parted_l8]
    obtain ⟨f1, -, -, -, -⟩ := cvZ (w := .l) hy.ne ex_53.ne
    have cm := cmp2 hy ex_53 hc
    simp only [f1]
    by_cases d : Zv y < Zv 4845873199050653696
    · rw [if_pos d, hF]
      have d' : ¬ Zv 4845873199050653696 ≤ Zv y := by omega
      rw [cm] at d'
      obtain ⟨mm, hmm⟩ := Int.eq_ofNat_of_zero_le (show 0 ≤ p + 1074 by omega)
      exact mup hc h53 mm F I J y q p (by omega) hy hp hI hmm.symm hb2 (by omega)
    · rw [if_neg d]
      have d' : Zv 4845873199050653696 ≤ Zv y := by omega
      rw [cm] at d'
      rw [dhalf hy.ne, if_pos (gmul hy.fin ex_half.fin)]
      have hy2 := hy.mul ex_half h53 (by omega) (by omega)
      try simp only []
      rw [hI, i_addl]
      obtain ⟨I', y', q', p', r1, r2, r3, r4, r5, r6⟩ := ih f (u2 I 114 134 (Int32.ofInt (p + 1))) J _ (q + -1) (p + 1) (by omega) hy2 (by omega) (by rw [u2_self]) (by omega) (by omega) (by omega) (by omega)
      exact ⟨I', y', q', p', r1, r2, r3, r4, Ag.tr (Ag.st Ag.rf rfl) r5, r6⟩
theorem dneg_n {x : UInt64} (h : 2 ^ 63 ≤ x.toNat) : (FP.dneg x).toNat = x.toNat - 2 ^ 63 := by
  rw [FP.dneg_xor, UInt64.toNat_xor]
  exact (FP.xor_top (a := x.toNat) (k := 63) x.toNat_lt).2 h
theorem dneg_p {x : UInt64} (h : x.toNat < 2 ^ 63) : (FP.dneg x).toNat = x.toNat + 2 ^ 63 := by
  rw [FP.dneg_xor, UInt64.toNat_xor]
  exact (FP.xor_top (a := x.toNat) (k := 63) x.toNat_lt).1 h
theorem or_min {y : UInt64} (h : y.toNat < 2 ^ 63) : y.toInt64 ||| (-9223372036854775808 : Int64) = Int64.ofInt ((y.toNat + 2 ^ 63 : Nat) : Int) := by
  refine j_nat ?_
  rw [Int64.toBitVec_or, BitVec.toNat_or]
  show y.toNat ||| 2 ^ 63 = _
  have := Nat.two_pow_add_eq_or_of_lt (i := 63) (b := y.toNat) h 1
  rw [Nat.mul_one] at this
  rw [Nat.or_comm, ← this, Nat.add_comm]
theorem or_min' {y : UInt64} (h : y.toNat < 2 ^ 63) : (-9223372036854775808 : Int64) ||| y.toInt64 = Int64.ofInt ((y.toNat + 2 ^ 63 : Nat) : Int) := by
  rw [← or_min h]
  exact Int64.toBitVec_inj.mp (by rw [Int64.toBitVec_or, Int64.toBitVec_or, BitVec.or_comm])
/-- the bits with the sign -/
def sgb (m : Int32) (y : UInt64) : Int64 := if m = 0 then y.toInt64 else y.toInt64 ||| (-9223372036854775808 : Int64)
theorem b57_pos {σ : Shp} {I : Nat → Nat → Int32} {J : Nat → Nat → Int64} {m : Int32} {y : UInt64} {c : Nat} {q : Int} (hy : Ex y false c q) (hc : 1 ≤ c) (h53 : c < 2 ^ 53) (hq : q ≤ 971) : ∃ I' J', gX12_bits_b57 σ I J m y (0 : Int64) = some (I', J', sgb m y) ∧ Ag [(1000133, 1000135)] I I' ∧ Ag [(1000133, 1000135)] J J' := by
  obtain ⟨F, hF⟩ : ∃ F, FUx = F := ⟨_, rfl⟩
  have hF' : F = 2000000 := by rw [← hF, FUx_eq]
  have hL := log53 hc h53
  have bq := hy.1
  have l1 := Nat.log2_self_le (show c ≠ 0 by omega)
  have l2 : c < 2 ^ (c.log2 + 1) := Nat.lt_log2_self
  obtain ⟨-, f1, -, -, -⟩ := cvZ (w := .l) hy.ne ex_zero.ne
  have hz : ¬ Zv y ≤ Zv FP.dconst0 := by
    rw [ex0_z, hy.zp]
    have : 0 < c * 2 ^ (q + 1074).toNat := Nat.mul_pos (by omega) (Nat.two_pow_pos _)
    omega
  obtain ⟨I', y', q', p', r1, r2, r3, r4, r5, r6, r7, r8, r9⟩ := mdown (σ := σ) (q0 := q) hc h53 ⟨bq, hq⟩ hF 971 F (u2 I 114 134 (0 : Int32)) J y q 0 (by omega) hy (by omega) (by rw [u2_self]; rfl) hq (by decide) (by decide) hq
  unfold gX12_bits_b57
  simp only [f1]
  rw [if_neg hz]
  unfold gX12_parted
  try simp only []
  rw [hF, show (-1074 : Int32) = Int32.ofInt (-1074) from rfl, r1, ob_some]
  have q0 : 0 ≤ q' := by rcases r9 with r9 | r9 <;> omega
  obtain ⟨k, rfl⟩ := Int.eq_ofNat_of_zero_le q0
  have M2 : c * 2 ^ k < 2 ^ 53 := by
    have := Nat.mul_lt_mul_of_pos_right l2 (Nat.two_pow_pos k)
    rw [← Nat.pow_add] at this
    exact Nat.lt_of_lt_of_le this (Nat.pow_le_pow_right (by decide) (by omega))
  have dl := d2l_n (M := c * 2 ^ k) r2 (by rw [Nat.mul_assoc, ← Nat.pow_add]; congr 2 <;> omega) (by omega)
  have aI : Ag [(1000133, 1000135)] I I' := Ag.tr (Ag.st Ag.rf rfl) (r5.mv rfl)
  have aJ : Ag [(1000133, 1000135)] J (u2 J 114 133 (FP.d2l y')) := Ag.st Ag.rf rfl
  refine ⟨I', u2 J 114 133 (FP.d2l y'), ?_, aI, aJ⟩
  simp only [u2_self]
  rw [r4, dl]
  have ej : ((4503599627370496 : Int64) ≤ Int64.ofInt ((c * 2 ^ k : Nat) : Int)) = (2 ^ 52 ≤ c * 2 ^ k) := by
    rw [show (4503599627370496 : Int64) = Int64.ofInt ((2 ^ 52 : Nat) : Int) from rfl, j_le (by omega) (by omega)]
    apply propext
    omega
  simp only [ej]
  by_cases g : 2 ^ 52 ≤ c * 2 ^ k
  · have hv : c * 2 ^ (q + 1074).toNat = c * 2 ^ k * 2 ^ (p' + 52 + 1022).toNat := by rw [Nat.mul_assoc, ← Nat.pow_add]; congr 2; omega
    have e := bits_hi hy g M2 (p := p' + 52) (by omega) (by omega) hv
    rw [if_pos g, i_addl, i_w (by omega), show Int32.toInt64 (52 : Int32) = Int64.ofInt ((52 : Nat) : Int) from rfl, show p' + 1075 = (((p' + 1075).toNat : Nat) : Int) by omega, j_shl (by decide) (by omega), t_and52, show (Int64.ofInt ((c * 2 ^ k : Nat) : Int)).toUInt64.toNat = c * 2 ^ k from jn (by omega), show c * 2 ^ k % 2 ^ 52 = c * 2 ^ k - 2 ^ 52 by omega, j_or (k := 52) (by omega) (by omega) (by omega)]
    have e2 : Int64.ofInt (((p' + 1075).toNat * 2 ^ 52 + (c * 2 ^ k - 2 ^ 52) : Nat) : Int) = y.toInt64 := by
      rw [to_j e, show (p' + 52 + 1023).toNat = (p' + 1075).toNat by omega]
    rw [e2]
    unfold sgb
    by_cases z : m = 0
    · rw [if_pos z, if_pos z]
    · rw [if_neg z, if_neg z]
  · have p0 : p' = -1074 := by
      rcases r9 with r9 | r9
      · exfalso
        apply g
        have := Nat.mul_le_mul_right (2 ^ k) l1
        rw [← Nat.pow_add] at this
        exact Nat.le_trans (Nat.pow_le_pow_right (by decide) (by omega)) this
      · exact r9
    have e := bits_lo hy (M := c * 2 ^ k) (by omega) (by congr 2 <;> omega)
    rw [if_neg g]
    have e2 : Int64.ofInt ((c * 2 ^ k : Nat) : Int) = y.toInt64 := (to_j e).symm
    rw [e2]
    unfold sgb
    by_cases z : m = 0
    · rw [if_pos z, if_pos z]
    · rw [if_neg z, if_neg z]
theorem isMinus_n {x : UInt64} (h : FP.Core.val64 x ≠ .nan) : fX12_isMinus x = some (if 2 ^ 63 ≤ x.toNat then 1 else 0) := by
  have hx := x.toNat_lt
  by_cases z1 : x.toNat = 0
  · rw [show x = 0 from UInt64.toNat.inj z1]; decide +kernel
  by_cases z2 : x.toNat = 2 ^ 63
  · rw [show x = 9223372036854775808 from UInt64.toNat.inj z2]; decide +kernel
  unfold fX12_isMinus
  obtain ⟨f1, -, -, -, -⟩ := cv (w := .g) h nan0
  obtain ⟨-, -, -, -, g1⟩ := cv (w := .l) h nan0
  simp only [f1, g1, ky0]
  by_cases s : 2 ^ 63 ≤ x.toNat
  · have kx : FP.Core.dkey x = ((2 ^ 63 : Nat) : Int) - (x.toNat : Int) := if_pos s
    rw [if_pos (by rw [kx]; omega), if_pos s]
  · have kx : FP.Core.dkey x = (x.toNat : Int) := if_neg s
    rw [if_neg (by rw [kx]; omega), if_neg (by rw [kx]; omega), if_neg s]
theorem b25_n {σ : Shp} {I : Nat → Nat → Int32} {J : Nat → Nat → Int64} {m : Int32} {y : UInt64} (hy : y.toNat ≤ 9218868437227405312) : ∃ I' J', gX12_bits_b25 σ I J m y = some (I', J', sgb m y) ∧ Ag [(1000133, 1000135)] I I' ∧ Ag [(1000133, 1000135)] J J' := by
  by_cases z1 : y.toNat = 0
  · have : y = 0 := UInt64.toNat.inj z1
    subst this
    refine ⟨I, J, ?_, Ag.rf, Ag.rf⟩
    unfold gX12_bits_b25 gX12_bits_b57 sgb
    have : Op.cmpValue (FP.dcmp 0 FP.dconst0) .l ≤ 0 := by decide +kernel
    rw [if_pos this, if_pos this]
    by_cases z : m = 0
    · rw [if_pos z, if_pos z]; rfl
    · rw [if_neg z, if_neg z]; rfl
  by_cases z2 : y.toNat = 9218868437227405312
  · have : y = 9218868437227405312 := UInt64.toNat.inj z2
    subst this
    refine ⟨I, J, ?_, Ag.rf, Ag.rf⟩
    unfold gX12_bits_b25 sgb
    rw [if_neg (by decide +kernel), if_pos (by decide +kernel), if_pos (by decide +kernel)]
    by_cases z : m = 0
    · rw [if_pos z, if_pos z]; rfl
    · rw [if_neg z, if_neg z]; rfl
  obtain ⟨c, q, h1, h2, h3, h4⟩ := fin_c (x := y) (by omega)
  have hc := h4 z1
  obtain ⟨I', J', e1, e2⟩ := b57_pos (σ := σ) (I := I) (J := J) (m := m) h1 hc h2 h3
  refine ⟨I', J', ?_, e2⟩
  obtain ⟨-, f1, -, -, -⟩ := cvZ (w := .l) h1.ne ex_zero.ne
  unfold gX12_bits_b25
  simp only [f1]
  by_cases z : Zv y ≤ Zv FP.dconst0
  · rw [if_pos z]; exact e1
  · rw [if_neg z, dhalf h1.ne, if_pos (gmul h1.fin ex_half.fin)]
    have hm := nn_to (gmul h1.fin ex_half.fin)
    obtain ⟨-, -, -, -, g1⟩ := cvZ (w := .l) hm h1.ne
    simp only [g1]
    rw [if_neg (half_ne h1 hc h2 h3)]
    exact e1
/-- the model's bits are the bits -/
theorem bits_m {σ : Shp} {I : Nat → Nat → Int32} {J : Nat → Nat → Int64} {x : UInt64} (h : FP.Core.val64 x ≠ .nan) : ∃ I' J', gX12_bits σ I J x = some (I', J', x.toInt64) ∧ Ag [(1000133, 1000135)] I I' ∧ Ag [(1000133, 1000135)] J J' := by
  have hx := x.toNat_lt
  have hn := (FP.Core.ne_nan x).mp h
  unfold gX12_bits
  rw [if_pos (cself h), isMinus_n h, ob_some]
  by_cases z : 2 ^ 63 ≤ x.toNat
  · rw [if_pos z, if_neg (by decide)]
    have e := dneg_n z
    obtain ⟨I', J', e1, e2⟩ := b25_n (σ := σ) (I := I) (J := J) (m := 1) (y := FP.dneg x) (by rw [e]; omega)
    refine ⟨I', J', ?_, e2⟩
    rw [e1]
    unfold sgb
    rw [if_neg (by decide), or_min (by rw [e]; omega), e, show x.toNat - 2 ^ 63 + 2 ^ 63 = x.toNat by omega]
    rw [← to_j (x := x) rfl]
  · rw [if_neg z, if_pos rfl]
    obtain ⟨I', J', e1, e2⟩ := b25_n (σ := σ) (I := I) (J := J) (m := 0) (y := x) (by omega)
    exact ⟨I', J', by rw [e1]; rfl, e2⟩
theorem bits_nan {σ : Shp} {I : Nat → Nat → Int32} {J : Nat → Nat → Int64} : gX12_bits σ I J 9221120237041090560 = some (I, J, 9221120237041090560) := by
  unfold gX12_bits
  rw [if_neg (by decide +kernel)]
