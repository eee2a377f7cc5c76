/-! ===== compare ===== -/
theorem xor_max (x : BitVec 64) (h : 2 ^ 63 ≤ x.toNat) : (x ^^^ 9223372036854775807#64).toNat = 2 ^ 64 - 1 - (x.toNat - 2 ^ 63) := by
  rw [show (9223372036854775807#64) = 9223372036854775808#64 ^^^ BitVec.allOnes 64 by decide, ← BitVec.xor_assoc, BitVec.xor_allOnes, BitVec.toNat_not, BitVec.toNat_xor]
  show 2 ^ 64 - 1 - (x.toNat ^^^ 2 ^ 63) = _
  rw [(FP.xor_top (a := x.toNat) (k := 63) (by exact x.isLt)).2 h]
theorem okey (b : Int64) : fX11_orderKey b = Int64.ofInt (if b.toUInt64.toNat < 2 ^ 63 then (b.toUInt64.toNat : Int) else 2 ^ 63 - (b.toUInt64.toNat : Int) - 1) := by
  have hb := b.toUInt64.toNat_lt
  unfold fX11_orderKey
  have hs : (b >>> (Int32.toInt64 (63 : Int32) &&& 63)).toBitVec = b.toBitVec.sshiftRight 63 := rfl
  by_cases z : b.toUInt64.toNat < 2 ^ 63
  · rw [if_pos z]
    have hm : b.toBitVec.msb = false := by rw [BitVec.msb_eq_decide]; exact decide_eq_false (by show ¬ 2 ^ 63 ≤ b.toUInt64.toNat; omega)
    have e : (b >>> (Int32.toInt64 (63 : Int32) &&& 63)) &&& (9223372036854775807 : Int64) = Int64.ofInt ((0 : Nat) : Int) := by
      refine j_nat ?_
      rw [Int64.toBitVec_and, BitVec.toNat_and, hs, BitVec.toNat_sshiftRight_of_msb_false hm, Nat.shiftRight_eq_div_pow]
      show b.toUInt64.toNat / 2 ^ 63 &&& (2 ^ 63 - 1) = 0
      rw [Nat.and_two_pow_sub_one_eq_mod]
      omega
    rw [e]
    have e2 : b ^^^ Int64.ofInt ((0 : Nat) : Int) = b := Int64.toBitVec_inj.mp (by rw [Int64.toBitVec_xor]; exact BitVec.xor_zero)
    rw [e2]
    exact j_nat rfl
  · rw [if_neg z]
    have hm : b.toBitVec.msb = true := by rw [BitVec.msb_eq_decide]; exact decide_eq_true (by show 2 ^ 63 ≤ b.toUInt64.toNat; omega)
    have e : (b >>> (Int32.toInt64 (63 : Int32) &&& 63)) &&& (9223372036854775807 : Int64) = (9223372036854775807 : Int64) := by
      refine Int64.toBitVec_inj.mp (BitVec.eq_of_toNat_eq ?_)
      rw [Int64.toBitVec_and, BitVec.toNat_and, hs, BitVec.toNat_sshiftRight_of_msb_true hm, Nat.shiftRight_eq_div_pow]
      show (2 ^ 64 - 1 - (2 ^ 64 - 1 - b.toUInt64.toNat) / 2 ^ 63) &&& (2 ^ 63 - 1) = 2 ^ 63 - 1
      rw [Nat.and_two_pow_sub_one_eq_mod]
      omega
    rw [e]
    have e3 : (b ^^^ (9223372036854775807 : Int64)).toBitVec.toNat = 2 ^ 64 - 1 - (b.toUInt64.toNat - 2 ^ 63) := xor_max b.toBitVec (by show 2 ^ 63 ≤ b.toUInt64.toNat; omega)
    rw [← Int64.toInt_inj, tiJ (by omega) (by omega)]
    show (b ^^^ (9223372036854775807 : Int64)).toBitVec.toInt = _
    rw [BitVec.toInt_eq_toNat_cond, e3]
    rw [if_neg (by omega)]
    omega
/-- the key of a double's bits, -0.0 and 0.0 alike -/
def ky (b : Int64) : Int := FP.Core.dkey b.toUInt64
theorem ky_b (b : Int64) : -9223372036854775808 ≤ ky b ∧ ky b < 9223372036854775808 := by
  have hb := b.toUInt64.toNat_lt
  unfold ky FP.Core.dkey
  split <;> omega
theorem min_iff (b : Int64) : (b = (-9223372036854775808 : Int64)) = (b.toUInt64.toNat = 2 ^ 63) := by
  apply propext
  constructor
  · intro h; rw [h]; rfl
  · intro h
    exact Int64.toBitVec_inj.mp (BitVec.eq_of_toNat_eq h)
theorem one_k (b : Int64) : (if b = (-9223372036854775808 : Int64) then (0 : Int64) else fX11_orderKey b) = Int64.ofInt (if ky b < 0 then ky b - 1 else ky b) := by
  have hb := b.toUInt64.toNat_lt
  by_cases c : b = (-9223372036854775808 : Int64)
  · rw [if_pos c]
    rw [min_iff] at c
    have : ky b = 0 := by unfold ky FP.Core.dkey; rw [if_pos (by omega), c]; rfl
    rw [this]; rfl
  · rw [if_neg c, okey]
    rw [min_iff] at c
    congr 1
    unfold ky FP.Core.dkey
    by_cases z : b.toUInt64.toNat < 2 ^ 63
    · rw [if_pos z, if_neg (by omega), if_neg (by omega)]
    · rw [if_neg z, if_pos (by omega), if_pos (by omega)]
      omega
theorem flags {b1 b2 : Int64} {r1 r2 : UInt64} (h1 : isNum b1 ∧ r1 = b1.toUInt64 ∨ ¬ isNum b1 ∧ r1 = 9221120237041090560) (h2 : isNum b2 ∧ r2 = b2.toUInt64 ∨ ¬ isNum b2 ∧ r2 = 9221120237041090560) : (if 0 ≤ (Op.cmpValue (FP.dcmp r1 r2) .g) then if (Op.cmpValue (FP.dcmp r1 r2) .l) ≤ 0 then if (Op.cmpValue (FP.dcmp r1 r2) .l) = 0 then (26 : Int32) else 32 else 44 else 35) = fX11_flagsOf b1 b2 := by
  unfold fX11_flagsOf
  have q10 : ¬ (1 : Int32) = 0 := by decide
  rcases h1 with ⟨n1, rfl⟩ | ⟨n1, rfl⟩
  · rcases h2 with ⟨n2, rfl⟩ | ⟨n2, rfl⟩
    · rw [isn_T n1, isn_T n2, if_neg q10, if_neg q10]
      have e : ∀ s, (if b1 = (-9223372036854775808 : Int64) then if b2 = (-9223372036854775808 : Int64) then fX11_flagsOf_b51 0 0 else fX11_flagsOf_b51 0 (fX11_orderKey b2) else let v1 := (fX11_orderKey b1); if b2 = (-9223372036854775808 : Int64) then fX11_flagsOf_b51 v1 0 else fX11_flagsOf_b51 v1 (fX11_orderKey b2)) = s ↔ fX11_flagsOf_b51 (if b1 = (-9223372036854775808 : Int64) then (0 : Int64) else fX11_orderKey b1) (if b2 = (-9223372036854775808 : Int64) then (0 : Int64) else fX11_orderKey b2) = s := fun s => by
        by_cases q1 : b1 = (-9223372036854775808 : Int64) <;> by_cases q2 : b2 = (-9223372036854775808 : Int64) <;> simp only [q1, q2, if_true, if_false]
      refine Eq.symm ((e _).mpr ?_)
      rw [one_k, one_k]
      obtain ⟨f1, f2, f3, f4, f5⟩ := cv (w := .g) (num_ne n1) (num_ne n2)
      obtain ⟨g1, g2, g3, g4, g5⟩ := cv (w := .l) (num_ne n1) (num_ne n2)
      rw [show FP.Core.dkey b1.toUInt64 = ky b1 from rfl, show FP.Core.dkey b2.toUInt64 = ky b2 from rfl] at *
      simp only [f3, g2, g5]
      have k1 := ky_b b1
      have k2 := ky_b b2
      have l1 : ky b1 < 0 → -9223372036854775807 ≤ ky b1 := fun _ => by
        have hb := b1.toUInt64.toNat_lt
        have := n1
        rw [t_num] at this
        unfold ky FP.Core.dkey
        split <;> omega
      have l2 : ky b2 < 0 → -9223372036854775807 ≤ ky b2 := fun _ => by
        have hb := b2.toUInt64.toNat_lt
        have := n2
        rw [t_num] at this
        unfold ky FP.Core.dkey
        split <;> omega
      unfold fX11_flagsOf_b51
      generalize ky b1 = p at *
      generalize ky b2 = q at *
      have m1 : (if p < 0 then p - 1 else p) = (if q < 0 then q - 1 else q) ↔ p = q := by split <;> split <;> omega
      have m2 : (if q < 0 then q - 1 else q) ≤ (if p < 0 then p - 1 else p) ↔ q ≤ p := by split <;> split <;> omega
      have m3 : -9223372036854775808 ≤ (if p < 0 then p - 1 else p) ∧ (if p < 0 then p - 1 else p) < 9223372036854775808 := by split <;> omega
      have m4 : -9223372036854775808 ≤ (if q < 0 then q - 1 else q) ∧ (if q < 0 then q - 1 else q) < 9223372036854775808 := by split <;> omega
      have m5 := (j_eq m3 m4).trans (propext m1)
      have m6 := (j_le m4 m3).trans (propext m2)
      simp only [m5, m6]
      by_cases z1 : p = q
      · rw [if_pos z1, if_pos (by omega), if_pos (by omega), if_pos z1]
      · rw [if_neg z1]
        by_cases z2 : q ≤ p
        · rw [if_pos z2, if_pos z2, if_neg (by omega)]
        · rw [if_neg z2, if_neg z2]
    · rw [cvn (Or.inr nan_v), cvn (Or.inr nan_v), isn_T n1, isn_F n2, if_neg q10, if_pos rfl]
      decide
  · rw [cvn (Or.inl nan_v), cvn (Or.inl nan_v), isn_F n1, if_pos rfl]
    decide
/-- a cell's number, both sides -/
theorem dblr {j : Int} {v : Int64} (hj : j = 6 ∨ j = 7) (hv : j = 6 → Int32.toInt64 (Int64.toInt32 v) = v) : ∃ r, fX12_realOf (Int32.ofInt j) v = some r ∧ (isNum (fX11_doubleBits (Int32.ofInt j) v) ∧ r = (fX11_doubleBits (Int32.ofInt j) v).toUInt64 ∨ ¬ isNum (fX11_doubleBits (Int32.ofInt j) v) ∧ r = 9221120237041090560) := by
  unfold fX12_realOf fX11_doubleBits
  rcases hj with rfl | rfl
  · have s6 : Int32.ofInt 6 = 6 := rfl
    simp only [if_pos s6]
    have w := widF (Int64.toInt32 v)
    rw [hv rfl] at w
    rcases w with ⟨w1, w2⟩ | ⟨w1, w2⟩
    · rw [w2]; exact ⟨_, rfl, Or.inl ⟨w1, rfl⟩⟩
    · rw [w2, w1]; exact ⟨_, rfl, Or.inr ⟨not_num, rfl⟩⟩
  · have s7 : ¬ Int32.ofInt 7 = 6 := by decide
    simp only [if_neg s7]
    by_cases n : isNum v
    · rw [fromBits_num n]; exact ⟨_, rfl, Or.inl ⟨n, rfl⟩⟩
    · rw [fromBits_nan n]; exact ⟨_, rfl, Or.inr ⟨n, rfl⟩⟩
theorem k_95f {σ : Shp} {J : Nat → Nat → Int64} {R : Nat → Nat → Option Nat} {I : Nat → Nat → Int32} {x1 x3 x5 c : Int32} {x6 x7 : Option Nat} (hc : c ≠ 0) : gX11_compare_b95 σ J R I x1 x3 x5 x6 x7 c = some (fI I c, mfail c) := by
  unfold gX11_compare_b95; rw [if_neg hc, fail_r, ob_some]
theorem k_97f {σ : Shp} {J : Nat → Nat → Int64} {R : Nat → Nat → Option Nat} {I : Nat → Nat → Int32} {x1 x3 x5 x6 x7 c : Int32} (hc : c ≠ 0) : gX12_compare_b97 σ J R I x1 x3 x5 x6 x7 c = some (noI I c, mfail c) := by
  unfold gX12_compare_b97; rw [if_neg hc, no_r, ob_some]
/-- what is wrong with a cell, both sides -/
theorem look2 {G : Nat → Nat → Nat} {C : Nat → Int64} {N : Nat → Nat → Int32} {σ : Shp} {I : Nat → Nat → Int32} {J : Nat → Nat → Int64} {R : Nat → Nat → Option Nat} (hg : TSg G C N) (hc : TCl G C N σ I J R) (hm : TMo G C N I J) {x : Nat} {f k : Int} (hx : x ≤ G 10 0) (hf : 0 ≤ f ∧ f ≤ 7) (hq : x ≠ 0 → (G 1 x : Int) = f) (hk : -2147483648 ≤ k ∧ k < 2147483648) : (gX11_cellFault σ I R (pn G x) (Int32.ofInt f) (Int32.ofInt k) = some 0 ∧ gX12_looked I (Int32.ofInt x) (Int32.ofInt k) = some 0 ∧ (∀ c, gX12_looked (fI I c) (Int32.ofInt x) (Int32.ofInt k) = some 0) ∧ x ≠ 0 ∧ 0 ≤ k ∧ k < G 2 x) ∨ ∃ c : Int32, c ≠ 0 ∧ gX11_cellFault σ I R (pn G x) (Int32.ofInt f) (Int32.ofInt k) = some c ∧ (∀ d, gX12_looked (fI I d) (Int32.ofInt x) (Int32.ofInt k) = some c) := by
  have h0 := hg.1.1
  by_cases z : x = 0
  · subst z
    exact Or.inr ⟨1, by decide, k_cf0, fun _ => k_lo0⟩
  · obtain ⟨⟨a1, -⟩, ⟨b1, -⟩, -⟩ := hc.2.2.1 x (by omega) hx
    obtain ⟨-, m2, -⟩ := hm.2.2.1 x (by omega)
    have s1 := (hg.2.2.1 x (by omega) hx).2.2.2.1
    have hq := hq z
    obtain ⟨w1, w2, w3, w4, w5, w6, w7⟩ := th_row hg hc hm (t := x) (by omega) hx (by omega)
    rw [pn_1 (by omega)]
    rw [hq] at b1
    have m2' : ∀ c, fI I c 117 x = Int32.ofInt (G 2 x) := fun c => by rw [fI_o (by decide)]; exact m2
    by_cases c : 0 ≤ k ∧ k < G 2 x
    · exact Or.inl ⟨k_cfk a1 b1 w3 w2 w1 (by omega), k_lok ⟨by omega, by omega⟩ m2 (by omega), fun d => k_lok ⟨by omega, by omega⟩ (m2' d) (by omega), z, c.1, c.2⟩
    · exact Or.inr ⟨2, by decide, k_cf2 a1 b1 w3 w2 w1 (by omega), fun d => k_lo2 ⟨by omega, by omega⟩ (m2' d) (by omega)⟩
theorem k_95k {σ : Shp} {J : Nat → Nat → Int64} {R : Nat → Nat → Option Nat} {I : Nat → Nat → Int32} {x1 : Int32} {a b a' b' za zb : Nat} {k l : Int} (h1 : kdx σ a = 11) (h2 : R a 1 = some a') (h3 : kdx σ a' = 21) (h4 : lnx σ a' = za) (hk : 0 ≤ k ∧ k < za ∧ za ≤ 40) (g1 : kdx σ b = 11) (g2 : R b 1 = some b') (g3 : kdx σ b' = 21) (g4 : lnx σ b' = zb) (hl : 0 ≤ l ∧ l < zb ∧ zb ≤ 40) : gX11_compare_b95 σ J R I x1 (Int32.ofInt k) (Int32.ofInt l) (some a) (some b) 0 = some (I, fX11_flagsOf (fX11_doubleBits x1 (J a' k.toNat)) (fX11_doubleBits x1 (J b' l.toNat))) := by
  unfold gX11_compare_b95
  rw [if_pos rfl, onl_s, onl_s, if_pos h1, h2, ob_some, if_pos h3, h4, if_pos (by rw [i_gd (by omega)]; exact not_false), if_pos g1, g2, ob_some, if_pos g3, g4, if_pos (by rw [i_gd (by omega)]; exact not_false), i_tn (by omega), i_tn (by omega)]
theorem k_97k {σ : Shp} {J : Nat → Nat → Int64} {R : Nat → Nat → Option Nat} {I : Nat → Nat → Int32} {x1 : Int32} {x y sx sy : Nat} {k l : Int} {u v : Int64} {d1 d2 : UInt64} (hx : x < 4100) (hy : y < 4100) (h1 : I 118 x = Int32.ofInt (sx : Int)) (h2 : I 118 y = Int32.ofInt (sy : Int)) (hk : 0 ≤ k ∧ sx + k < 164000) (hl : 0 ≤ l ∧ sy + l < 164000) (hu : J 119 (sx + k.toNat) = u) (hv : J 119 (sy + l.toNat) = v) (e1 : fX12_realOf x1 u = some d1) (e2 : fX12_realOf x1 v = some d2) : gX12_compare_b97 σ J R I x1 (Int32.ofInt k) (Int32.ofInt l) (Int32.ofInt (x : Int)) (Int32.ofInt (y : Int)) 0 = some (I, if 0 ≤ (Op.cmpValue (FP.dcmp d1 d2) .g) then if (Op.cmpValue (FP.dcmp d1 d2) .l) ≤ 0 then if (Op.cmpValue (FP.dcmp d1 d2) .l) = 0 then (26 : Int32) else 32 else 44 else 35) := by
  have ex : ((sx : Int) + k).toNat = sx + k.toNat := by omega
  have ey : ((sy : Int) + l).toNat = sy + l.toNat := by omega
  unfold gX12_compare_b97
  rw [if_pos rfl, if_pos (by rw [i_gd (by omega)]; exact not_false), i_tn (by omega), Int.toNat_natCast, h1, i_add, if_pos (by rw [i_gd (by omega)]; exact not_false), i_tn (by omega), ex, hu, e1, ob_some, if_pos (by rw [i_gd (by omega)]; exact not_false), i_tn (by omega), Int.toNat_natCast, h2, i_add, if_pos (by rw [i_gd (by omega)]; exact not_false), i_tn (by omega), ey, hv, e2, ob_some]
  split
  · split
    · split <;> rfl
    · rfl
  · rfl
/-- what is left behind the bins -/
def CBc (σ : Shp) (J : Nat → Nat → Int64) (R : Nat → Nat → Option Nat) (I : Nat → Nat → Int32) (x1 x3 x5 : Int32) (v2 v4 : Option Nat) : Option ((Nat → Nat → Int32) × Int32) := (gX11_goesFor σ I v2 x1).bind fun r5 =>
      if r5 = 0 then
        some (fI I 4, mfail 4)
      else
        (gX11_goesFor σ I v4 x1).bind fun r10 =>
        if r10 = 0 then
          some (fI I 4, mfail 4)
        else
          (gX11_cellFault σ I R v2 x1 x3).bind fun r12 =>
          if r12 = 0 then
            (gX11_cellFault σ I R v4 x1 x5).bind fun r33 =>
            gX11_compare_b95 σ J R I x1 x3 x5 v2 v4 r33
          else
            gX11_compare_b95 σ J R I x1 x3 x5 v2 v4 r12
theorem cBc {σ : Shp} {J : Nat → Nat → Int64} {R : Nat → Nat → Option Nat} {I : Nat → Nat → Int32} {x1 x3 x5 : Int32} {i o : Int} (hi : 0 ≤ i ∧ i ≤ 15) (ho : 0 ≤ o ∧ o ≤ 15) : gX11_compare_b12 σ J R I x1 (Int32.ofInt i) x3 (Int32.ofInt o) x5 = CBc σ J R I x1 x3 x5 (R 6 i.toNat) (R 6 o.toNat) := by
  have q10 : ¬ (1 : Int32) = 0 := by decide
  unfold gX11_compare_b12 CBc
  rw [tX11_isBinT hi, if_neg q10, tX11_isBinT ho, if_neg q10, if_pos (by rw [i_gd (by omega)]; exact not_false), if_pos (by rw [i_gd (by omega)]; exact not_false), i_tn (by omega), i_tn (by omega)]
  simp only [fail_r, ob_some]
def CBm (σ : Shp) (J : Nat → Nat → Int64) (R : Nat → Nat → Option Nat) (I : Nat → Nat → Int32) (x1 x3 x5 v2 v4 : Int32) : Option ((Nat → Nat → Int32) × Int32) := (gX12_isOf I v2 x1).bind fun r5 =>
        if r5 = 0 then
          gX12_compare_b97 σ J R I x1 x3 x5 v2 v4 (4 : Int32)
        else
          (gX12_isOf I v4 x1).bind fun r20 =>
          if r20 = 0 then
            gX12_compare_b97 σ J R I x1 x3 x5 v2 v4 (4 : Int32)
          else
            (gX12_looked I v2 x3).bind fun r24 =>
            if r24 = 0 then
              (gX12_looked I v4 x5).bind fun r26 =>
              gX12_compare_b97 σ J R I x1 x3 x5 v2 v4 r26
            else
              gX12_compare_b97 σ J R I x1 x3 x5 v2 v4 r24
theorem cBm {σ : Shp} {J : Nat → Nat → Int64} {R : Nat → Nat → Option Nat} {I : Nat → Nat → Int32} {x3 x5 : Int32} {i o j : Int} (hj : j = 6 ∨ j = 7) (hi : 0 ≤ i ∧ i ≤ 15) (ho : 0 ≤ o ∧ o ≤ 15) : gX12_compare σ I J R (Int32.ofInt j) (Int32.ofInt i) x3 (Int32.ofInt o) x5 = CBm σ J R I (Int32.ofInt j) x3 x5 (I 115 i.toNat) (I 115 o.toNat) := by
  have q10 : ¬ (1 : Int32) = 0 := by decide
  have q40 : ((4 : Int32) = 0) = False := by decide
  unfold gX12_compare CBm
  rw [tX12_inT (by omega), if_neg q10, tX12_isBinT hi, if_neg q10, tX12_isBinT ho, if_neg q10, if_pos (by rw [i_gd (by omega)]; exact not_false), if_pos (by rw [i_gd (by omega)]; exact not_false), i_tn (by omega), i_tn (by omega)]
  simp only [q40, if_false]
theorem c_compare {σ : Shp} {I : Nat → Nat → Int32} {J : Nat → Nat → Int64} {R : Nat → Nat → Option Nat} {x1 x2 x3 x4 x5 : Int32} (hS : Skel σ R) (hn : nxx σ ≤ 900000) (hs : GScal I) (hT : GThing σ I J R) : Tot (gX11_compare σ I J R x1 x2 x3 x4 x5) (fun t => Tot (gX12_compare σ t.1 J R x1 x2 x3 x4 x5) (fun t2 => t.2 = t2.2 ∧ TOut σ I t2.1 J J R R)) := by
  obtain ⟨j, hj1, hj2, rfl⟩ := rep x1
  obtain ⟨i, hi1, hi2, rfl⟩ := rep x2
  obtain ⟨k, hk1, hk2, rfl⟩ := rep x3
  obtain ⟨o, ho1, ho2, rfl⟩ := rep x4
  obtain ⟨l, hl1, hl2, rfl⟩ := rep x5
  obtain ⟨G, C, N, hg, hc, hm⟩ := id hT
  have h40 := hg.1.1
  by_cases c1 : j = 6 ∨ j = 7
  case neg =>
    exact tt (I, -2) (I, -2) (by unfold gX11_compare; simp (disch := omega) only [fail_r, no_r, nob_r, fI_o, Nat.reduceLeDiff, ↓reduceIte, not_true_eq_false, not_false_eq_true, false_imp_iff, true_imp_iff, and_true, true_and, and_self, implies_true, false_or, or_false, true_or, or_true, d10, d01, d00, d11, g_tn, Tot_some, Tot_none, Tot_ite, Tot_bind, ob_some, onl_n, onl_s, nat32, Int.toNat_natCast, i_add, i_sub, i_mul, i_addl, i_addr, i_subl, i_subr, i_mulr, i_addn, i_gd, i_tn, i_w, i_ltlT, i_ltlF, i_ltrT, i_ltrF, i_lelT, i_lelF, i_lerT, i_lerF, i_eqlT, i_eqlF, i_eqrT, i_eqrF, i_ltnT, i_ltnF, i_lenT, i_lenF, i_eqnT, i_eqnF, i_ltT, i_ltF, i_leT, i_leF, i_eqT, i_eqF, j_ltlT, j_ltlF, j_ltrT, j_ltrF, j_lelT, j_lelF, j_lerT, j_lerF, j_eqlT, j_eqlF, j_ltT, j_ltF, j_leT, j_leF, j_eqT, j_eqF, i_mull, l_tn, l_lt0, l_ne0, nleF, tX11_isStockT, tX11_isStockF, tX11_isBinT, tX11_isBinF, tX11_isPlanT, tX11_isPlanF, tX11_isValveT, tX11_isValveF, tX11_isLaneT, tX11_isLaneF, tX11_isGridFormT, tX11_isGridFormF, tX11_isFormT, tX11_isFormF, tX11_isTrayFormT, tX11_isTrayFormF, tX11_isPlacesFormT, tX11_isPlacesFormF, tX11_isTableT, tX11_isTableF, tX11_isProbeT, tX11_isProbeF, tX11_isHouseT, tX11_isHouseF, tX11_isPestT, tX11_isPestF, tX11_isStageT, tX11_isStageF, tX11_isPartT, tX11_isPartF, tX12_isBinT, tX12_isBinF, tX12_isTableT, tX12_isTableF, tX12_inT, tX12_inF, tX12_innT, tX12_innF, tX12_ingT, tX12_ingF, tX12_isStageT, tX12_isStageF, tX1_isByteT, tX1_isByteF]) (by unfold gX12_compare; simp (disch := omega) only [fail_r, no_r, nob_r, fI_o, Nat.reduceLeDiff, ↓reduceIte, not_true_eq_false, not_false_eq_true, false_imp_iff, true_imp_iff, and_true, true_and, and_self, implies_true, false_or, or_false, true_or, or_true, d10, d01, d00, d11, g_tn, Tot_some, Tot_none, Tot_ite, Tot_bind, ob_some, onl_n, onl_s, nat32, Int.toNat_natCast, i_add, i_sub, i_mul, i_addl, i_addr, i_subl, i_subr, i_mulr, i_addn, i_gd, i_tn, i_w, i_ltlT, i_ltlF, i_ltrT, i_ltrF, i_lelT, i_lelF, i_lerT, i_lerF, i_eqlT, i_eqlF, i_eqrT, i_eqrF, i_ltnT, i_ltnF, i_lenT, i_lenF, i_eqnT, i_eqnF, i_ltT, i_ltF, i_leT, i_leF, i_eqT, i_eqF, j_ltlT, j_ltlF, j_ltrT, j_ltrF, j_lelT, j_lelF, j_lerT, j_lerF, j_eqlT, j_eqlF, j_ltT, j_ltF, j_leT, j_leF, j_eqT, j_eqF, i_mull, l_tn, l_lt0, l_ne0, nleF, tX11_isStockT, tX11_isStockF, tX11_isBinT, tX11_isBinF, tX11_isPlanT, tX11_isPlanF, tX11_isValveT, tX11_isValveF, tX11_isLaneT, tX11_isLaneF, tX11_isGridFormT, tX11_isGridFormF, tX11_isFormT, tX11_isFormF, tX11_isTrayFormT, tX11_isTrayFormF, tX11_isPlacesFormT, tX11_isPlacesFormF, tX11_isTableT, tX11_isTableF, tX11_isProbeT, tX11_isProbeF, tX11_isHouseT, tX11_isHouseF, tX11_isPestT, tX11_isPestF, tX11_isStageT, tX11_isStageF, tX11_isPartT, tX11_isPartF, tX12_isBinT, tX12_isBinF, tX12_isTableT, tX12_isTableF, tX12_inT, tX12_inF, tX12_innT, tX12_innF, tX12_ingT, tX12_ingF, tX12_isStageT, tX12_isStageF, tX1_isByteT, tX1_isByteF]) ⟨rfl, tout_rf hs hT⟩
  have cu : gX11_compare σ I J R (Int32.ofInt j) (Int32.ofInt i) (Int32.ofInt k) (Int32.ofInt o) (Int32.ofInt l) = gX11_compare_b12 σ J R I (Int32.ofInt j) (Int32.ofInt i) (Int32.ofInt k) (Int32.ofInt o) (Int32.ofInt l) := by
    unfold gX11_compare
    rcases c1 with rfl | rfl
    · exact if_pos rfl
    · exact (if_neg (by decide)).trans (if_pos rfl)
  by_cases c2 : 0 ≤ i ∧ i ≤ 15
  case neg =>
    exact tt (I, -2) (I, -2) (by rw [cu]; unfold gX11_compare_b12; simp (disch := omega) only [fail_r, no_r, nob_r, fI_o, Nat.reduceLeDiff, ↓reduceIte, not_true_eq_false, not_false_eq_true, false_imp_iff, true_imp_iff, and_true, true_and, and_self, implies_true, false_or, or_false, true_or, or_true, d10, d01, d00, d11, g_tn, Tot_some, Tot_none, Tot_ite, Tot_bind, ob_some, onl_n, onl_s, nat32, Int.toNat_natCast, i_add, i_sub, i_mul, i_addl, i_addr, i_subl, i_subr, i_mulr, i_addn, i_gd, i_tn, i_w, i_ltlT, i_ltlF, i_ltrT, i_ltrF, i_lelT, i_lelF, i_lerT, i_lerF, i_eqlT, i_eqlF, i_eqrT, i_eqrF, i_ltnT, i_ltnF, i_lenT, i_lenF, i_eqnT, i_eqnF, i_ltT, i_ltF, i_leT, i_leF, i_eqT, i_eqF, j_ltlT, j_ltlF, j_ltrT, j_ltrF, j_lelT, j_lelF, j_lerT, j_lerF, j_eqlT, j_eqlF, j_ltT, j_ltF, j_leT, j_leF, j_eqT, j_eqF, i_mull, l_tn, l_lt0, l_ne0, nleF, tX11_isStockT, tX11_isStockF, tX11_isBinT, tX11_isBinF, tX11_isPlanT, tX11_isPlanF, tX11_isValveT, tX11_isValveF, tX11_isLaneT, tX11_isLaneF, tX11_isGridFormT, tX11_isGridFormF, tX11_isFormT, tX11_isFormF, tX11_isTrayFormT, tX11_isTrayFormF, tX11_isPlacesFormT, tX11_isPlacesFormF, tX11_isTableT, tX11_isTableF, tX11_isProbeT, tX11_isProbeF, tX11_isHouseT, tX11_isHouseF, tX11_isPestT, tX11_isPestF, tX11_isStageT, tX11_isStageF, tX11_isPartT, tX11_isPartF, tX12_isBinT, tX12_isBinF, tX12_isTableT, tX12_isTableF, tX12_inT, tX12_inF, tX12_innT, tX12_innF, tX12_ingT, tX12_ingF, tX12_isStageT, tX12_isStageF, tX1_isByteT, tX1_isByteF]) (by unfold gX12_compare; simp (disch := omega) only [fail_r, no_r, nob_r, fI_o, Nat.reduceLeDiff, ↓reduceIte, not_true_eq_false, not_false_eq_true, false_imp_iff, true_imp_iff, and_true, true_and, and_self, implies_true, false_or, or_false, true_or, or_true, d10, d01, d00, d11, g_tn, Tot_some, Tot_none, Tot_ite, Tot_bind, ob_some, onl_n, onl_s, nat32, Int.toNat_natCast, i_add, i_sub, i_mul, i_addl, i_addr, i_subl, i_subr, i_mulr, i_addn, i_gd, i_tn, i_w, i_ltlT, i_ltlF, i_ltrT, i_ltrF, i_lelT, i_lelF, i_lerT, i_lerF, i_eqlT, i_eqlF, i_eqrT, i_eqrF, i_ltnT, i_ltnF, i_lenT, i_lenF, i_eqnT, i_eqnF, i_ltT, i_ltF, i_leT, i_leF, i_eqT, i_eqF, j_ltlT, j_ltlF, j_ltrT, j_ltrF, j_lelT, j_lelF, j_lerT, j_lerF, j_eqlT, j_eqlF, j_ltT, j_ltF, j_leT, j_leF, j_eqT, j_eqF, i_mull, l_tn, l_lt0, l_ne0, nleF, tX11_isStockT, tX11_isStockF, tX11_isBinT, tX11_isBinF, tX11_isPlanT, tX11_isPlanF, tX11_isValveT, tX11_isValveF, tX11_isLaneT, tX11_isLaneF, tX11_isGridFormT, tX11_isGridFormF, tX11_isFormT, tX11_isFormF, tX11_isTrayFormT, tX11_isTrayFormF, tX11_isPlacesFormT, tX11_isPlacesFormF, tX11_isTableT, tX11_isTableF, tX11_isProbeT, tX11_isProbeF, tX11_isHouseT, tX11_isHouseF, tX11_isPestT, tX11_isPestF, tX11_isStageT, tX11_isStageF, tX11_isPartT, tX11_isPartF, tX12_isBinT, tX12_isBinF, tX12_isTableT, tX12_isTableF, tX12_inT, tX12_inF, tX12_innT, tX12_innF, tX12_ingT, tX12_ingF, tX12_isStageT, tX12_isStageF, tX1_isByteT, tX1_isByteF]) ⟨rfl, tout_rf hs hT⟩
  by_cases c3 : 0 ≤ o ∧ o ≤ 15
  case neg =>
    exact tt (I, -2) (I, -2) (by rw [cu]; unfold gX11_compare_b12; simp (disch := omega) only [fail_r, no_r, nob_r, fI_o, Nat.reduceLeDiff, ↓reduceIte, not_true_eq_false, not_false_eq_true, false_imp_iff, true_imp_iff, and_true, true_and, and_self, implies_true, false_or, or_false, true_or, or_true, d10, d01, d00, d11, g_tn, Tot_some, Tot_none, Tot_ite, Tot_bind, ob_some, onl_n, onl_s, nat32, Int.toNat_natCast, i_add, i_sub, i_mul, i_addl, i_addr, i_subl, i_subr, i_mulr, i_addn, i_gd, i_tn, i_w, i_ltlT, i_ltlF, i_ltrT, i_ltrF, i_lelT, i_lelF, i_lerT, i_lerF, i_eqlT, i_eqlF, i_eqrT, i_eqrF, i_ltnT, i_ltnF, i_lenT, i_lenF, i_eqnT, i_eqnF, i_ltT, i_ltF, i_leT, i_leF, i_eqT, i_eqF, j_ltlT, j_ltlF, j_ltrT, j_ltrF, j_lelT, j_lelF, j_lerT, j_lerF, j_eqlT, j_eqlF, j_ltT, j_ltF, j_leT, j_leF, j_eqT, j_eqF, i_mull, l_tn, l_lt0, l_ne0, nleF, tX11_isStockT, tX11_isStockF, tX11_isBinT, tX11_isBinF, tX11_isPlanT, tX11_isPlanF, tX11_isValveT, tX11_isValveF, tX11_isLaneT, tX11_isLaneF, tX11_isGridFormT, tX11_isGridFormF, tX11_isFormT, tX11_isFormF, tX11_isTrayFormT, tX11_isTrayFormF, tX11_isPlacesFormT, tX11_isPlacesFormF, tX11_isTableT, tX11_isTableF, tX11_isProbeT, tX11_isProbeF, tX11_isHouseT, tX11_isHouseF, tX11_isPestT, tX11_isPestF, tX11_isStageT, tX11_isStageF, tX11_isPartT, tX11_isPartF, tX12_isBinT, tX12_isBinF, tX12_isTableT, tX12_isTableF, tX12_inT, tX12_inF, tX12_innT, tX12_innF, tX12_ingT, tX12_ingF, tX12_isStageT, tX12_isStageF, tX1_isByteT, tX1_isByteF]) (by unfold gX12_compare; simp (disch := omega) only [fail_r, no_r, nob_r, fI_o, Nat.reduceLeDiff, ↓reduceIte, not_true_eq_false, not_false_eq_true, false_imp_iff, true_imp_iff, and_true, true_and, and_self, implies_true, false_or, or_false, true_or, or_true, d10, d01, d00, d11, g_tn, Tot_some, Tot_none, Tot_ite, Tot_bind, ob_some, onl_n, onl_s, nat32, Int.toNat_natCast, i_add, i_sub, i_mul, i_addl, i_addr, i_subl, i_subr, i_mulr, i_addn, i_gd, i_tn, i_w, i_ltlT, i_ltlF, i_ltrT, i_ltrF, i_lelT, i_lelF, i_lerT, i_lerF, i_eqlT, i_eqlF, i_eqrT, i_eqrF, i_ltnT, i_ltnF, i_lenT, i_lenF, i_eqnT, i_eqnF, i_ltT, i_ltF, i_leT, i_leF, i_eqT, i_eqF, j_ltlT, j_ltlF, j_ltrT, j_ltrF, j_lelT, j_lelF, j_lerT, j_lerF, j_eqlT, j_eqlF, j_ltT, j_ltF, j_leT, j_leF, j_eqT, j_eqF, i_mull, l_tn, l_lt0, l_ne0, nleF, tX11_isStockT, tX11_isStockF, tX11_isBinT, tX11_isBinF, tX11_isPlanT, tX11_isPlanF, tX11_isValveT, tX11_isValveF, tX11_isLaneT, tX11_isLaneF, tX11_isGridFormT, tX11_isGridFormF, tX11_isFormT, tX11_isFormF, tX11_isTrayFormT, tX11_isTrayFormF, tX11_isPlacesFormT, tX11_isPlacesFormF, tX11_isTableT, tX11_isTableF, tX11_isProbeT, tX11_isProbeF, tX11_isHouseT, tX11_isHouseF, tX11_isPestT, tX11_isPestF, tX11_isStageT, tX11_isStageF, tX11_isPartT, tX11_isPartF, tX12_isBinT, tX12_isBinF, tX12_isTableT, tX12_isTableF, tX12_inT, tX12_inF, tX12_innT, tX12_innF, tX12_ingT, tX12_ingF, tX12_isStageT, tX12_isStageF, tX1_isByteT, tX1_isByteF]) ⟨rfl, tout_rf hs hT⟩
  rw [cu, cBc c2 c3]
  have q1 := hc.2.1 i.toNat (by omega)
  have q2 := hm.2.1 i.toNat (by omega)
  have q3 := hg.2.1 i.toNat (by omega)
  have r1 := hc.2.1 o.toNat (by omega)
  have r2 := hm.2.1 o.toNat (by omega)
  have r3 := hg.2.1 o.toNat (by omega)
  generalize G 9 i.toNat = x at *
  generalize G 9 o.toNat = y at *
  rw [q1, r1]
  have m1 : ∀ c, gX12_compare σ (fI I c) J R (Int32.ofInt j) (Int32.ofInt i) (Int32.ofInt k) (Int32.ofInt o) (Int32.ofInt l) = CBm σ J R (fI I c) (Int32.ofInt j) (Int32.ofInt k) (Int32.ofInt l) (Int32.ofInt (x : Int)) (Int32.ofInt (y : Int)) := fun c => by rw [cBm c1 c2 c3, fI_o (by decide), fI_o (by decide), q2, r2]
  have m0 : gX12_compare σ I J R (Int32.ofInt j) (Int32.ofInt i) (Int32.ofInt k) (Int32.ofInt o) (Int32.ofInt l) = CBm σ J R I (Int32.ofInt j) (Int32.ofInt k) (Int32.ofInt l) (Int32.ofInt (x : Int)) (Int32.ofInt (y : Int)) := by rw [cBm c1 c2 c3, q2, r2]
  have n4 : ¬ (4 : Int32) = 0 := by decide
  have n1 : ¬ (1 : Int32) = 0 := by decide
  have cf : ∀ c : Int32, CBc σ J R I (Int32.ofInt j) (Int32.ofInt k) (Int32.ofInt l) (pn G x) (pn G y) = some (fI I c, mfail c) → CBm σ J R (fI I c) (Int32.ofInt j) (Int32.ofInt k) (Int32.ofInt l) (Int32.ofInt (x : Int)) (Int32.ofInt (y : Int)) = some (noI (fI I c) c, mfail c) → Tot (CBc σ J R I (Int32.ofInt j) (Int32.ofInt k) (Int32.ofInt l) (pn G x) (pn G y)) (fun t => Tot (gX12_compare σ t.1 J R (Int32.ofInt j) (Int32.ofInt i) (Int32.ofInt k) (Int32.ofInt o) (Int32.ofInt l)) (fun t2 => t.2 = t2.2 ∧ TOut σ I t2.1 J J R R)) := fun c e1 e2 => tt (fI I c, mfail c) (noI (fI I c) c, mfail c) e1 ((m1 c).trans e2) ⟨rfl, tout_no hS hn hs hT⟩
  rcases goes_eq hg hc hm q3 (f := j) (by omega) with ⟨g1, g2, g3, g4⟩ | ⟨g1, g2, g3⟩
  case inr =>
    refine cf 4 ?_ ?_
    · unfold CBc
      rw [g1, ob_some, if_pos rfl]
    · unfold CBm
      rw [g2, ob_some, if_pos rfl, k_97f n4]
  rcases goes_eq hg hc hm r3 (f := j) (by omega) with ⟨h1, h2, h3, h4⟩ | ⟨h1, h2, h3⟩
  case inr =>
    refine cf 4 ?_ ?_
    · unfold CBc
      rw [g1, ob_some, if_neg n1, h1, ob_some, if_pos rfl]
    · unfold CBm
      rw [g2, ob_some, if_neg n1, h2, ob_some, if_pos rfl, k_97f n4]
  rcases look2 hg hc hm q3 (f := j) (k := k) (by omega) g4 (by omega) with ⟨s1, s2, s3, s4, s5, s6⟩ | ⟨c, n, s1, s2⟩
  case inr =>
    refine cf c ?_ ?_
    · unfold CBc
      rw [g1, ob_some, if_neg n1, h1, ob_some, if_neg n1, s1, ob_some, if_neg n, k_95f n]
    · unfold CBm
      rw [g2, ob_some, if_neg n1, h2, ob_some, if_neg n1, s2, ob_some, if_neg n, k_97f n]
  rcases look2 hg hc hm r3 (f := j) (k := l) (by omega) h4 (by omega) with ⟨t1, t2, t3, t4, t5, t6⟩ | ⟨c, n, t1, t2⟩
  case inr =>
    refine cf c ?_ ?_
    · unfold CBc
      rw [g1, ob_some, if_neg n1, h1, ob_some, if_neg n1, s1, ob_some, if_pos rfl, t1, ob_some, k_95f n]
    · unfold CBm
      rw [g2, ob_some, if_neg n1, h2, ob_some, if_neg n1, s3, ob_some, if_pos rfl, t2, ob_some, k_97f n]
  have sx : G 1 x ≤ 7 := by have := g4 s4; omega
  have sy : G 1 y ≤ 7 := by have := h4 t4; omega
  obtain ⟨w1, w2, w3, w4, w5, w6, w7⟩ := th_row hg hc hm (t := x) (by omega) q3 sx
  obtain ⟨v1, v2, v3, v4, v5, v6, v7⟩ := th_row hg hc hm (t := y) (by omega) r3 sy
  obtain ⟨⟨a1, -⟩, -⟩ := hc.2.2.1 x (by omega) q3
  obtain ⟨⟨b1, -⟩, -⟩ := hc.2.2.1 y (by omega) r3
  obtain ⟨-, -, y1, -⟩ := hm.2.2.1 x (by omega)
  obtain ⟨-, -, y2, -⟩ := hm.2.2.1 y (by omega)
  have px := w7 k.toNat (by omega)
  have py := v7 l.toNat (by omega)
  have ix : j = 6 → Int32.toInt64 (Int64.toInt32 (C (G 3 x + k.toNat))) = C (G 3 x + k.toNat) := fun q => hg.2.2.2.2.2.2.2 x (by omega) q3 (by have := g4 s4; omega) k.toNat (by omega)
  have iy : j = 6 → Int32.toInt64 (Int64.toInt32 (C (G 3 y + l.toNat))) = C (G 3 y + l.toNat) := fun q => hg.2.2.2.2.2.2.2 y (by omega) r3 (by have := h4 t4; omega) l.toNat (by omega)
  obtain ⟨d1, u1, u2'⟩ := dblr c1 ix
  obtain ⟨d2, u3, u4⟩ := dblr c1 iy
  have fl := flags u2' u4
  have p1 := pn_1 (G := G) (t := x) (by omega)
  have p2 := pn_1 (G := G) (t := y) (by omega)
  refine tt (I, fX11_flagsOf (fX11_doubleBits (Int32.ofInt j) (C (G 3 x + k.toNat))) (fX11_doubleBits (Int32.ofInt j) (C (G 3 y + l.toNat)))) (I, fX11_flagsOf (fX11_doubleBits (Int32.ofInt j) (C (G 3 x + k.toNat))) (fX11_doubleBits (Int32.ofInt j) (C (G 3 y + l.toNat)))) ?_ ?_ ⟨rfl, tout_rf hs hT⟩
  · unfold CBc
    rw [g1, ob_some, if_neg n1, h1, ob_some, if_neg n1, s1, ob_some, if_pos rfl, t1, ob_some, p1, p2, k_95k a1 w3 w2 w1 ⟨s5, s6, w5⟩ b1 v3 v2 v1 ⟨t5, t6, v5⟩, px.1, py.1]
  · rw [m0]
    unfold CBm
    rw [g3, ob_some, if_neg n1, h3, ob_some, if_neg n1, s2, ob_some, if_pos rfl, t2, ob_some, k_97k (by omega) (by omega) y1 y2 (by omega) (by omega) px.2 py.2 u1 u3, fl]
