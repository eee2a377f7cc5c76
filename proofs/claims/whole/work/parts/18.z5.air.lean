/-! ===== minute: both airs ===== -/
theorem nIn {W : List (Nat × Nat)} {lo hi a k : Nat} (h : inW W (key a k) = false) (m : (lo, hi) ∈ W) (b : 114 < lo ∨ 4 < lo ∧ hi ≤ 114) : ¬ (lo ≤ a ∧ a < hi) := by
  intro q
  have e : key a k = a := by
    unfold key
    rw [if_neg (by omega), if_neg (by omega)]
  rw [e] at h
  have := inW_iff.mpr ⟨(lo, hi), m, q⟩
  rw [h] at this
  exact absurd this (by decide)
theorem amt {z : Int64} {yy : Int} (hy : 0 ≤ yy ∧ yy < 2147483648) : fXM_minJ (if 0 ≤ z then z else 0) (Int64.ofInt yy) = (z + (if 0 ≤ z then 0 else -z)) - (if (z + (if 0 ≤ z then 0 else -z)) ≤ Int64.ofInt yy then 0 else (z + (if 0 ≤ z then 0 else -z)) - Int64.ofInt yy) ∧ fXM_maxJ 0 ((if 0 ≤ z then z else 0) - Int64.ofInt yy) = (if (z + (if 0 ≤ z then 0 else -z)) ≤ Int64.ofInt yy then 0 else (z + (if 0 ≤ z then 0 else -z)) - Int64.ofInt yy) := by
  have e : z + (if 0 ≤ z then 0 else -z) = if 0 ≤ z then z else 0 := by
    by_cases c : 0 ≤ z
    · rw [if_pos c, if_pos c, Int64.add_zero]
    · rw [if_neg c, if_neg c, Int64.add_right_neg]
  rw [e]
  obtain ⟨m, m1, m2, em⟩ : ∃ m : Int, 0 ≤ m ∧ m < 9223372036854775808 ∧ (if 0 ≤ z then z else 0) = Int64.ofInt m := by
    obtain ⟨v, v1, v2, rfl⟩ := repJ z
    by_cases c : 0 ≤ v
    · exact ⟨v, c, v2, if_pos (by rw [j_ler (by omega)]; exact c)⟩
    · exact ⟨0, by omega, by omega, if_neg (by rw [j_ler (by omega)]; exact c)⟩
  rw [em, mnJ (by omega) (by omega), j_sub, show (0 : Int64) = Int64.ofInt 0 from rfl, mxJ (by omega) (by omega)]
  by_cases c : m ≤ yy
  · rw [if_pos (by rw [j_le (by omega) (by omega)]; exact c), j_sub, show min m yy = m by omega, show max 0 (m - yy) = 0 by omega, Int.sub_zero]
    exact ⟨rfl, rfl⟩
  · rw [if_neg (by rw [j_le (by omega) (by omega)]; exact c), j_sub, show min m yy = yy by omega, show max 0 (m - yy) = m - yy by omega, show m - (m - yy) = yy by omega]
    exact ⟨rfl, rfl⟩
/-- the air of a house, both ways -/
def AR (J J' : Nat → Nat → Int64) (h : Nat) : Prop := J (58 + h) 0 = J' 175 h ∧ J (58 + h) 1 = J' 176 h ∧ J (58 + h) 2 = J' 180 (6 * h) ∧ J (58 + h) 6 = J' 180 (6 * h + 1) ∧ J (58 + h) 7 = J' 180 (6 * h + 2) ∧ J (58 + h) 8 = J' 180 (6 * h + 3) ∧ J (58 + h) 9 = J' 180 (6 * h + 4) ∧ J (58 + h) 10 = J' 180 (6 * h + 5)
theorem air_L {σ : Shp} {R : Nat → Nat → Option Nat} {I I' : Nat → Nat → Int32} {J J' : Nat → Nat → Int64} {h : Nat} {a b c : Int} (hS : Skel σ R) (hh : h < 3) (w : ∀ k, k < 5 → I 61 k = I' 174 k) (wr : ∀ k, k < 5 → Rn (I' 174 k) (-40000) 60000) (ar : AR J J' h) (av : AV J I' h a b c) (tb : TBl I I') : ∃ I2 J2 I2' J2', gX4_changeAir σ I J R (Int32.ofInt (h : Int)) = some (I2, J2) ∧ gX12_breathe σ I' J' R (Int32.ofInt (h : Int)) = some (I2', J2') ∧ AR J2 J2' h ∧ AV J2 I2' h a b c ∧ TBl I2 I2' ∧ Ag [(27, 28), (38, 42)] I I2 ∧ Ag [(160, 165), (1000083, 1000084)] I' I2' ∧ (∀ a k, a ≠ 58 + h → J2 a k = J a k) ∧ (∀ a k, ¬ ((a = 175 ∨ a = 176) ∧ k = h) → ¬ (a = 180 ∧ 6 * h ≤ k ∧ k ≤ 6 * h + 5) → J2' a k = J' a k) := by
  obtain ⟨r0, r1, r2, r6, r7, r8, r9, r10⟩ := ar
  obtain ⟨j3, j4, j5, i7, i8, i9, ha, hb, hc⟩ := id av
  obtain ⟨w0, x1, x2, ew⟩ := wr 0 (by decide)
  have bd := tdb (p := w0) (B := 60000) (w := 8) (by omega)
  have C4 : Int32.toInt64 (I 61 0 / 8) + 5 * J (58 + h) 4 = Int64.ofInt (w0.tdiv 8 + 5 * b) := by
    rw [w 0 (by decide), ew, show (8 : Int32) = Int32.ofInt 8 from rfl, (idv (by omega) (by omega)).1, i_w (by omega), j4, j_mulr, j_add]
  have M4 : Int32.toInt64 (I' 174 0 / 8 + 5 * I' 178 h) = Int64.ofInt (w0.tdiv 8 + 5 * b) := by
    rw [ew, show (8 : Int32) = Int32.ofInt 8 from rfl, (idv (by omega) (by omega)).1, i8, i_mulr, i_add]
    exact i_w (by omega)
  have C8 : (J (58 + h) 0 - Int32.toInt64 (I 61 1)) * (2 + J (58 + h) 3) / 200 = (J' 175 h - Int32.toInt64 (I' 174 1)) * Int64.ofInt (2 + a) / 200 := by
    rw [r0, w 1 (by decide), j3, j_addr]
  have M8 : (J' 175 h - Int32.toInt64 (I' 174 1)) * Int32.toInt64 (2 + I' 177 h) / 200 = (J' 175 h - Int32.toInt64 (I' 174 1)) * Int64.ofInt (2 + a) / 200 := by
    rw [i7, i_addr, i_w (by omega)]
  have C14 : Int32.toInt64 (12 + I 61 0 / 50) = Int32.toInt64 (12 + I' 174 0 / 50) := by rw [w 0 (by decide)]
  have C17 : (J (58 + h) 1 - Int32.toInt64 (I 61 2)) * J (58 + h) 3 / 80 = (J' 176 h - Int32.toInt64 (I' 174 2)) * Int64.ofInt a / 80 := by
    rw [r1, w 2 (by decide), j3]
  have M17 : (J' 176 h - Int32.toInt64 (I' 174 2)) * Int32.toInt64 (I' 177 h) / 80 = (J' 176 h - Int32.toInt64 (I' 174 2)) * Int64.ofInt a / 80 := by
    rw [i7, i_w (by omega)]
  generalize Int64.ofInt (w0.tdiv 8 + 5 * b) = p4 at C4 M4
  generalize (J' 175 h - Int32.toInt64 (I' 174 1)) * Int64.ofInt (2 + a) / 200 = p8 at C8 M8
  generalize hp14 : Int32.toInt64 (12 + I' 174 0 / 50) = p14 at C14
  generalize (J' 176 h - Int32.toInt64 (I' 174 2)) * Int64.ofInt a / 80 = p17 at C17 M17
  obtain ⟨I2, I2', yy, hy, v1, v2, tb2, ag1, ag2⟩ := vapL (x := J' 175 h + (p4 - p8)) hS hh tb
  have ez : J (58 + h) 1 + p14 - p17 = J' 176 h + (p14 - p17) := by rw [r1, Int64.sub_eq_add_neg, Int64.sub_eq_add_neg, Int64.add_assoc]
  generalize hz : J' 176 h + (p14 - p17) = z at ez
  obtain ⟨J2, c1, c2, c3, c4, c5, c6, c7, c8, c9, c10, c11, c12, c13⟩ := airC hS hh C4 C8 C14 C17 ez rfl (by rw [r0]; exact v1)
  obtain ⟨J2', d1, d2, d3, d4, d5, d6, d7, d8, d9, d10⟩ := airM hh M4 M8 hp14 M17 hz rfl rfl v2
  have am := amt (z := z) hy
  refine ⟨I2, J2, I2', J2', c1, d1, ⟨?_, ?_, ?_, ?_, ?_, ?_, ?_, ?_⟩, ⟨?_, ?_, ?_, ?_, ?_, ?_, ha, hb, hc⟩, tb2, ag1, ag2, c13, d10⟩
  · rw [c2, d2, r0]
  · rw [c3, d3]; exact am.1
  · rw [c4, d4, r2, am.2]
  · rw [c8, d5, r6]
  · rw [c9, d6, r7]
  · rw [c10, d7, r8]
  · rw [c11, d8, r9]
  · rw [c12, d9, r10]
    by_cases q : 0 ≤ z
    · rw [if_pos q, if_pos q, Int64.add_zero]
    · rw [if_neg q, if_neg q, Int64.sub_eq_add_neg]
  · rw [c5]; exact j3
  · rw [c6]; exact j4
  · rw [c7]; exact j5
  · rw [ag2 177 h rfl]; exact i7
  · rw [ag2 178 h rfl]; exact i8
  · rw [ag2 179 h rfl]; exact i9
