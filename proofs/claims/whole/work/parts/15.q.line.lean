/-! ===== tables: a line's value ===== -/
theorem tdv {p w : Int} (hw : 0 < w) : p.tdiv w = if 0 ≤ p ∨ w ∣ p then p / w else p / w + 1 := by
  rw [Int.tdiv_eq_ediv, Int.sign_eq_one_of_pos hw]
  split <;> omega
theorem jdv {p w : Int} (hp : -4611686018427387904 ≤ p ∧ p < 4611686018427387904) (hw : 0 < w ∧ w < 4611686018427387904) : Int64.ofInt p / Int64.ofInt w = Int64.ofInt (p.tdiv w) ∧ -4611686018427387904 ≤ p.tdiv w ∧ p.tdiv w ≤ 4611686018427387904 := by
  have a := Int.natAbs_tdiv_le_natAbs p w
  have b : -4611686018427387904 ≤ p.tdiv w ∧ p.tdiv w ≤ 4611686018427387904 := by omega
  have h : Int64.ofInt p ≠ Int64.minValue := fun e => by
    have := congrArg Int64.toInt e
    rw [tiJ (by omega) (by omega), Int64.toInt_minValue] at this
    omega
  refine ⟨?_, b⟩
  rw [← Int64.toInt_inj, Int64.toInt_div_of_ne_left _ _ h, tiJ (i := p) (by omega) (by omega), tiJ (i := w) (by omega) (by omega), tiJ (by omega) (by omega)]
theorem xr0 {x y : Int64} (hy : 0 ≤ y.toInt) : (0 ≤ x ^^^ y) ↔ 0 ≤ x.toInt := by
  have m : ∀ z : Int64, (0 ≤ z) ↔ z.toBitVec.msb = false := fun z => by
    rw [BitVec.msb_eq_toInt, Int64.le_iff_toInt_le]
    show (0 : Int) ≤ z.toInt ↔ _
    rw [decide_eq_false_iff_not]
    show (0 : Int) ≤ z.toBitVec.toInt ↔ ¬ z.toBitVec.toInt < 0
    omega
  have e : ∀ z : Int64, (0 ≤ z.toInt) ↔ z.toBitVec.msb = false := fun z => by
    rw [← m z, Int64.le_iff_toInt_le]
    rfl
  rw [m, e, Int64.toBitVec_xor, BitVec.msb_xor, (e y).mp hy, Bool.xor_false]
theorem flo {p w : Int} (hp : -4611686018427387904 ≤ p ∧ p < 4611686018427387904) (hw : 0 < w ∧ w < 4611686018427387904) : fXM_floorDiv (Int64.ofInt p) (Int64.ofInt w) = some (Int64.ofInt (p / w)) ∧ fX12_down (Int64.ofInt p) (Int64.ofInt w) = some (Int64.ofInt (p / w)) := by
  obtain ⟨d, d1, d2⟩ := jdv hp hw
  have nz : ¬ Int64.ofInt w = 0 := by rw [j_eql (by omega)]; omega
  have t := tdv (p := p) hw.1
  have md := Int.emod_add_mul_ediv p w
  have m0 := Int.emod_nonneg p (show w ≠ 0 by omega)
  have m1 := Int.emod_lt_of_pos p hw.1
  have dv : w ∣ p ↔ p % w = 0 := Int.dvd_iff_emod_eq_zero
  have x := xr0 (x := Int64.ofInt p) (y := Int64.ofInt w) (by rw [tiJ (by omega) (by omega)]; omega)
  rw [tiJ (by omega) (by omega)] at x
  have mul : (p / w + 1) * w = w * (p / w) + w := by rw [Int.add_mul, Int.mul_comm, Int.one_mul]
  have mul0 : p / w * w = w * (p / w) := Int.mul_comm _ _
  constructor
  · unfold fXM_floorDiv
    rw [if_pos nz, d]
    dsimp only
    by_cases c : 0 ≤ p
    · rw [if_pos (x.mpr c), t, if_pos (Or.inl c)]
    · rw [if_neg (fun h => c (x.mp h)), j_mul]
      by_cases e : w ∣ p
      · rw [t, if_pos (Or.inr e), mul0]
        have e' := dv.mp e
        rw [if_pos (by rw [show w * (p / w) = p by omega])]
      · have e' : ¬ p % w = 0 := fun h => e (dv.mpr h)
        rw [t, if_neg (show ¬ (0 ≤ p ∨ w ∣ p) from fun h => h.elim c e), mul]
        rw [if_neg (fun h => by
          have := congrArg Int64.toInt h
          rw [tiJ (by omega) (by omega), tiJ (by omega) (by omega)] at this
          omega), j_subl, show p / w + 1 - 1 = p / w by omega]
  · unfold fX12_down
    rw [if_pos nz, d]
    dsimp only
    rw [j_mul, j_sub]
    by_cases c : 0 ≤ p ∨ w ∣ p
    · rw [t, if_pos c, mul0, if_pos (by rw [j_ler (by omega)]; omega)]
    · have e' : ¬ p % w = 0 := fun h => c (Or.inr (dv.mpr h))
      rw [t, if_neg c, mul, if_neg (by rw [j_ler (by omega)]; omega), j_subl, show p / w + 1 - 1 = p / w by omega]
def LnV (n : Nat) (X Y : Nat → Int) (x v : Int) : Prop := (n = 0 ∧ v = 0) ∨ (1 ≤ n ∧ X (n - 1) ≤ x ∧ v = Y (n - 1)) ∨ (1 ≤ n ∧ x < X 0 ∧ v = Y 0) ∨ (∃ k, k + 1 < n ∧ X k ≤ x ∧ x < X (k + 1) ∧ v = Y k + (Y (k + 1) - Y k) * (x - X k) / (X (k + 1) - X k))
theorem mono_le {X : Nat → Int} {n : Nat} (h : ∀ k, k + 1 < n → X k < X (k + 1)) : ∀ (u k : Nat), k + u < n → X k ≤ X (k + u) := by
  intro u
  induction u with
  | zero => intro k _; exact Int.le_refl _
  | succ u ih =>
    intro k hk
    have a := ih k (by omega)
    have b := h (k + u) (by omega)
    rw [show k + (u + 1) = k + u + 1 by omega]
    omega
theorem LnV.uq {n : Nat} {X Y : Nat → Int} {x v v' : Int} (h : ∀ k, k + 1 < n → X k < X (k + 1)) (a : LnV n X Y x v) (b : LnV n X Y x v') : v = v' := by
  have m : ∀ i j, i ≤ j → j < n → X i ≤ X j := fun i j h1 h2 => by
    have := mono_le h (j - i) i (by omega)
    rw [show i + (j - i) = j by omega] at this
    exact this
  rcases a with ⟨a1, a2⟩ | ⟨a1, a2, a3⟩ | ⟨a1, a2, a3⟩ | ⟨k, a1, a2, a3, a4⟩ <;> rcases b with ⟨b1, b2⟩ | ⟨b1, b2, b3⟩ | ⟨b1, b2, b3⟩ | ⟨j, b1, b2, b3, b4⟩
  · omega
  · omega
  · omega
  · omega
  · omega
  · omega
  · have := m 0 (n - 1) (by omega) (by omega); omega
  · have := m (j + 1) (n - 1) (by omega) (by omega); omega
  · omega
  · have := m 0 (n - 1) (by omega) (by omega); omega
  · omega
  · have := m 0 j (by omega) (by omega); omega
  · omega
  · have := m (k + 1) (n - 1) (by omega) (by omega); omega
  · have := m 0 k (by omega) (by omega); omega
  · have e : k = j := by
      rcases Nat.lt_trichotomy k j with q | q | q
      · have := m (k + 1) j (by omega) (by omega); omega
      · exact q
      · have := m (j + 1) k (by omega) (by omega); omega
    subst e
    rw [a4, b4]
