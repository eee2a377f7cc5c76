/-! ===== work: the greatest common divisor ===== -/
theorem modh {b r : Nat} (h : 0 < r) (h2 : r < b) : 2 * (b % r) < b := by
  have a := Nat.mod_lt b h
  have c := Nat.div_add_mod b r
  have d : 1 ≤ b / r := (Nat.one_le_div_iff h).mpr (by omega)
  have e : r * 1 ≤ r * (b / r) := Nat.mul_le_mul_left r d
  omega
theorem jrest {a b : Nat} (ha : a < 9223372036854775808) (hb : b < 9223372036854775808) : Int64.ofInt (a : Int) - Int64.ofInt (a : Int) / Int64.ofInt (b : Int) * Int64.ofInt (b : Int) = Int64.ofInt ((a % b : Nat) : Int) := by
  rw [j_div ha hb, j_mul, j_sub]
  congr 1
  have := Nat.div_add_mod a b
  have e : ((a / b : Nat) : Int) * (b : Int) = ((b * (a / b) : Nat) : Int) := by rw [Int.natCast_mul, Int.mul_comm]
  rw [e]
  omega
theorem jz0 : Int64.ofInt ((0 : Nat) : Int) = 0 := rfl
theorem j0 {b : Nat} (hb : b < 9223372036854775808) : (Int64.ofInt (b : Int) = 0) = (b = 0) := by
  rw [j_eql (by omega)]
  exact propext (by omega)
/-- the class's loop -/
theorem gcC : ∀ (k a b t n : Nat), a < 9223372036854775808 → b < 9223372036854775808 → b < 2 ^ k → t + 2 * k ≤ 198 → 2 * k + 2 ≤ n → fX2_commonDivisor_l15 n (Int64.ofInt (a : Int)) (Int64.ofInt (b : Int)) (Int32.ofInt (t : Int)) = some (Int64.ofInt ((Nat.gcd a b : Nat) : Int)) := by
  intro k
  induction k with
  | zero =>
    intro a b t n ha hb h1 h2 h3
    obtain ⟨n, rfl⟩ : ∃ m, n = m + 1 := ⟨n - 1, by omega⟩
    have : b = 0 := by simpa using h1
    subst this
    rw [fX2_commonDivisor_l15, if_neg (by rw [i_ler (by omega)]; omega), if_pos jz0, Nat.gcd_zero_right]
  | succ k ih =>
    intro a b t n ha hb h1 h2 h3
    obtain ⟨n, rfl⟩ : ∃ m, n = m + 2 := ⟨n - 2, by omega⟩
    have e1 : Int32.ofInt (t : Int) + 1 = Int32.ofInt ((t + 1 : Nat) : Int) := by rw [i_addl]; rfl
    have e2 : Int32.ofInt ((t + 1 : Nat) : Int) + 1 = Int32.ofInt ((t + 2 : Nat) : Int) := by rw [i_addl]; rfl
    by_cases c : b = 0
    · subst c
      rw [fX2_commonDivisor_l15, if_neg (by rw [i_ler (by omega)]; omega), if_pos jz0, Nat.gcd_zero_right]
    · have hr : a % b < b := Nat.mod_lt a (by omega)
      have nb : ¬ Int64.ofInt (b : Int) = 0 := by rw [j0 hb]; exact c
      have g1 : Nat.gcd a b = Nat.gcd b (a % b) := by rw [Nat.gcd_comm a b, Nat.gcd_rec b a, Nat.gcd_comm]
      rw [fX2_commonDivisor_l15, if_neg (by rw [i_ler (by omega)]; omega), if_neg nb, if_pos nb]
      dsimp only
      rw [jrest ha hb, e1, g1]
      by_cases d : a % b = 0
      · rw [d, fX2_commonDivisor_l15, if_neg (by rw [i_ler (by omega)]; omega), if_pos jz0, Nat.gcd_zero_right]
      · have nr : ¬ Int64.ofInt ((a % b : Nat) : Int) = 0 := by rw [j0 (by omega)]; exact d
        have hh := modh (b := b) (r := a % b) (by omega) hr
        have g2 : Nat.gcd b (a % b) = Nat.gcd (a % b) (b % (a % b)) := by rw [Nat.gcd_comm b (a % b), Nat.gcd_rec (a % b) b, Nat.gcd_comm]
        rw [fX2_commonDivisor_l15, if_neg (by rw [i_ler (by omega)]; omega), if_neg nr, if_pos nr]
        dsimp only
        rw [jrest hb (by omega), e2, g2]
        refine ih _ _ _ _ (by omega) (by omega) ?_ (by omega) (by omega)
        have : 2 ^ (k + 1) = 2 * 2 ^ k := by rw [Nat.pow_succ, Nat.mul_comm]
        omega
/-- the model's loop -/
theorem gcM : ∀ (k a b n : Nat), a < 9223372036854775808 → b < 9223372036854775808 → b < 2 ^ k → 2 * k + 2 ≤ n → fX12_common_l28 n (Int64.ofInt (a : Int)) (Int64.ofInt (b : Int)) = some (Int64.ofInt ((Nat.gcd a b : Nat) : Int)) := by
  intro k
  induction k with
  | zero =>
    intro a b n ha hb h1 h3
    obtain ⟨n, rfl⟩ : ∃ m, n = m + 1 := ⟨n - 1, by omega⟩
    have : b = 0 := by simpa using h1
    subst this
    rw [fX12_common_l28, if_pos jz0, Nat.gcd_zero_right]
  | succ k ih =>
    intro a b n ha hb h1 h3
    obtain ⟨n, rfl⟩ : ∃ m, n = m + 2 := ⟨n - 2, by omega⟩
    by_cases c : b = 0
    · subst c
      rw [fX12_common_l28, if_pos jz0, Nat.gcd_zero_right]
    · have hr : a % b < b := Nat.mod_lt a (by omega)
      have nb : ¬ Int64.ofInt (b : Int) = 0 := by rw [j0 hb]; exact c
      have g1 : Nat.gcd a b = Nat.gcd b (a % b) := by rw [Nat.gcd_comm a b, Nat.gcd_rec b a, Nat.gcd_comm]
      rw [fX12_common_l28, if_neg nb, if_pos nb]
      dsimp only
      rw [jrest ha hb, g1]
      by_cases d : a % b = 0
      · rw [d, fX12_common_l28, if_pos jz0, Nat.gcd_zero_right]
      · have nr : ¬ Int64.ofInt ((a % b : Nat) : Int) = 0 := by rw [j0 (by omega)]; exact d
        have hh := modh (b := b) (r := a % b) (by omega) hr
        have g2 : Nat.gcd b (a % b) = Nat.gcd (a % b) (b % (a % b)) := by rw [Nat.gcd_comm b (a % b), Nat.gcd_rec (a % b) b, Nat.gcd_comm]
        rw [fX12_common_l28, if_neg nr, if_pos nr]
        dsimp only
        rw [jrest hb (by omega), g2]
        refine ih _ _ _ (by omega) (by omega) ?_ (by omega)
        have : 2 ^ (k + 1) = 2 * 2 ^ k := by rw [Nat.pow_succ, Nat.mul_comm]
        omega
/-- ints whose products' sums don't pass a long -/
def Sm (x : Int) : Prop := -4611686018427387904 < x ∧ x < 4611686018427387904
theorem gdC {x y : Int} (hx : Sm x) (hy : Sm y) : fX2_commonDivisor (Int64.ofInt x) (Int64.ofInt y) = some (Int64.ofInt ((Int.gcd x y : Nat) : Int)) := by
  obtain ⟨F, hF⟩ : ∃ F, FUx = F := ⟨_, rfl⟩
  have hF' : F = 2000000 := by rw [← hF, FUx_eq]
  unfold Sm at hx hy
  have z : (0 : Int32) = Int32.ofInt ((0 : Nat) : Int) := rfl
  have ab : ∀ v : Int, (if 0 ≤ v then v else -v) = ((v.natAbs : Nat) : Int) := fun v => by split <;> omega
  unfold fX2_commonDivisor
  dsimp only
  rw [abJ (by omega), abJ (by omega), ab, ab, hF, z, gcC 62 _ _ _ _ (by omega) (by omega) (by omega) (by omega) (by omega)]
  rfl
theorem gdM {x y : Int} (hx : Sm x) (hy : Sm y) : fX12_common (Int64.ofInt x) (Int64.ofInt y) = some (Int64.ofInt ((Int.gcd x y : Nat) : Int)) := by
  obtain ⟨F, hF⟩ : ∃ F, FUx = F := ⟨_, rfl⟩
  have hF' : F = 2000000 := by rw [← hF, FUx_eq]
  unfold Sm at hx hy
  have go : ∀ a b : Nat, a = x.natAbs → b = y.natAbs → fX12_common_l28 F (Int64.ofInt (a : Int)) (Int64.ofInt (b : Int)) = some (Int64.ofInt ((Int.gcd x y : Nat) : Int)) := fun a b ea eb => by
    rw [gcM 62 _ _ _ (by omega) (by omega) (by omega) (by omega), ea, eb]
    rfl
  unfold fX12_common
  dsimp only
  rw [hF, j_neg, j_neg]
  by_cases c : 0 ≤ x
  · rw [if_pos (by rw [j_ler (by omega)]; exact c)]
    by_cases d : 0 ≤ y
    · rw [if_pos (by rw [j_ler (by omega)]; exact d)]
      have := go x.natAbs y.natAbs rfl rfl
      rwa [show ((x.natAbs : Nat) : Int) = x by omega, show ((y.natAbs : Nat) : Int) = y by omega] at this
    · rw [if_neg (by rw [j_ler (by omega)]; exact d)]
      have := go x.natAbs y.natAbs rfl rfl
      rwa [show ((x.natAbs : Nat) : Int) = x by omega, show ((y.natAbs : Nat) : Int) = -y by omega] at this
  · rw [if_neg (by rw [j_ler (by omega)]; exact c)]
    by_cases d : 0 ≤ y
    · rw [if_pos (by rw [j_ler (by omega)]; exact d)]
      have := go x.natAbs y.natAbs rfl rfl
      rwa [show ((x.natAbs : Nat) : Int) = -x by omega, show ((y.natAbs : Nat) : Int) = y by omega] at this
    · rw [if_neg (by rw [j_ler (by omega)]; exact d)]
      have := go x.natAbs y.natAbs rfl rfl
      rwa [show ((x.natAbs : Nat) : Int) = -x by omega, show ((y.natAbs : Nat) : Int) = -y by omega] at this
