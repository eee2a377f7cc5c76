/-! ===== work: the witness ===== -/
theorem lcm_e (M l : Nat) : M / Nat.gcd M l * l = Nat.lcm M l := by
  unfold Nat.lcm
  rw [Nat.mul_comm M l, Nat.mul_div_assoc l (Nat.gcd_dvd_left M l), Nat.mul_comm]
theorem mulL {σ : Shp} {R : Nat → Nat → Option Nat} {J J' : Nat → Nat → Int64} {r D : Nat} {l : Nat → Nat} (hr : r < 3) (hL : ∀ j, j < 3 → J (84 + r) (5 + j) = Int64.ofInt (l j : Int) ∧ J' 190 (8 * r + (5 + j)) = Int64.ofInt (l j : Int)) (l0 : ∀ j, j < 3 → 0 < l j) (hD : 0 < D ∧ D ≤ 20000) (lD : ∀ j, j < 3 → l j ∣ D) : ∀ (t c n m M : Nat), c + t = 3 → t < n → t < m → 0 < M → M ∣ D → (∀ j, j < c → l j ∣ M) → ∃ M' : Nat, 0 < M' ∧ M' ∣ D ∧ (∀ j, j < 3 → l j ∣ M') ∧ gX2_tellWitness_l5 σ R n J (Int32.ofInt (r : Int)) (Int64.ofInt (M : Int)) (Int32.ofInt (c : Int)) = gX2_tellWitness_l63 σ R FUx J (Int32.ofInt (r : Int)) (Int64.ofInt (M' : Int)) 0 0 ∧ gX12_makeWitness_l5 σ R m J' (Int32.ofInt (r : Int)) (Int64.ofInt (M : Int)) (Int32.ofInt (c : Int)) = gX12_makeWitness_l54 σ R FUx J' (Int32.ofInt (r : Int)) (Int64.ofInt (M' : Int)) 0 0 0 := by
  obtain ⟨F, hF⟩ : ∃ F, FUx = F := ⟨_, rfl⟩
  rw [hF]
  have gr : ¬ (Int32.ofInt (r : Int) < 0 ∨ 3 ≤ Int32.toNatClampNeg (Int32.ofInt (r : Int))) := by rw [i_gd (by omega)]; exact id
  have nr : Int32.toNatClampNeg (Int32.ofInt (r : Int)) = r := by rw [i_tn (by omega), Int.toNat_natCast]
  intro t
  induction t with
  | zero =>
    intro c n m M h1 h2 h3 h4 h5 h6
    obtain ⟨n, rfl⟩ : ∃ m, n = m + 1 := ⟨n - 1, by omega⟩
    obtain ⟨m, rfl⟩ : ∃ j, m = j + 1 := ⟨m - 1, by omega⟩
    refine ⟨M, h4, h5, fun j hj => h6 j (by omega), ?_, ?_⟩
    · rw [gX2_tellWitness_l5, if_pos (by rw [i_ler (by omega)]; omega), hF]
    · rw [gX12_makeWitness_l5, if_pos (by rw [i_ler (by omega)]; omega), hF]
  | succ t ih =>
    intro c n m M h1 h2 h3 h4 h5 h6
    obtain ⟨n, rfl⟩ : ∃ m, n = m + 1 := ⟨n - 1, by omega⟩
    obtain ⟨m, rfl⟩ : ∃ j, m = j + 1 := ⟨m - 1, by omega⟩
    have hc : c < 3 := by omega
    have e5 : (5 : Int32) + Int32.ofInt (c : Int) = Int32.ofInt ((5 + c : Nat) : Int) := by rw [i_addr]; rfl
    have g5 : ¬ (Int32.ofInt ((5 + c : Nat) : Int) < 0 ∨ 8 ≤ Int32.toNatClampNeg (Int32.ofInt ((5 + c : Nat) : Int))) := by rw [i_gd (by omega)]; exact id
    have n5 : Int32.toNatClampNeg (Int32.ofInt ((5 + c : Nat) : Int)) = 5 + c := by rw [i_tn (by omega), Int.toNat_natCast]
    have ei : (8 : Int32) * Int32.ofInt (r : Int) + (5 : Int32) + Int32.ofInt (c : Int) = Int32.ofInt ((8 * r + (5 + c) : Nat) : Int) := by
      rw [i_mulr, i_addl, i_add]
      congr 1
      rw [Int.natCast_add, Int.natCast_mul, Int.natCast_add]
      omega
    have gi : ¬ (Int32.ofInt ((8 * r + (5 + c) : Nat) : Int) < 0 ∨ 24 ≤ Int32.toNatClampNeg (Int32.ofInt ((8 * r + (5 + c) : Nat) : Int))) := by rw [i_gd (by omega)]; exact id
    have ni : Int32.toNatClampNeg (Int32.ofInt ((8 * r + (5 + c) : Nat) : Int)) = 8 * r + (5 + c) := by rw [i_tn (by omega), Int.toNat_natCast]
    have ec : Int32.ofInt (c : Int) + 1 = Int32.ofInt ((c + 1 : Nat) : Int) := by rw [i_addl]; rfl
    have bM := Nat.le_of_dvd hD.1 h5
    have bl := Nat.le_of_dvd hD.1 (lD c hc)
    have sM : Sm (M : Int) := by unfold Sm; omega
    have sl : Sm (l c : Int) := by unfold Sm; omega
    have gp : 0 < Nat.gcd M (l c) := Nat.gcd_pos_of_pos_left _ h4
    have gb : Nat.gcd M (l c) ≤ M := Nat.le_of_dvd h4 (Nat.gcd_dvd_left _ _)
    have z : ¬ Int64.ofInt ((Nat.gcd M (l c) : Nat) : Int) = 0 := by rw [j_eql (by omega)]; omega
    have gC : fX2_commonDivisor (Int64.ofInt (M : Int)) (Int64.ofInt (l c : Int)) = some (Int64.ofInt ((Nat.gcd M (l c) : Nat) : Int)) := gdC sM sl
    have gM : fX12_common (Int64.ofInt (M : Int)) (Int64.ofInt (l c : Int)) = some (Int64.ofInt ((Nat.gcd M (l c) : Nat) : Int)) := gdM sM sl
    have nx : Int64.ofInt (M : Int) / Int64.ofInt ((Nat.gcd M (l c) : Nat) : Int) * Int64.ofInt (l c : Int) = Int64.ofInt ((Nat.lcm M (l c) : Nat) : Int) := by
      rw [j_div (by omega) (by omega), j_mul, ← lcm_e, Int.natCast_mul]
    have l5 : Nat.lcm M (l c) ∣ D := Nat.lcm_dvd h5 (lD c hc)
    obtain ⟨M', a1, a2, a3, a4, a5⟩ := ih (c + 1) n m (Nat.lcm M (l c)) (by omega) (by omega) (by omega) (Nat.pos_of_dvd_of_pos l5 hD.1) l5 (fun j hj => by
      by_cases e : j = c
      · rw [e]; exact Nat.dvd_lcm_right _ _
      · exact Nat.dvd_trans (h6 j (by omega)) (Nat.dvd_lcm_left _ _))
    refine ⟨M', a1, a2, a3, ?_, ?_⟩
    · rw [gX2_tellWitness_l5, if_neg (by rw [i_ler (by omega)]; omega), if_pos gr, e5, if_pos g5, nr, n5, (hL c hc).1]
      dsimp only
      rw [gC, ob_some, if_neg z, if_pos z, nx, ec]
      exact a4
    · rw [gX12_makeWitness_l5, if_neg (by rw [i_ler (by omega)]; omega), ei, if_pos gi, ni, (hL c hc).2]
      dsimp only
      rw [gM, ob_some, if_pos z, nx, ec]
      exact a5
def gG (y : Nat → Int) : Nat → Nat
  | 0 => 0
  | n + 1 => Int.gcd (gG y n : Int) (y n)
def sS (y : Nat → Int) : Nat → Int
  | 0 => 0
  | n + 1 => if sS y n = 0 then y n else sS y n
theorem gG_b {y : Nat → Int} {B : Nat} (h : ∀ j, j < 3 → (y j).natAbs ≤ B) : ∀ n, n ≤ 3 → gG y n ≤ B ∧ (sS y n).natAbs ≤ B := by
  intro n
  induction n with
  | zero => exact fun _ => ⟨Nat.zero_le _, Nat.zero_le _⟩
  | succ n ih =>
    intro hn
    obtain ⟨i1, i2⟩ := ih (by omega)
    have b := h n (by omega)
    constructor
    · show Int.gcd (gG y n : Int) (y n) ≤ B
      by_cases z : y n = 0
      · rw [z, Int.gcd_zero_right]
        omega
      · have := Nat.le_of_dvd (by omega) (Int.gcd_dvd_natAbs_right (gG y n : Int) (y n))
        omega
    · show (if sS y n = 0 then y n else sS y n).natAbs ≤ B
      split
      · exact b
      · exact i2
theorem gG_0 {y : Nat → Int} : ∀ n, gG y n = 0 → ∀ j, j < n → y j = 0 := by
  intro n
  induction n with
  | zero => exact fun _ j hj => by omega
  | succ n ih =>
    intro h j hj
    have h' : Int.gcd (gG y n : Int) (y n) = 0 := h
    obtain ⟨a, b⟩ := Int.gcd_eq_zero_iff.mp h'
    by_cases e : j = n
    · rw [e]; exact b
    · exact ih (by omega) j (by omega)
theorem sS_st {y : Nat → Int} {n : Nat} (h : sS y n ≠ 0) : ∀ k, sS y (n + k) = sS y n := by
  intro k
  induction k with
  | zero => rfl
  | succ k ih =>
    show (if sS y (n + k) = 0 then y (n + k) else sS y (n + k)) = sS y n
    rw [ih, if_neg h]
theorem fsg {σ : Shp} {R : Nat → Nat → Option Nat} {J : Nat → Nat → Int64} {y : Nat → Int} (hJ : ∀ j, j < 3 → J 90 j = Int64.ofInt (y j)) (by' : ∀ j, j < 3 → Sm (y j)) : ∀ (t c n : Nat), c + t = 3 → t < n → sS y c = 0 → gX2_firstSign_l2 σ J R n (Int32.ofInt (c : Int)) = some (if 0 ≤ sS y 3 then 1 else -1) := by
  intro t
  induction t with
  | zero =>
    intro c n h1 h2 h3
    obtain ⟨n, rfl⟩ : ∃ m, n = m + 1 := ⟨n - 1, by omega⟩
    obtain rfl : c = 3 := by omega
    rw [gX2_firstSign_l2, if_pos (by rw [i_ler (by omega)]; omega), h3]
    rfl
  | succ t ih =>
    intro c n h1 h2 h3
    obtain ⟨n, rfl⟩ : ∃ m, n = m + 1 := ⟨n - 1, by omega⟩
    have hc : c < 3 := by omega
    have gc : ¬ (Int32.ofInt (c : Int) < 0 ∨ 3 ≤ Int32.toNatClampNeg (Int32.ofInt (c : Int))) := by rw [i_gd (by omega)]; exact id
    have nc : Int32.toNatClampNeg (Int32.ofInt (c : Int)) = c := by rw [i_tn (by omega), Int.toNat_natCast]
    have ec : Int32.ofInt (c : Int) + 1 = Int32.ofInt ((c + 1 : Nat) : Int) := by rw [i_addl]; rfl
    have b := by' c hc
    unfold Sm at b
    have s1 : sS y (c + 1) = y c := by
      show (if sS y c = 0 then y c else sS y c) = y c
      rw [if_pos h3]
    rw [gX2_firstSign_l2, if_neg (by rw [i_ler (by omega)]; omega), if_pos gc, nc, hJ c hc]
    by_cases z : y c = 0
    · rw [if_pos (by rw [j_eql (by omega)]; exact z)]
      dsimp only
      rw [ec]
      exact ih (c + 1) n (by omega) (by omega) (s1.trans z)
    · rw [if_neg (by rw [j_eql (by omega)]; exact z)]
      have s3 : sS y 3 = y c := by
        have := sS_st (y := y) (n := c + 1) (by rw [s1]; exact z) t
        rw [show c + 1 + t = 3 by omega, s1] at this
        exact this
      rw [s3]
      by_cases w : 0 ≤ y c
      · rw [if_pos (by rw [j_ler (by omega)]; exact w), if_pos w]
      · rw [if_neg (by rw [j_ler (by omega)]; exact w), if_neg w]
theorem dv157 {σ : Shp} {R : Nat → Nat → Option Nat} {y : Nat → Int} {w : Int} (hw : Sm w) (w0 : w ≠ 0) (by' : ∀ j, j < 3 → Sm (y j)) : ∀ (t c n : Nat) (J : Nat → Nat → Int64), c + t = 3 → t < n → (∀ j, c ≤ j → j < 3 → J 90 j = Int64.ofInt (y j)) → ∃ J', gX2_tellWitness_l157 σ R n J (Int64.ofInt w) (Int32.ofInt (c : Int)) = some J' ∧ (∀ j, c ≤ j → j < 3 → J' 90 j = Int64.ofInt ((y j).tdiv w)) ∧ (∀ a j, ¬ (a = 90 ∧ c ≤ j) → J' a j = J a j) := by
  have z : ¬ Int64.ofInt w = 0 := by unfold Sm at hw; rw [j_eql (by omega)]; exact w0
  intro t
  induction t with
  | zero =>
    intro c n J h1 h2 h3
    obtain ⟨n, rfl⟩ : ∃ m, n = m + 1 := ⟨n - 1, by omega⟩
    exact ⟨J, by rw [gX2_tellWitness_l157, if_pos (by rw [i_ler (by omega)]; omega)], fun j _ _ => by omega, fun _ _ _ => rfl⟩
  | succ t ih =>
    intro c n J h1 h2 h3
    obtain ⟨n, rfl⟩ : ∃ m, n = m + 1 := ⟨n - 1, by omega⟩
    have hc : c < 3 := by omega
    have gc : ¬ (Int32.ofInt (c : Int) < 0 ∨ 3 ≤ Int32.toNatClampNeg (Int32.ofInt (c : Int))) := by rw [i_gd (by omega)]; exact id
    have nc : Int32.toNatClampNeg (Int32.ofInt (c : Int)) = c := by rw [i_tn (by omega), Int.toNat_natCast]
    have ec : Int32.ofInt (c : Int) + 1 = Int32.ofInt ((c + 1 : Nat) : Int) := by rw [i_addl]; rfl
    obtain ⟨J', a1, a2, a3⟩ := ih (c + 1) n (u2 J 90 c (Int64.ofInt ((y c).tdiv w))) (by omega) (by omega) (fun j q1 q2 => by rw [u2n (by omega)]; exact h3 j (by omega) q2)
    refine ⟨J', ?_, fun j q1 q2 => ?_, fun a j q => ?_⟩
    · rw [gX2_tellWitness_l157, if_neg (by rw [i_ler (by omega)]; omega), if_neg z, if_pos gc, if_pos z, nc, h3 c (by omega) hc, (jdw (by' c hc) hw).1]
      dsimp only
      rw [ec]
      exact a1
    · by_cases e : j = c
      · subst e
        rw [a3 _ _ (by omega)]
        simp (disch := omega) only [u2n, u2s]
      · exact a2 j (by omega) q2
    · rw [a3 a j (by omega), u2n (by omega)]
theorem dv142 {σ : Shp} {R : Nat → Nat → Option Nat} {y : Nat → Int} {w s : Int} (hw : Sm w) (w0 : w ≠ 0) (hs : Sm s) (by' : ∀ j, j < 3 → Sm (y j)) : ∀ (t c n : Nat) (J : Nat → Nat → Int64), c + t = 3 → t < n → (∀ j, c ≤ j → j < 3 → J 194 j = Int64.ofInt (y j)) → ∃ J', gX12_makeWitness_l142 σ R n J (Int64.ofInt w) (Int64.ofInt s) (Int32.ofInt (c : Int)) = some J' ∧ (∀ j, c ≤ j → j < 3 → J' 194 j = Int64.ofInt ((y j).tdiv w * (if 0 ≤ s then 1 else -1))) ∧ (∀ a j, ¬ (a = 194 ∧ c ≤ j) → J' a j = J a j) := by
  have z : ¬ Int64.ofInt w = 0 := by unfold Sm at hw; rw [j_eql (by omega)]; exact w0
  unfold Sm at hs
  intro t
  induction t with
  | zero =>
    intro c n J h1 h2 h3
    obtain ⟨n, rfl⟩ : ∃ m, n = m + 1 := ⟨n - 1, by omega⟩
    exact ⟨J, by rw [gX12_makeWitness_l142, if_pos (by rw [i_ler (by omega)]; omega)], fun j _ _ => by omega, fun _ _ _ => rfl⟩
  | succ t ih =>
    intro c n J h1 h2 h3
    obtain ⟨n, rfl⟩ : ∃ m, n = m + 1 := ⟨n - 1, by omega⟩
    have hc : c < 3 := by omega
    have gc : ¬ (Int32.ofInt (c : Int) < 0 ∨ 3 ≤ Int32.toNatClampNeg (Int32.ofInt (c : Int))) := by rw [i_gd (by omega)]; exact id
    have nc : Int32.toNatClampNeg (Int32.ofInt (c : Int)) = c := by rw [i_tn (by omega), Int.toNat_natCast]
    have ec : Int32.ofInt (c : Int) + 1 = Int32.ofInt ((c + 1 : Nat) : Int) := by rw [i_addl]; rfl
    have k1 : (1 : Int64) = Int64.ofInt 1 := rfl
    have k2 : (-1 : Int64) = Int64.ofInt (-1) := rfl
    obtain ⟨J', a1, a2, a3⟩ := ih (c + 1) n (u2 J 194 c (Int64.ofInt ((y c).tdiv w * (if 0 ≤ s then 1 else -1)))) (by omega) (by omega) (fun j q1 q2 => by rw [u2n (by omega)]; exact h3 j (by omega) q2)
    refine ⟨J', ?_, fun j q1 q2 => ?_, fun a j q => ?_⟩
    · rw [gX12_makeWitness_l142, if_neg (by rw [i_ler (by omega)]; omega), if_pos gc, if_pos z, nc, h3 c (by omega) hc, (jdw (by' c hc) hw).1]
      by_cases q : 0 ≤ s
      · rw [if_pos (by rw [j_ler (by omega)]; exact q), k1, j_mul]
        dsimp only
        rw [if_pos q] at a1
        rw [ec]
        exact a1
      · rw [if_neg (by rw [j_ler (by omega)]; exact q), k2, j_mul]
        dsimp only
        rw [if_neg q] at a1
        rw [ec]
        exact a1
    · by_cases e : j = c
      · subst e
        rw [a3 _ _ (by omega)]
        simp (disch := omega) only [u2n, u2s]
      · exact a2 j (by omega) q2
    · rw [a3 a j (by omega), u2n (by omega)]
