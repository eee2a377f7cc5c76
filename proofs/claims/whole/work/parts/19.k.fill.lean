/-! ===== work: all rows at the start ===== -/
theorem fillC2 {σ : Shp} {R : Nat → Nat → Option Nat} {I : Nat → Nat → Int32} {K : Nat → Int} (hK : KB K) (hI : ∀ s j, s < 6 → j < 3 → I (73 + s) j = Int32.ofInt (K (3 * s + j))) : ∀ (k r n : Nat) (J : Nat → Nat → Int64), r + k = 3 → k < n → ∃ J', gX2_fillRows_l2 σ I R n J (Int32.ofInt (r : Int)) = some J' ∧ (∀ s c, r ≤ s → s < 3 → c < 8 → J' (80 + s) c = Int64.ofInt (Rw0 K s c) ∧ J' (84 + s) c = Int64.ofInt 1) ∧ (∀ a j, ¬ ((80 + r ≤ a ∧ a ≤ 82) ∨ (84 + r ≤ a ∧ a ≤ 86)) → J' a j = J a j) := by
  obtain ⟨F, hF⟩ : ∃ F, FUx = F := ⟨_, rfl⟩
  have hF' : F = 2000000 := by rw [← hF, FUx_eq]
  have i0 : (0 : Int32) = Int32.ofInt ((0 : Nat) : Int) := rfl
  intro k
  induction k with
  | zero =>
    intro r n J h1 h2
    obtain ⟨n, rfl⟩ : ∃ m, n = m + 1 := ⟨n - 1, by omega⟩
    exact ⟨J, by rw [gX2_fillRows_l2, if_pos (by rw [i_ler (by omega)]; omega)], fun s c _ _ _ => by omega, fun _ _ _ => rfl⟩
  | succ k ih =>
    intro r n J h1 h2
    obtain ⟨n, rfl⟩ : ∃ m, n = m + 1 := ⟨n - 1, by omega⟩
    obtain ⟨J1, a1, a2, a3, -⟩ := flC (q2 := gX2_fillRows_l2 σ I R n) (σ := σ) (R := R) (I := I) (r := r) (by omega) hK hI 8 0 F J (by omega) (by omega)
    obtain ⟨J', b1, b2, b3⟩ := ih (r + 1) n J1 (by omega) (by omega)
    refine ⟨J', ?_, fun s c q1 q2 q3 => ?_, fun a j q => ?_⟩
    · rw [gX2_fillRows_l2, if_neg (by rw [i_ler (by omega)]; omega), hF, i0, a1]
      exact b1
    · by_cases e : s = r
      · subst e
        rw [b3 _ _ (by omega), b3 _ _ (by omega)]
        exact a2 c (by omega) q3
      · exact b2 s c (by omega) q2 q3
    · rw [b3 a j (by omega), a3 a j (by omega)]
theorem fillM2 {σ : Shp} {R : Nat → Nat → Option Nat} {I : Nat → Nat → Int32} {K : Nat → Int} (hK : KB K) (hI : ∀ k, k < 18 → I 188 k = Int32.ofInt (K k)) : ∀ (k r n : Nat) (J : Nat → Nat → Int64), r + k = 3 → k < n → ∃ J', gX12_work_l2 σ R n I J (Int32.ofInt (r : Int)) = gX12_work_l116 σ R FUx (u2 I 114 114 (Int32.ofInt ((0 : Nat) : Int))) J' (Int32.ofInt ((0 : Nat) : Int)) ∧ (∀ s c, r ≤ s → s < 3 → c < 8 → J' 189 (8 * s + c) = Int64.ofInt (Rw0 K s c) ∧ J' 190 (8 * s + c) = Int64.ofInt 1) ∧ (∀ a j, ¬ ((a = 189 ∨ a = 190) ∧ 8 * r ≤ j) → J' a j = J a j) := by
  obtain ⟨F, hF⟩ : ∃ F, FUx = F := ⟨_, rfl⟩
  have hF' : F = 2000000 := by rw [← hF, FUx_eq]
  have i0 : (0 : Int32) = Int32.ofInt ((0 : Nat) : Int) := rfl
  rw [hF]
  intro k
  induction k with
  | zero =>
    intro r n J h1 h2
    obtain ⟨n, rfl⟩ : ∃ m, n = m + 1 := ⟨n - 1, by omega⟩
    exact ⟨J, by rw [gX12_work_l2, if_pos (by rw [i_ler (by omega)]; omega), hF, i0], fun s c _ _ _ => by omega, fun _ _ _ => rfl⟩
  | succ k ih =>
    intro r n J h1 h2
    obtain ⟨n, rfl⟩ : ∃ m, n = m + 1 := ⟨n - 1, by omega⟩
    obtain ⟨J1, a1, a2, a3⟩ := fillM_r (q2 := gX12_work_l2 σ R n) (σ := σ) (R := R) (I := I) (r := r) (by omega) hK hI 8 0 F J (by omega) (by omega)
    obtain ⟨J', b1, b2, b3⟩ := ih (r + 1) n J1 (by omega) (by omega)
    refine ⟨J', ?_, fun s c q1 q2 q3 => ?_, fun a j q => ?_⟩
    · rw [gX12_work_l2, if_neg (by rw [i_ler (by omega)]; omega), hF]
      rw [show gX12_work_l9 (gX12_work_l2 σ R n) σ R F I J (Int32.ofInt (r : Int)) (0 : Int32) = _ from a1]
      exact b1
    · by_cases e : s = r
      · subst e
        rw [b3 _ _ (by omega), b3 _ _ (by omega)]
        exact a2 c (by omega) q3
      · exact b2 s c (by omega) q2 q3
    · rw [b3 a j (by omega), a3 a j (by omega)]
theorem clrC2 {σ : Shp} {R : Nat → Nat → Option Nat} {I : Nat → Nat → Int32} : ∀ (k c n : Nat) (J : Nat → Nat → Int64), c + k = 3 → k < n → ∃ J', gX2_clearOutcome_l34 σ R n I J (Int32.ofInt (c : Int)) = some (I, J') ∧ (∀ j, c ≤ j → j < 3 → J' 90 j = 0) ∧ (∀ a j, ¬ (a = 90 ∧ c ≤ j) → J' a j = J a j) := by
  intro k
  induction k with
  | zero =>
    intro c n J h1 h2
    obtain ⟨n, rfl⟩ : ∃ m, n = m + 1 := ⟨n - 1, by omega⟩
    exact ⟨J, by rw [gX2_clearOutcome_l34, if_pos (by rw [i_ler (by omega)]; omega)], fun j _ _ => by omega, fun _ _ _ => rfl⟩
  | succ k ih =>
    intro c n J h1 h2
    obtain ⟨n, rfl⟩ : ∃ m, n = m + 1 := ⟨n - 1, by omega⟩
    have g3 : ¬ (Int32.ofInt (c : Int) < 0 ∨ 3 ≤ Int32.toNatClampNeg (Int32.ofInt (c : Int))) := by rw [i_gd (by omega)]; exact id
    have n3 : Int32.toNatClampNeg (Int32.ofInt (c : Int)) = c := by rw [i_tn (by omega), Int.toNat_natCast]
    have ec : Int32.ofInt (c : Int) + 1 = Int32.ofInt ((c + 1 : Nat) : Int) := by rw [i_addl]; rfl
    obtain ⟨J', a1, a2, a3⟩ := ih (c + 1) n (u2 J 90 c 0) (by omega) (by omega)
    refine ⟨J', ?_, fun j q1 q2 => ?_, fun a j q => ?_⟩
    · rw [gX2_clearOutcome_l34, if_neg (by rw [i_ler (by omega)]; omega)]
      simp only [if_pos g3]
      rw [n3, ec]
      exact a1
    · by_cases e : j = c
      · subst e
        rw [a3 _ _ (by omega)]
        simp (disch := omega) only [u2n, u2s]
      · exact a2 j (by omega) q2
    · rw [a3 a j (by omega), u2n (by omega)]
theorem clrC {σ : Shp} {R : Nat → Nat → Option Nat} {I : Nat → Nat → Int32} : ∀ (k c n : Nat) (J : Nat → Nat → Int64), c + k = 4 → k < n → ∃ J', gX2_clearOutcome_l7 σ R n I J (Int32.ofInt (c : Int)) = some (I, J') ∧ (∀ j, c ≤ j → j < 4 → J' 88 j = 0 ∧ J' 89 j = 0) ∧ (∀ j, j < 3 → J' 90 j = 0) ∧ (∀ a j, ¬ ((a = 88 ∨ a = 89) ∧ c ≤ j) → a ≠ 90 → J' a j = J a j) := by
  obtain ⟨F, hF⟩ : ∃ F, FUx = F := ⟨_, rfl⟩
  have hF' : F = 2000000 := by rw [← hF, FUx_eq]
  intro k
  induction k with
  | zero =>
    intro c n J h1 h2
    obtain ⟨n, rfl⟩ : ∃ m, n = m + 1 := ⟨n - 1, by omega⟩
    obtain ⟨J', a1, a2, a3⟩ := clrC2 (σ := σ) (R := R) (I := I) 3 0 F J (by omega) (by omega)
    refine ⟨J', ?_, fun j _ _ => by omega, fun j q => a2 j (by omega) q, fun a j _ q => a3 a j (by omega)⟩
    rw [gX2_clearOutcome_l7, if_pos (by rw [i_ler (by omega)]; omega), hF]
    exact a1
  | succ k ih =>
    intro c n J h1 h2
    obtain ⟨n, rfl⟩ : ∃ m, n = m + 1 := ⟨n - 1, by omega⟩
    have g4 : ¬ (Int32.ofInt (c : Int) < 0 ∨ 4 ≤ Int32.toNatClampNeg (Int32.ofInt (c : Int))) := by rw [i_gd (by omega)]; exact id
    have n4 : Int32.toNatClampNeg (Int32.ofInt (c : Int)) = c := by rw [i_tn (by omega), Int.toNat_natCast]
    have ec : Int32.ofInt (c : Int) + 1 = Int32.ofInt ((c + 1 : Nat) : Int) := by rw [i_addl]; rfl
    obtain ⟨J', a1, a2, a3, a4⟩ := ih (c + 1) n (u2 (u2 J 88 c 0) 89 c 0) (by omega) (by omega)
    refine ⟨J', ?_, fun j q1 q2 => ?_, a3, fun a j q q' => ?_⟩
    · rw [gX2_clearOutcome_l7, if_neg (by rw [i_ler (by omega)]; omega)]
      simp only [if_pos g4]
      rw [n4, ec]
      exact a1
    · by_cases e : j = c
      · subst e
        rw [a4 _ _ (by omega) (by omega), a4 _ _ (by omega) (by omega)]
        exact ⟨by simp (disch := omega) only [u2n, u2s], by simp (disch := omega) only [u2n, u2s]⟩
      · exact a2 j (by omega) q2
    · rw [a4 a j (by omega) q', u2n (by omega), u2n (by omega)]
