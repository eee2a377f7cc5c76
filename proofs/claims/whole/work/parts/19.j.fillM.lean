/-! ===== work: the rows at the start, the model ===== -/
theorem fillM_r {q2 : (Nat → Nat → Int32) → (Nat → Nat → Int64) → (Int32) → (Option ((Nat → Nat → Int32) × (Nat → Nat → Int64) × (Int32)))} {σ : Shp} {R : Nat → Nat → Option Nat} {I : Nat → Nat → Int32} {K : Nat → Int} {r : Nat} (hr : r < 3) (hK : KB K) (hI : ∀ k, k < 18 → I 188 k = Int32.ofInt (K k)) : ∀ (k c n : Nat) (J : Nat → Nat → Int64), c + k = 8 → k < n → ∃ J', gX12_work_l9 q2 σ R n I J (Int32.ofInt (r : Int)) (Int32.ofInt (c : Int)) = q2 I J' (Int32.ofInt ((r + 1 : Nat) : Int)) ∧ (∀ j, c ≤ j → j < 8 → J' 189 (8 * r + j) = Int64.ofInt (Rw0 K r j) ∧ J' 190 (8 * r + j) = Int64.ofInt 1) ∧ (∀ a j, ¬ ((a = 189 ∨ a = 190) ∧ 8 * r + c ≤ j ∧ j < 8 * r + 8) → J' a j = J a j) := by
  have er : Int32.ofInt (r : Int) + 1 = Int32.ofInt ((r + 1 : Nat) : Int) := by rw [i_addl]; rfl
  have w4 := hK.2 r (by omega)
  have w5 := hK.2 (3 + r) (by omega)
  rw [show 12 + (3 + r) = 15 + r by omega] at w5
  intro k
  induction k with
  | zero =>
    intro c n J h1 h2
    obtain ⟨n, rfl⟩ : ∃ m, n = m + 1 := ⟨n - 1, by omega⟩
    refine ⟨J, ?_, fun j _ _ => by omega, fun _ _ _ => rfl⟩
    rw [gX12_work_l9, if_pos (by rw [i_ler (by omega)]; omega), er]
  | succ k ih =>
    intro c n J h1 h2
    obtain ⟨n, rfl⟩ : ∃ m, n = m + 1 := ⟨n - 1, by omega⟩
    have hc : c < 8 := by omega
    have ei : (8 : Int32) * Int32.ofInt (r : Int) + Int32.ofInt (c : Int) = Int32.ofInt ((8 * r + c : Nat) : Int) := by rw [i_mulr, i_add, Int.natCast_add, Int.natCast_mul]; rfl
    have gi : ¬ (Int32.ofInt ((8 * r + c : Nat) : Int) < 0 ∨ 24 ≤ Int32.toNatClampNeg (Int32.ofInt ((8 * r + c : Nat) : Int))) := by rw [i_gd (by omega)]; exact id
    have ni : Int32.toNatClampNeg (Int32.ofInt ((8 * r + c : Nat) : Int)) = 8 * r + c := by rw [i_tn (by omega), Int.toNat_natCast]
    have ec : Int32.ofInt (c : Int) + 1 = Int32.ofInt ((c + 1 : Nat) : Int) := by rw [i_addl]; rfl
    have g18 : ∀ x : Nat, x < 18 → ¬ (Int32.ofInt (x : Int) < 0 ∨ 18 ≤ Int32.toNatClampNeg (Int32.ofInt (x : Int))) := fun x hx => by rw [i_gd (by omega)]; exact id
    have n18 : ∀ x : Nat, x < 18 → Int32.toNatClampNeg (Int32.ofInt (x : Int)) = x := fun x hx => by rw [i_tn (by omega), Int.toNat_natCast]
    have one : gX12_work_l9 q2 σ R (n + 1) I J (Int32.ofInt (r : Int)) (Int32.ofInt (c : Int)) = gX12_work_l9 q2 σ R n I (u2 (u2 J 189 (8 * r + c) (Int64.ofInt (Rw0 K r c))) 190 (8 * r + c) (Int64.ofInt 1)) (Int32.ofInt (r : Int)) (Int32.ofInt ((c + 1 : Nat) : Int)) := by
      unfold Rw0
      rw [gX12_work_l9, if_neg (by rw [i_ler (by omega)]; omega)]
      by_cases c4 : c < 4
      · have e3 : (3 : Int32) * Int32.ofInt (c : Int) + Int32.ofInt (r : Int) = Int32.ofInt ((3 * c + r : Nat) : Int) := by rw [i_mulr, i_add, Int.natCast_add, Int.natCast_mul]; rfl
        have b := hK.1 (3 * c + r) (by omega)
        rw [if_neg (by rw [i_ler (by omega)]; omega), if_pos c4, e3, ei]
        simp only [if_pos (g18 (3 * c + r) (by omega)), if_pos gi]
        rw [ni, n18 (3 * c + r) (by omega), hI _ (by omega), i_w (by omega), ec]
        rfl
      · rw [if_pos (by rw [i_ler (by omega)]; omega), if_neg c4]
        by_cases c5 : c = 4
        · have ea : (12 : Int32) + Int32.ofInt (r : Int) = Int32.ofInt ((12 + r : Nat) : Int) := by rw [i_addr]; rfl
          have eb : (15 : Int32) + Int32.ofInt (r : Int) = Int32.ofInt ((15 + r : Nat) : Int) := by rw [i_addr]; rfl
          rw [if_pos (by rw [i_eql (by omega)]; omega), if_pos c5, ea, eb, ei]
          simp only [if_pos (g18 (12 + r) (by omega)), if_pos (g18 (15 + r) (by omega)), if_pos gi]
          rw [ni, n18 (12 + r) (by omega), n18 (15 + r) (by omega), hI _ (by omega), hI _ (by omega), i_sub, i_w (by omega), ec]
          rfl
        · rw [if_neg (by rw [i_eql (by omega)]; omega), if_neg c5, i_subl, ei]
          by_cases c6 : c = 5 + r
          · rw [if_pos (by rw [i_eq (by omega) (by omega)]; omega), if_pos c6]
            simp only [if_pos gi]
            rw [ni, ec]
            rfl
          · rw [if_neg (by rw [i_eq (by omega) (by omega)]; omega), if_neg c6]
            simp only [if_pos gi]
            rw [ni, ec]
            rfl
    obtain ⟨J', a1, a2, a3⟩ := ih (c + 1) n (u2 (u2 J 189 (8 * r + c) (Int64.ofInt (Rw0 K r c))) 190 (8 * r + c) (Int64.ofInt 1)) (by omega) (by omega)
    refine ⟨J', one.trans a1, fun j q1 q2 => ?_, fun a j q => ?_⟩
    · by_cases e : j = c
      · subst e
        rw [a3 _ _ (by omega), a3 _ _ (by omega)]
        exact ⟨by simp (disch := omega) only [u2n, u2s], by simp (disch := omega) only [u2n, u2s]⟩
      · exact a2 j (by omega) q2
    · rw [a3 a j (by omega), u2n (by omega), u2n (by omega)]
