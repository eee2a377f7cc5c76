/-! ===== work: two rows change places ===== -/
def swp (f p r : Nat) : Nat := if r = f then p else if r = p then f else r
theorem swp_f {f p : Nat} : swp f p f = p := if_pos rfl
theorem swp_p {f p : Nat} (h : p ≠ f) : swp f p p = f := by unfold swp; rw [if_neg h, if_pos rfl]
theorem swp_o {f p r : Nat} (h : r ≠ f) (h' : r ≠ p) : swp f p r = r := by unfold swp; rw [if_neg h, if_neg h']
theorem swC_r {σ : Shp} {R : Nat → Nat → Option Nat} {f p : Nat} (hf : f < 3) (hp : p < 3) : ∀ (k c n : Nat) (J : Nat → Nat → Int64), c + k = 8 → k < n → ∃ J', gX2_changePlaces_l2 σ R n J (Int32.ofInt (f : Int)) (Int32.ofInt (p : Int)) (Int32.ofInt (c : Int)) = some J' ∧ (∀ r j, r < 3 → c ≤ j → j < 8 → J' (80 + r) j = J (80 + swp f p r) j ∧ J' (84 + r) j = J (84 + swp f p r) j) ∧ (∀ a j, ¬ (((80 ≤ a ∧ a ≤ 82) ∨ (84 ≤ a ∧ a ≤ 86)) ∧ c ≤ j ∧ j < 8) → J' a j = J a j) := by
  have gf : ¬ (Int32.ofInt (f : Int) < 0 ∨ 3 ≤ Int32.toNatClampNeg (Int32.ofInt (f : Int))) := by rw [i_gd (by omega)]; exact id
  have gp : ¬ (Int32.ofInt (p : Int) < 0 ∨ 3 ≤ Int32.toNatClampNeg (Int32.ofInt (p : Int))) := by rw [i_gd (by omega)]; exact id
  have nf : Int32.toNatClampNeg (Int32.ofInt (f : Int)) = f := by rw [i_tn (by omega), Int.toNat_natCast]
  have np : Int32.toNatClampNeg (Int32.ofInt (p : Int)) = p := by rw [i_tn (by omega), Int.toNat_natCast]
  intro k
  induction k with
  | zero =>
    intro c n J h1 h2
    obtain ⟨n, rfl⟩ : ∃ m, n = m + 1 := ⟨n - 1, by omega⟩
    exact ⟨J, by rw [gX2_changePlaces_l2, if_pos (by rw [i_ler (by omega)]; omega)], fun r j _ _ _ => by omega, fun _ _ _ => rfl⟩
  | succ k ih =>
    intro c n J h1 h2
    obtain ⟨n, rfl⟩ : ∃ m, n = m + 1 := ⟨n - 1, by omega⟩
    have hc : c < 8 := by omega
    have g8 : ¬ (Int32.ofInt (c : Int) < 0 ∨ 8 ≤ Int32.toNatClampNeg (Int32.ofInt (c : Int))) := by rw [i_gd (by omega)]; exact id
    have n8 : Int32.toNatClampNeg (Int32.ofInt (c : Int)) = c := by rw [i_tn (by omega), Int.toNat_natCast]
    have ec : Int32.ofInt (c : Int) + 1 = Int32.ofInt ((c + 1 : Nat) : Int) := by rw [i_addl]; rfl
    obtain ⟨J1, hJ1⟩ : ∃ J1, J1 = u2 (u2 (u2 (u2 J (80 + f) c (J (80 + p) c)) (80 + p) c (J (80 + f) c)) (84 + f) c (J (84 + p) c)) (84 + p) c (J (84 + f) c) := ⟨_, rfl⟩
    have w1 : ∀ r, r < 3 → J1 (80 + r) c = J (80 + swp f p r) c ∧ J1 (84 + r) c = J (84 + swp f p r) c := by
      intro r hr
      rw [hJ1]
      by_cases q1 : r = p
      · subst q1
        by_cases q2 : r = f
        · subst q2
          rw [swp_f]
          exact ⟨by simp (disch := omega) only [u2n, u2s], by simp (disch := omega) only [u2n, u2s]⟩
        · rw [swp_p q2]
          exact ⟨by simp (disch := omega) only [u2n, u2s], by simp (disch := omega) only [u2n, u2s]⟩
      · by_cases q2 : r = f
        · subst q2
          rw [swp_f]
          exact ⟨by simp (disch := omega) only [u2n, u2s], by simp (disch := omega) only [u2n, u2s]⟩
        · rw [swp_o q2 q1]
          exact ⟨by simp (disch := omega) only [u2n, u2s], by simp (disch := omega) only [u2n, u2s]⟩
    have w2 : ∀ a j, ¬ (((80 ≤ a ∧ a ≤ 82) ∨ (84 ≤ a ∧ a ≤ 86)) ∧ j = c) → J1 a j = J a j := fun a j q => by rw [hJ1, u2n (by omega), u2n (by omega), u2n (by omega), u2n (by omega)]
    have sb : ∀ r, r < 3 → swp f p r < 3 := fun r hr => by unfold swp; split <;> (try split) <;> omega
    obtain ⟨J', a1, a2, a3⟩ := ih (c + 1) n J1 (by omega) (by omega)
    refine ⟨J', ?_, fun r j hr q1 q2 => ?_, fun a j q => ?_⟩
    · rw [gX2_changePlaces_l2, if_neg (by rw [i_ler (by omega)]; omega)]
      simp only [if_pos gf, if_pos gp, if_pos g8]
      rw [nf, np, n8, ec]
      have e1 : u2 (u2 J (80 + f) c (J (80 + p) c)) (80 + p) c (J (80 + f) c) (84 + f) c = J (84 + f) c := by simp (disch := omega) only [u2n, u2s]
      have e2 : u2 (u2 J (80 + f) c (J (80 + p) c)) (80 + p) c (J (80 + f) c) (84 + p) c = J (84 + p) c := by simp (disch := omega) only [u2n, u2s]
      rw [e1, e2, ← hJ1]
      exact a1
    · by_cases e : j = c
      · subst e
        rw [a3 _ _ (by omega), a3 _ _ (by omega)]
        exact w1 r hr
      · have b := a2 r j hr (by omega) q2
        have := sb r hr
        rw [b.1, b.2, w2 _ _ (by omega), w2 _ _ (by omega)]
        exact ⟨rfl, rfl⟩
    · rw [a3 a j (by omega), w2 a j (by omega)]
theorem swM_r {σ : Shp} {R : Nat → Nat → Option Nat} {I : Nat → Nat → Int32} {f p : Nat} (hf : f < 3) (hp : p < 3) (ep : I 114 114 = Int32.ofInt (p : Int)) : ∀ (k c n : Nat) (J : Nat → Nat → Int64), c + k = 8 → k < n → ∃ J', gX12_liftRow_l2 σ I R n J (Int32.ofInt (f : Int)) (Int32.ofInt (c : Int)) = some J' ∧ (∀ r j, r < 3 → c ≤ j → j < 8 → J' 189 (8 * r + j) = J 189 (8 * swp f p r + j) ∧ J' 190 (8 * r + j) = J 190 (8 * swp f p r + j)) ∧ (∀ r j, r < 3 → j < c → J' 189 (8 * r + j) = J 189 (8 * r + j) ∧ J' 190 (8 * r + j) = J 190 (8 * r + j)) ∧ (∀ a j, a ≠ 189 → a ≠ 190 → J' a j = J a j) := by
  intro k
  induction k with
  | zero =>
    intro c n J h1 h2
    obtain ⟨n, rfl⟩ : ∃ m, n = m + 1 := ⟨n - 1, by omega⟩
    exact ⟨J, by rw [gX12_liftRow_l2, if_pos (by rw [i_ler (by omega)]; omega)], fun r j _ _ _ => by omega, fun _ _ _ _ => ⟨rfl, rfl⟩, fun _ _ _ _ => rfl⟩
  | succ k ih =>
    intro c n J h1 h2
    obtain ⟨n, rfl⟩ : ∃ m, n = m + 1 := ⟨n - 1, by omega⟩
    have hc : c < 8 := by omega
    have ei : ∀ x : Nat, (8 : Int32) * Int32.ofInt (x : Int) + Int32.ofInt (c : Int) = Int32.ofInt ((8 * x + c : Nat) : Int) := fun x => by rw [i_mulr, i_add, Int.natCast_add, Int.natCast_mul]; rfl
    have gi : ∀ x : Nat, x < 3 → ¬ (Int32.ofInt ((8 * x + c : Nat) : Int) < 0 ∨ 24 ≤ Int32.toNatClampNeg (Int32.ofInt ((8 * x + c : Nat) : Int))) := fun x hx => by rw [i_gd (by omega)]; exact id
    have ni : ∀ x : Nat, x < 3 → Int32.toNatClampNeg (Int32.ofInt ((8 * x + c : Nat) : Int)) = 8 * x + c := fun x hx => by rw [i_tn (by omega), Int.toNat_natCast]
    have ec : Int32.ofInt (c : Int) + 1 = Int32.ofInt ((c + 1 : Nat) : Int) := by rw [i_addl]; rfl
    obtain ⟨J1, hJ1⟩ : ∃ J1, J1 = u2 (u2 (u2 (u2 J 189 (8 * f + c) (J 189 (8 * p + c))) 190 (8 * f + c) (J 190 (8 * p + c))) 189 (8 * p + c) (J 189 (8 * f + c))) 190 (8 * p + c) (J 190 (8 * f + c)) := ⟨_, rfl⟩
    have w1 : ∀ r, r < 3 → J1 189 (8 * r + c) = J 189 (8 * swp f p r + c) ∧ J1 190 (8 * r + c) = J 190 (8 * swp f p r + c) := by
      intro r hr
      rw [hJ1]
      by_cases q1 : r = p
      · subst q1
        by_cases q2 : r = f
        · subst q2
          rw [swp_f]
          exact ⟨by simp (disch := omega) only [u2n, u2s], by simp (disch := omega) only [u2n, u2s]⟩
        · rw [swp_p q2]
          exact ⟨by simp (disch := omega) only [u2n, u2s], by simp (disch := omega) only [u2n, u2s]⟩
      · by_cases q2 : r = f
        · subst q2
          rw [swp_f]
          exact ⟨by simp (disch := omega) only [u2n, u2s], by simp (disch := omega) only [u2n, u2s]⟩
        · rw [swp_o q2 q1]
          exact ⟨by simp (disch := omega) only [u2n, u2s], by simp (disch := omega) only [u2n, u2s]⟩
    have w2 : ∀ a r j, r < 3 → j < 8 → j ≠ c → J1 a (8 * r + j) = J a (8 * r + j) := fun a r j q1 q2 q3 => by rw [hJ1, u2n (by omega), u2n (by omega), u2n (by omega), u2n (by omega)]
    have w3 : ∀ a j, a ≠ 189 → a ≠ 190 → J1 a j = J a j := fun a j q1 q2 => by rw [hJ1, u2n (by omega), u2n (by omega), u2n (by omega), u2n (by omega)]
    have sb : ∀ r, r < 3 → swp f p r < 3 := fun r hr => by unfold swp; split <;> (try split) <;> omega
    obtain ⟨J', a1, a2, a3, a4⟩ := ih (c + 1) n J1 (by omega) (by omega)
    refine ⟨J', ?_, fun r j hr q1 q2 => ?_, fun r j hr q => ?_, fun a j q1 q2 => ?_⟩
    · rw [gX12_liftRow_l2, if_neg (by rw [i_ler (by omega)]; omega), ep, ei, ei]
      simp only [if_pos (gi f hf), if_pos (gi p hp)]
      rw [ni f hf, ni p hp, ec]
      have e2 : u2 J 189 (8 * f + c) (J 189 (8 * p + c)) 190 (8 * p + c) = J 190 (8 * p + c) := by simp (disch := omega) only [u2n, u2s]
      rw [e2, ← hJ1]
      exact a1
    · by_cases e : j = c
      · subst e
        have b := a3 r j hr (by omega)
        rw [b.1, b.2]
        exact w1 r hr
      · have b := a2 r j hr (by omega) q2
        rw [b.1, b.2, w2 _ _ _ (sb r hr) q2 e, w2 _ _ _ (sb r hr) q2 e]
        exact ⟨rfl, rfl⟩
    · have b := a3 r j hr (by omega)
      rw [b.1, b.2, w2 _ _ _ hr (by omega) (by omega), w2 _ _ _ hr (by omega) (by omega)]
      exact ⟨rfl, rfl⟩
    · rw [a4 a j q1 q2, w3 a j q1 q2]
