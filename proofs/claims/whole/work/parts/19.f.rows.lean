/-! ===== work: whole rows ===== -/
theorem divC_r {σ : Shp} {R : Nat → Nat → Option Nat} {p : Nat} {U L : Nat → Int} {o d : Int} (hp : p < 3) (bU : ∀ j, j < 8 → B31 (U j)) (bL : ∀ j, j < 8 → B31 (L j)) (bo : B31 o) (bd : B31 d) (L0 : ∀ j, j < 8 → L j ≠ 0) (o0 : o ≠ 0) : ∀ (k c n : Nat) (J : Nat → Nat → Int64), c + k = 8 → k < n → (∀ j, c ≤ j → j < 8 → J (80 + p) j = Int64.ofInt (U j) ∧ J (84 + p) j = Int64.ofInt (L j)) → ∃ J', gX2_divideRow_l3 σ R n J (Int32.ofInt (p : Int)) (Int64.ofInt o) (Int64.ofInt d) (Int32.ofInt (c : Int)) = some J' ∧ (∀ j, c ≤ j → j < 8 → J' (80 + p) j = Int64.ofInt (rU (U j * d) (L j * o)) ∧ J' (84 + p) j = Int64.ofInt (rL (U j * d) (L j * o))) ∧ (∀ a j, ¬ ((a = 80 + p ∨ a = 84 + p) ∧ c ≤ j ∧ j < 8) → J' a j = J a j) := by
  intro k
  induction k with
  | zero =>
    intro c n J h1 h2 h3
    obtain ⟨n, rfl⟩ : ∃ m, n = m + 1 := ⟨n - 1, by omega⟩
    exact ⟨J, by rw [gX2_divideRow_l3, if_pos (by rw [i_ler (by omega)]; omega)], fun j _ _ => by omega, fun _ _ _ => rfl⟩
  | succ k ih =>
    intro c n J h1 h2 h3
    obtain ⟨n, rfl⟩ : ∃ m, n = m + 1 := ⟨n - 1, by omega⟩
    have hc : c < 8 := by omega
    obtain ⟨J', a1, a2, a3⟩ := ih (c + 1) n (wC J p c (U c * d) (L c * o)) (by omega) (by omega) (fun j q1 q2 => by unfold wC; rw [u2n (by omega), u2n (by omega), u2n (by omega), u2n (by omega)]; exact h3 j (by omega) q2)
    refine ⟨J', ?_, fun j q1 q2 => ?_, fun a j q => ?_⟩
    · rw [divC_e hp hc (h3 c (by omega) hc).1 (h3 c (by omega) hc).2 (bU c hc) (bL c hc) bo bd (L0 c hc) o0]
      exact a1
    · by_cases e : j = c
      · subst e
        rw [a3 _ _ (by omega), a3 _ _ (by omega)]
        unfold wC
        exact ⟨by simp (disch := omega) only [u2n, u2s], by simp (disch := omega) only [u2n, u2s]⟩
      · exact a2 j (by omega) q2
    · rw [a3 a j (by omega)]
      unfold wC
      rw [u2n (by omega), u2n (by omega)]
theorem divM_r {σ : Shp} {R : Nat → Nat → Option Nat} {I : Nat → Nat → Int32} {x1 : Int32} {p : Nat} {U L : Nat → Int} {o d : Int} (hp : p < 3) (ep : I 114 114 = Int32.ofInt (p : Int)) (bU : ∀ j, j < 8 → B31 (U j)) (bL : ∀ j, j < 8 → B31 (L j)) (bo : B31 o) (bd : B31 d) (L0 : ∀ j, j < 8 → L j ≠ 0) (o0 : o ≠ 0) : ∀ (k c n : Nat) (J : Nat → Nat → Int64), c + k = 8 → k < n → (∀ j, c ≤ j → j < 8 → J 189 (8 * p + j) = Int64.ofInt (U j) ∧ J 190 (8 * p + j) = Int64.ofInt (L j)) → ∃ J', gX12_clear_l34 σ R n I J x1 (Int64.ofInt o) (Int64.ofInt d) (Int32.ofInt (c : Int)) = gX12_clear_l154 σ R FUx I J' x1 0 ∧ (∀ j, c ≤ j → j < 8 → J' 189 (8 * p + j) = Int64.ofInt (rU (U j * d) (L j * o)) ∧ J' 190 (8 * p + j) = Int64.ofInt (rL (U j * d) (L j * o))) ∧ (∀ a j, ¬ ((a = 189 ∨ a = 190) ∧ 8 * p + c ≤ j ∧ j < 8 * p + 8) → J' a j = J a j) := by
  intro k
  induction k with
  | zero =>
    intro c n J h1 h2 h3
    obtain ⟨n, rfl⟩ : ∃ m, n = m + 1 := ⟨n - 1, by omega⟩
    exact ⟨J, by rw [gX12_clear_l34, if_pos (by rw [i_ler (by omega)]; omega)], fun j _ _ => by omega, fun _ _ _ => rfl⟩
  | succ k ih =>
    intro c n J h1 h2 h3
    obtain ⟨n, rfl⟩ : ∃ m, n = m + 1 := ⟨n - 1, by omega⟩
    have hc : c < 8 := by omega
    obtain ⟨J', a1, a2, a3⟩ := ih (c + 1) n (wM J (8 * p + c) (U c * d) (L c * o)) (by omega) (by omega) (fun j q1 q2 => by unfold wM; rw [u2n (by omega), u2n (by omega), u2n (by omega), u2n (by omega)]; exact h3 j (by omega) q2)
    refine ⟨J', ?_, fun j q1 q2 => ?_, fun a j q => ?_⟩
    · rw [divM_e hp hc ep (h3 c (by omega) hc).1 (h3 c (by omega) hc).2 (bU c hc) (bL c hc) bo bd (L0 c hc) o0]
      exact a1
    · by_cases e : j = c
      · subst e
        rw [a3 _ _ (by omega), a3 _ _ (by omega)]
        unfold wM
        exact ⟨by simp (disch := omega) only [u2n, u2s], by simp (disch := omega) only [u2n, u2s]⟩
      · exact a2 j (by omega) q2
    · rw [a3 a j (by omega)]
      unfold wM
      rw [u2n (by omega), u2n (by omega)]
theorem takC_r {σ : Shp} {R : Nat → Nat → Option Nat} {r p : Nat} {U L V W : Nat → Int} {o d : Int} (hr : r < 3) (hp : p < 3) (hrp : r ≠ p) (tk : ∀ j, j < 8 → Tk (U j) (L j) o d (V j) (W j)) : ∀ (k c n : Nat) (J : Nat → Nat → Int64), c + k = 8 → k < n → (∀ j, c ≤ j → j < 8 → J (80 + r) j = Int64.ofInt (U j) ∧ J (84 + r) j = Int64.ofInt (L j)) → (∀ j, j < 8 → J (80 + p) j = Int64.ofInt (V j) ∧ J (84 + p) j = Int64.ofInt (W j)) → ∃ J', gX2_takeRow_l3 σ R n J (Int32.ofInt (r : Int)) (Int32.ofInt (p : Int)) (Int64.ofInt o) (Int64.ofInt d) (Int32.ofInt (c : Int)) = some J' ∧ (∀ j, c ≤ j → j < 8 → J' (80 + r) j = Int64.ofInt (rU (U j * (W j * d) - V j * o * L j) (L j * (W j * d))) ∧ J' (84 + r) j = Int64.ofInt (rL (U j * (W j * d) - V j * o * L j) (L j * (W j * d)))) ∧ (∀ a j, ¬ ((a = 80 + r ∨ a = 84 + r) ∧ c ≤ j ∧ j < 8) → J' a j = J a j) := by
  intro k
  induction k with
  | zero =>
    intro c n J h1 h2 h3 h4
    obtain ⟨n, rfl⟩ : ∃ m, n = m + 1 := ⟨n - 1, by omega⟩
    exact ⟨J, by rw [gX2_takeRow_l3, if_pos (by rw [i_ler (by omega)]; omega)], fun j _ _ => by omega, fun _ _ _ => rfl⟩
  | succ k ih =>
    intro c n J h1 h2 h3 h4
    obtain ⟨n, rfl⟩ : ∃ m, n = m + 1 := ⟨n - 1, by omega⟩
    have hc : c < 8 := by omega
    obtain ⟨J', a1, a2, a3⟩ := ih (c + 1) n (wC J r c (U c * (W c * d) - V c * o * L c) (L c * (W c * d))) (by omega) (by omega) (fun j q1 q2 => by unfold wC; rw [u2n (by omega), u2n (by omega), u2n (by omega), u2n (by omega)]; exact h3 j (by omega) q2) (fun j q2 => by unfold wC; rw [u2n (by omega), u2n (by omega), u2n (by omega), u2n (by omega)]; exact h4 j q2)
    refine ⟨J', ?_, fun j q1 q2 => ?_, fun a j q => ?_⟩
    · rw [takC_e hr hp hc (h3 c (by omega) hc).1 (h3 c (by omega) hc).2 (h4 c hc).1 (h4 c hc).2 (tk c hc)]
      exact a1
    · by_cases e : j = c
      · subst e
        rw [a3 _ _ (by omega), a3 _ _ (by omega)]
        unfold wC
        exact ⟨by simp (disch := omega) only [u2n, u2s], by simp (disch := omega) only [u2n, u2s]⟩
      · exact a2 j (by omega) q2
    · rw [a3 a j (by omega)]
      unfold wC
      rw [u2n (by omega), u2n (by omega)]
theorem takM_r {q154 : (Nat → Nat → Int32) → (Nat → Nat → Int64) → (Int32) → (Int32) → (Option ((Nat → Nat → Int32) × (Nat → Nat → Int64)))} {σ : Shp} {R : Nat → Nat → Option Nat} {I : Nat → Nat → Int32} {x1 : Int32} {r p : Nat} {U L V W : Nat → Int} {o d : Int} (hr : r < 3) (hp : p < 3) (hrp : r ≠ p) (ep : I 114 114 = Int32.ofInt (p : Int)) (o0 : o ≠ 0) (tk : ∀ j, j < 8 → Tk (U j) (L j) o d (V j) (W j)) : ∀ (k c n : Nat) (J : Nat → Nat → Int64), c + k = 8 → k < n → (∀ j, c ≤ j → j < 8 → J 189 (8 * r + j) = Int64.ofInt (U j) ∧ J 190 (8 * r + j) = Int64.ofInt (L j)) → (∀ j, j < 8 → J 189 (8 * p + j) = Int64.ofInt (V j) ∧ J 190 (8 * p + j) = Int64.ofInt (W j)) → ∃ J', gX12_clear_l191 q154 σ R n I J x1 (Int32.ofInt (r : Int)) (Int64.ofInt o) (Int64.ofInt d) (Int32.ofInt (c : Int)) = q154 I J' x1 (Int32.ofInt ((r + 1 : Nat) : Int)) ∧ (∀ j, c ≤ j → j < 8 → J' 189 (8 * r + j) = Int64.ofInt (rU (U j * (W j * d) - V j * o * L j) (L j * (W j * d))) ∧ J' 190 (8 * r + j) = Int64.ofInt (rL (U j * (W j * d) - V j * o * L j) (L j * (W j * d)))) ∧ (∀ a j, ¬ ((a = 189 ∨ a = 190) ∧ 8 * r + c ≤ j ∧ j < 8 * r + 8) → J' a j = J a j) := by
  have er : Int32.ofInt (r : Int) + 1 = Int32.ofInt ((r + 1 : Nat) : Int) := by rw [i_addl]; rfl
  intro k
  induction k with
  | zero =>
    intro c n J h1 h2 h3 h4
    obtain ⟨n, rfl⟩ : ∃ m, n = m + 1 := ⟨n - 1, by omega⟩
    refine ⟨J, ?_, fun j _ _ => by omega, fun _ _ _ => rfl⟩
    rw [gX12_clear_l191, if_pos (by rw [i_ler (by omega)]; omega), er]
  | succ k ih =>
    intro c n J h1 h2 h3 h4
    obtain ⟨n, rfl⟩ : ∃ m, n = m + 1 := ⟨n - 1, by omega⟩
    have hc : c < 8 := by omega
    have ec : Int32.ofInt (c : Int) + 1 = Int32.ofInt ((c + 1 : Nat) : Int) := by rw [i_addl]; rfl
    have ei : ∀ x : Nat, (8 : Int32) * Int32.ofInt (x : Int) + Int32.ofInt (c : Int) = Int32.ofInt ((8 * x + c : Nat) : Int) := fun x => by rw [i_mulr, i_add, Int.natCast_add, Int.natCast_mul]; rfl
    obtain ⟨J', a1, a2, a3⟩ := ih (c + 1) n (wM J (8 * r + c) (U c * (W c * d) - V c * o * L c) (L c * (W c * d))) (by omega) (by omega) (fun j q1 q2 => by unfold wM; rw [u2n (by omega), u2n (by omega), u2n (by omega), u2n (by omega)]; exact h3 j (by omega) q2) (fun j q2 => by unfold wM; rw [u2n (by omega), u2n (by omega), u2n (by omega), u2n (by omega)]; exact h4 j q2)
    refine ⟨J', ?_, fun j q1 q2 => ?_, fun a j q => ?_⟩
    · have bo := (tk c hc).2.2.1
      rw [gX12_clear_l191, if_neg (by rw [i_ler (by omega)]; omega), if_neg (by rw [ep, i_eq (by omega) (by omega)]; omega), if_neg (by rw [j_eql (by omega)]; exact o0), ep, ei, ei, lesM (by omega) (by omega) (h3 c (by omega) hc).1 (h3 c (by omega) hc).2 (h4 c hc).1 (h4 c hc).2 (tk c hc), ob_some]
      dsimp only
      rw [ec]
      exact a1
    · by_cases e : j = c
      · subst e
        rw [a3 _ _ (by omega), a3 _ _ (by omega)]
        unfold wM
        exact ⟨by simp (disch := omega) only [u2n, u2s], by simp (disch := omega) only [u2n, u2s]⟩
      · exact a2 j (by omega) q2
    · rw [a3 a j (by omega)]
      unfold wM
      rw [u2n (by omega), u2n (by omega)]
