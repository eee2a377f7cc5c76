/-! ===== work: fractions told ===== -/
theorem one2C {σ : Shp} {R : Nat → Nat → Option Nat} {I : Nat → Nat → Int32} : ∀ (t c n : Nat) (J : Nat → Nat → Int64), c + t = 4 → t < n → ∃ J', gX2_tellFractions_l2 σ I R n J (Int32.ofInt (c : Int)) = gX2_tellFractions_l24 σ I R FUx J' 1 (Int32.ofInt ((0 : Nat) : Int)) ∧ (∀ j, c ≤ j → j < 4 → J' 89 j = 1) ∧ (∀ a j, ¬ (a = 89 ∧ c ≤ j) → J' a j = J a j) := by
  obtain ⟨F, hF⟩ : ∃ F, FUx = F := ⟨_, rfl⟩
  have i0 : (0 : Int32) = Int32.ofInt ((0 : Nat) : Int) := rfl
  rw [hF]
  intro t
  induction t with
  | zero =>
    intro c n J h1 h2
    obtain ⟨n, rfl⟩ : ∃ m, n = m + 1 := ⟨n - 1, by omega⟩
    exact ⟨J, by rw [gX2_tellFractions_l2, if_pos (by rw [i_ler (by omega)]; omega), hF, i0], fun j _ _ => by omega, fun _ _ _ => rfl⟩
  | succ t ih =>
    intro c n J h1 h2
    obtain ⟨n, rfl⟩ : ∃ m, n = m + 1 := ⟨n - 1, by omega⟩
    have g4 : ¬ (Int32.ofInt (c : Int) < 0 ∨ 4 ≤ Int32.toNatClampNeg (Int32.ofInt (c : Int))) := by rw [i_gd (by omega)]; exact id
    have n4 : Int32.toNatClampNeg (Int32.ofInt (c : Int)) = c := by rw [i_tn (by omega), Int.toNat_natCast]
    have ec : Int32.ofInt (c : Int) + 1 = Int32.ofInt ((c + 1 : Nat) : Int) := by rw [i_addl]; rfl
    obtain ⟨J', a1, a2, a3⟩ := ih (c + 1) n (u2 J 89 c 1) (by omega) (by omega)
    refine ⟨J', ?_, fun j q1 q2 => ?_, fun a j q => ?_⟩
    · rw [gX2_tellFractions_l2, if_neg (by rw [i_ler (by omega)]; omega), if_pos g4]
      dsimp only
      rw [n4, ec]
      exact a1
    · by_cases e : j = c
      · subst e
        rw [a3 _ _ (by omega)]
        simp (disch := omega) only [u2n, u2s]
      · exact a2 j (by omega) q2
    · rw [a3 a j (by omega), u2n (by omega)]
theorem one2M {σ : Shp} {R : Nat → Nat → Option Nat} {I : Nat → Nat → Int32} : ∀ (t c n : Nat) (J : Nat → Nat → Int64), c + t = 4 → t < n → ∃ J', gX12_work_l246 σ R n I J 0 (Int32.ofInt (c : Int)) = gX12_work_l273 σ R FUx I J' 0 (Int32.ofInt ((0 : Nat) : Int)) ∧ (∀ j, c ≤ j → j < 4 → J' 192 j = 0 ∧ J' 193 j = 1) ∧ (∀ a j, ¬ ((a = 192 ∨ a = 193) ∧ c ≤ j) → J' a j = J a j) := by
  obtain ⟨F, hF⟩ : ∃ F, FUx = F := ⟨_, rfl⟩
  rw [hF]
  intro t
  induction t with
  | zero =>
    intro c n J h1 h2
    obtain ⟨n, rfl⟩ : ∃ m, n = m + 1 := ⟨n - 1, by omega⟩
    exact ⟨J, by rw [gX12_work_l246, if_pos (by rw [i_ler (by omega)]; omega), hF]; rfl, fun j _ _ => by omega, fun _ _ _ => rfl⟩
  | succ t ih =>
    intro c n J h1 h2
    obtain ⟨n, rfl⟩ : ∃ m, n = m + 1 := ⟨n - 1, by omega⟩
    have g4 : ¬ (Int32.ofInt (c : Int) < 0 ∨ 4 ≤ Int32.toNatClampNeg (Int32.ofInt (c : Int))) := by rw [i_gd (by omega)]; exact id
    have n4 : Int32.toNatClampNeg (Int32.ofInt (c : Int)) = c := by rw [i_tn (by omega), Int.toNat_natCast]
    have ec : Int32.ofInt (c : Int) + 1 = Int32.ofInt ((c + 1 : Nat) : Int) := by rw [i_addl]; rfl
    obtain ⟨J', a1, a2, a3⟩ := ih (c + 1) n (u2 (u2 J 192 c 0) 193 c 1) (by omega) (by omega)
    refine ⟨J', ?_, fun j q1 q2 => ?_, fun a j q => ?_⟩
    · rw [gX12_work_l246, if_neg (by rw [i_ler (by omega)]; omega)]
      simp only [if_pos g4]
      rw [n4, ec]
      exact a1
    · by_cases e : j = c
      · subst e
        rw [a3 _ _ (by omega), a3 _ _ (by omega)]
        exact ⟨by simp (disch := omega) only [u2n, u2s], by simp (disch := omega) only [u2n, u2s]⟩
      · exact a2 j (by omega) q2
    · rw [a3 a j (by omega), u2n (by omega), u2n (by omega)]
theorem fr24 {σ : Shp} {R : Nat → Nat → Option Nat} {I I' : Nat → Nat → Int32} {U L : Nat → Nat → Int} {k : Nat} {v : Nat → Nat} (k3 : k ≤ 3) (hr : I 71 7 = Int32.ofInt (k : Int)) (hr' : I' 114 114 = Int32.ofInt (k : Int)) (hv : ∀ j, j < k → I 87 j = Int32.ofInt (v j : Int) ∧ I' 191 j = Int32.ofInt (v j : Int)) (v4 : ∀ j, j < k → v j < 4) (bU : ∀ r, r < 3 → B31 (U r 4)) : ∀ (t x n m : Nat) (b : Bool) (J J' : Nat → Nat → Int64), x + t = k → t < n → t < m → MatC J U L → MatM J' U L → (∀ j, j < 4 → J 88 j = J' 192 j ∧ J 89 j = J' 193 j) → ∃ (z : Bool) (J1 J2 : Nat → Nat → Int64), gX2_tellFractions_l24 σ I R n J (if b = true then 1 else 0) (Int32.ofInt (x : Int)) = some (J1, if z = true then 1 else 0) ∧ gX12_work_l273 σ R m I' J' (if b = true then 0 else 1) (Int32.ofInt (x : Int)) = some (I', J2, if z = true then 1 else 2) ∧ (∀ j, j < 4 → J1 88 j = J2 192 j ∧ J1 89 j = J2 193 j) ∧ (∀ a j, a ≠ 88 → a ≠ 89 → J1 a j = J a j) := by
  intro t
  induction t with
  | zero =>
    intro x n m b J J' h1 h2 h3 hM hM' hJ
    obtain ⟨n, rfl⟩ : ∃ m, n = m + 1 := ⟨n - 1, by omega⟩
    obtain ⟨m, rfl⟩ : ∃ j, m = j + 1 := ⟨m - 1, by omega⟩
    obtain rfl : x = k := by omega
    refine ⟨b, J, J', ?_, ?_, hJ, fun _ _ _ _ => rfl⟩
    · rw [gX2_tellFractions_l24, hr, if_pos (by rw [i_le (by omega) (by omega)]; omega)]
      cases b
      · rfl
      · rfl
    · rw [gX12_work_l273, hr', if_pos (by rw [i_le (by omega) (by omega)]; omega)]
      cases b
      · rfl
      · rfl
  | succ t ih =>
    intro x n m b J J' h1 h2 h3 hM hM' hJ
    obtain ⟨n, rfl⟩ : ∃ m, n = m + 1 := ⟨n - 1, by omega⟩
    obtain ⟨m, rfl⟩ : ∃ j, m = j + 1 := ⟨m - 1, by omega⟩
    have xk : x < k := by omega
    have x3 : x < 3 := by omega
    have vx := v4 x xk
    have gx : ¬ (Int32.ofInt (x : Int) < 0 ∨ 3 ≤ Int32.toNatClampNeg (Int32.ofInt (x : Int))) := by rw [i_gd (by omega)]; exact id
    have nx : Int32.toNatClampNeg (Int32.ofInt (x : Int)) = x := by rw [i_tn (by omega), Int.toNat_natCast]
    have ex : Int32.ofInt (x : Int) + 1 = Int32.ofInt ((x + 1 : Nat) : Int) := by rw [i_addl]; rfl
    have gv : ¬ (Int32.ofInt (v x : Int) < 0 ∨ 4 ≤ Int32.toNatClampNeg (Int32.ofInt (v x : Int))) := by rw [i_gd (by omega)]; exact id
    have nv : Int32.toNatClampNeg (Int32.ofInt (v x : Int)) = v x := by rw [i_tn (by omega), Int.toNat_natCast]
    have g48 : ¬ ((4 : Int32) < 0 ∨ 8 ≤ Int32.toNatClampNeg (4 : Int32)) := by decide
    have n4 : Int32.toNatClampNeg (4 : Int32) = 4 := rfl
    have ei : (8 : Int32) * Int32.ofInt (x : Int) + (4 : Int32) = Int32.ofInt ((8 * x + 4 : Nat) : Int) := by rw [i_mulr, i_addl, Int.natCast_add, Int.natCast_mul]; rfl
    have gi : ¬ (Int32.ofInt ((8 * x + 4 : Nat) : Int) < 0 ∨ 24 ≤ Int32.toNatClampNeg (Int32.ofInt ((8 * x + 4 : Nat) : Int))) := by rw [i_gd (by omega)]; exact id
    have ni : Int32.toNatClampNeg (Int32.ofInt ((8 * x + 4 : Nat) : Int)) = 8 * x + 4 := by rw [i_tn (by omega), Int.toNat_natCast]
    have m1 := hM x 4 x3 (by decide)
    have m2 := hM' x 4 x3 (by decide)
    have bx := bU x x3
    unfold B31 at bx
    obtain ⟨J1, hJ1⟩ : ∃ J1, J1 = u2 (u2 J 88 (v x) (Int64.ofInt (U x 4))) 89 (v x) (Int64.ofInt (L x 4)) := ⟨_, rfl⟩
    obtain ⟨J2, hJ2⟩ : ∃ J2, J2 = u2 (u2 J' 192 (v x) (Int64.ofInt (U x 4))) 193 (v x) (Int64.ofInt (L x 4)) := ⟨_, rfl⟩
    have f1 : ∀ a j, a ≠ 88 → a ≠ 89 → J1 a j = J a j := fun a j q q' => by rw [hJ1, u2n (by omega), u2n (by omega)]
    have f2 : ∀ a j, a ≠ 192 → a ≠ 193 → J2 a j = J' a j := fun a j q q' => by rw [hJ2, u2n (by omega), u2n (by omega)]
    have c1 : gX2_tellFractions_l24 σ I R (n + 1) J (if b = true then 1 else 0) (Int32.ofInt (x : Int)) = gX2_tellFractions_l24 σ I R n J1 (if (b && decide (0 ≤ U x 4)) = true then 1 else 0) (Int32.ofInt ((x + 1 : Nat) : Int)) := by
      rw [gX2_tellFractions_l24, hr, if_neg (by rw [i_le (by omega) (by omega)]; omega), if_neg (by rw [i_ler (by omega)]; omega)]
      simp only [if_pos gx, if_pos g48]
      rw [nx, (hv x xk).1]
      simp only [if_pos gv]
      rw [nv, n4, m1.1, ex]
      have e1 : u2 J 88 (v x) (Int64.ofInt (U x 4)) (84 + x) 4 = Int64.ofInt (L x 4) := by rw [u2n (by omega)]; exact m1.2
      rw [e1, ← hJ1, f1 (80 + x) 4 (by omega) (by omega), m1.1]
      cases b
      · rfl
      · by_cases s : 0 ≤ U x 4
        · rw [if_neg (by decide), if_neg (by rw [j_ltl (by omega)]; omega), decide_eq_true s]
          rfl
        · rw [if_neg (by decide), if_pos (by rw [j_ltl (by omega)]; omega), decide_eq_false s]
          rfl
    have c2 : gX12_work_l273 σ R (m + 1) I' J' (if b = true then 0 else 1) (Int32.ofInt (x : Int)) = gX12_work_l273 σ R m I' J2 (if (b && decide (0 ≤ U x 4)) = true then 0 else 1) (Int32.ofInt ((x + 1 : Nat) : Int)) := by
      rw [gX12_work_l273, hr', if_neg (by rw [i_le (by omega) (by omega)]; omega), ei]
      simp only [if_pos gx, if_pos gi]
      rw [nx, (hv x xk).2]
      simp only [if_pos gv]
      rw [nv, ni, m2.1, ex]
      have e1 : u2 J' 192 (v x) (Int64.ofInt (U x 4)) 190 (8 * x + 4) = Int64.ofInt (L x 4) := by rw [u2n (by omega)]; exact m2.2
      rw [e1, ← hJ2, f2 189 (8 * x + 4) (by omega) (by omega), m2.1]
      cases b
      · rfl
      · by_cases s : 0 ≤ U x 4
        · rw [if_pos rfl, if_pos rfl, if_pos (by rw [j_ler (by omega)]; omega), decide_eq_true s]
          rfl
        · rw [if_pos rfl, if_pos rfl, if_neg (by rw [j_ler (by omega)]; omega), decide_eq_false s]
          rfl
    obtain ⟨z, J3, J4, a1, a2, a3, a4⟩ := ih (x + 1) n m (b && decide (0 ≤ U x 4)) J1 J2 (by omega) (by omega) (by omega) (fun r c hr hc => by rw [f1 _ _ (by omega) (by omega), f1 _ _ (by omega) (by omega)]; exact hM r c hr hc) (fun r c hr hc => by rw [f2 _ _ (by omega) (by omega), f2 _ _ (by omega) (by omega)]; exact hM' r c hr hc) (fun j hj => by
      rw [hJ1, hJ2]
      by_cases e : j = v x
      · rw [e]
        exact ⟨by simp (disch := omega) only [u2n, u2s], by simp (disch := omega) only [u2n, u2s]⟩
      · rw [u2n (by omega), u2n (by omega), u2n (by omega), u2n (by omega), u2n (by omega), u2n (by omega), u2n (by omega), u2n (by omega)]
        exact hJ j hj)
    exact ⟨z, J3, J4, c1.trans a1, c2.trans a2, a3, fun a j q q' => by rw [a4 a j q q', f1 a j q q']⟩
/-- both tell the fractions -/
theorem fracs {σ : Shp} {R : Nat → Nat → Option Nat} {I I' : Nat → Nat → Int32} {J J' : Nat → Nat → Int64} {U L : Nat → Nat → Int} {k : Nat} {v : Nat → Nat} (k3 : k ≤ 3) (hr : I 71 7 = Int32.ofInt (k : Int)) (hr' : I' 114 114 = Int32.ofInt (k : Int)) (hv : ∀ j, j < k → I 87 j = Int32.ofInt (v j : Int) ∧ I' 191 j = Int32.ofInt (v j : Int)) (v4 : ∀ j, j < k → v j < 4) (bU : ∀ r, r < 3 → B31 (U r 4)) (hM : MatC J U L) (hM' : MatM J' U L) (h0 : ∀ j, j < 4 → J 88 j = 0) : ∃ (z : Bool) (J1 J2 : Nat → Nat → Int64), gX2_tellFractions σ I J R = some (J1, if z = true then 1 else 0) ∧ gX12_work_l246 σ R FUx I' J' 0 0 = some (I', J2, if z = true then 1 else 2) ∧ (∀ j, j < 4 → J1 88 j = J2 192 j ∧ J1 89 j = J2 193 j) ∧ (∀ a j, a ≠ 88 → a ≠ 89 → J1 a j = J a j) := by
  obtain ⟨F, hF⟩ : ∃ F, FUx = F := ⟨_, rfl⟩
  have hF' : F = 2000000 := by rw [← hF, FUx_eq]
  obtain ⟨J3, a1, a2, a3⟩ := one2C (σ := σ) (R := R) (I := I) 4 0 F J (by omega) (by omega)
  obtain ⟨J4, b1, b2, b3⟩ := one2M (σ := σ) (R := R) (I := I') 4 0 F J' (by omega) (by omega)
  obtain ⟨z, J1, J2, c1, c2, c3, c4⟩ := fr24 (σ := σ) (R := R) k3 hr hr' hv v4 bU k 0 F F true J3 J4 (by omega) (by omega) (by omega) (fun r c hr hc => by rw [a3 _ _ (by omega), a3 _ _ (by omega)]; exact hM r c hr hc) (fun r c hr hc => by rw [b3 _ _ (by omega), b3 _ _ (by omega)]; exact hM' r c hr hc) (fun j hj => by rw [a3 88 j (by omega), h0 j hj, a2 j (by omega) hj, (b2 j (by omega) hj).1, (b2 j (by omega) hj).2]; exact ⟨rfl, rfl⟩)
  rw [hF] at a1 b1
  refine ⟨z, J1, J2, ?_, ?_, c3, fun a j q q' => by rw [c4 a j q q', a3 a j (by omega)]⟩
  · unfold gX2_tellFractions
    rw [hF]
    exact a1.trans c1
  · rw [hF]
    exact b1.trans c2
