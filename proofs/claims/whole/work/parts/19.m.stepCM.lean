/-! ===== work: a column's step, the class ===== -/
theorem stepC {σ : Shp} {R : Nat → Nat → Option Nat} {I : Nat → Nat → Int32} {U L N : Nat → Nat → Int} {d : Int} {p q : Nat} (h : MtR U L N d) (b : StB N d p q) (hp : p < 3) (hq : q < 8) (n0 : N p q ≠ 0) (ep : I 71 7 = Int32.ofInt (p : Int)) : ∀ (k x n : Nat) (J : Nat → Nat → Int64), x + k = 3 → k < n → MatC J (mxU U L p q x) (mxL U L p q x) → ∃ J', gX2_workColumn_l76 σ R n I J (Int32.ofInt (q : Int)) (Int32.ofInt (x : Int)) = some (u2 (u2 I 87 p (Int32.ofInt (q : Int))) 71 7 (Int32.ofInt ((p + 1 : Nat) : Int)), J') ∧ MatC J' (mxU U L p q 3) (mxL U L p q 3) ∧ (∀ a j, ¬ ((80 ≤ a ∧ a ≤ 82) ∨ (84 ≤ a ∧ a ≤ 86)) → J' a j = J a j) := by
  obtain ⟨F, hF⟩ : ∃ F, FUx = F := ⟨_, rfl⟩
  have hF' : F = 2000000 := by rw [← hF, FUx_eq]
  have gp : ¬ (Int32.ofInt (p : Int) < 0 ∨ 3 ≤ Int32.toNatClampNeg (Int32.ofInt (p : Int))) := by rw [i_gd (by omega)]; exact id
  have np : Int32.toNatClampNeg (Int32.ofInt (p : Int)) = p := by rw [i_tn (by omega), Int.toNat_natCast]
  have epp : Int32.ofInt (p : Int) + 1 = Int32.ofInt ((p + 1 : Nat) : Int) := by rw [i_addl]; rfl
  have gq : ¬ (Int32.ofInt (q : Int) < 0 ∨ 8 ≤ Int32.toNatClampNeg (Int32.ofInt (q : Int))) := by rw [i_gd (by omega)]; exact id
  have nq : Int32.toNatClampNeg (Int32.ofInt (q : Int)) = q := by rw [i_tn (by omega), Int.toNat_natCast]
  intro k
  induction k with
  | zero =>
    intro x n J h1 h2 h3
    obtain ⟨n, rfl⟩ : ∃ m, n = m + 1 := ⟨n - 1, by omega⟩
    obtain rfl : x = 3 := by omega
    refine ⟨J, ?_, h3, fun _ _ _ => rfl⟩
    rw [gX2_workColumn_l76, if_pos (by rw [i_ler (by omega)]; omega), ep, if_pos gp]
    dsimp only
    rw [u2n (by omega), np, ep, epp]
  | succ k ih =>
    intro x n J h1 h2 h3
    obtain ⟨n, rfl⟩ : ∃ m, n = m + 1 := ⟨n - 1, by omega⟩
    have hx : x < 3 := by omega
    have gx : ¬ (Int32.ofInt (x : Int) < 0 ∨ 3 ≤ Int32.toNatClampNeg (Int32.ofInt (x : Int))) := by rw [i_gd (by omega)]; exact id
    have nx : Int32.toNatClampNeg (Int32.ofInt (x : Int)) = x := by rw [i_tn (by omega), Int.toNat_natCast]
    have ex : Int32.ofInt (x : Int) + 1 = Int32.ofInt ((x + 1 : Nat) : Int) := by rw [i_addl]; rfl
    by_cases e : x = p
    · obtain ⟨J', a1, a2, a3⟩ := ih (x + 1) n J (by omega) (by omega) (fun r c hr hc => by rw [(mx_s (Or.inr e)).1, (mx_s (Or.inr e)).2]; exact h3 r c hr hc)
      refine ⟨J', ?_, a2, a3⟩
      rw [gX2_workColumn_l76, if_neg (by rw [i_ler (by omega)]; omega), if_pos (by rw [ep, e]), ex]
      exact a1
    · have m1 := fun c (hc : c < 8) => h3 x c hx hc
      have m2 := fun c (hc : c < 8) => h3 p c hp hc
      have eU : ∀ c, c < 8 → J (80 + x) c = Int64.ofInt (U x c) ∧ J (84 + x) c = Int64.ofInt (L x c) := fun c hc => by
        have := m1 c hc
        rwa [(mx_g e (Nat.lt_irrefl x)).1, (mx_g e (Nat.lt_irrefl x)).2] at this
      have eV : ∀ c, c < 8 → J (80 + p) c = Int64.ofInt (dvU U L p q c) ∧ J (84 + p) c = Int64.ofInt (dvL U L p q c) := fun c hc => by
        have := m2 c hc
        rwa [mx_p.1, mx_p.2] at this
      obtain ⟨J1, t1, t2, t3⟩ := takC_r (σ := σ) (R := R) (r := x) (p := p) (U := U x) (L := L x) (V := dvU U L p q) (W := dvL U L p q) (o := U x q) (d := L x q) hx hp e (fun j hj => st_tk h b hp hq hx hj e n0) 8 0 F J (by omega) (by omega) (fun j _ hj => eU j hj) (fun j hj => eV j hj)
      obtain ⟨J', a1, a2, a3⟩ := ih (x + 1) n J1 (by omega) (by omega) (fun r c hr hc => by
        by_cases y : r = x
        · subst y
          rw [(mx_l e (by omega)).1, (mx_l e (by omega)).2]
          exact t2 c (by omega) hc
        · rw [(mx_s (Or.inl y)).1, (mx_s (Or.inl y)).2, t3 _ _ (by omega), t3 _ _ (by omega)]
          exact h3 r c hr hc)
      refine ⟨J', ?_, a2, fun a j w => by rw [a3 a j w, t3 a j (by omega)]⟩
      have tt : gX2_takeRow σ J R (Int32.ofInt (x : Int)) (Int32.ofInt (p : Int)) (Int64.ofInt (U x q)) (Int64.ofInt (L x q)) = some J1 := by
        unfold gX2_takeRow
        rw [hF]
        exact t1
      rw [gX2_workColumn_l76, if_neg (by rw [i_ler (by omega)]; omega), if_neg (by rw [ep, i_eq (by omega) (by omega)]; omega)]
      simp only [if_pos gx, if_pos gq]
      rw [nx, nq, ep, (eU q hq).1, (eU q hq).2, tt, ob_some, ex]
      exact a1
/-! ===== work: a column's step, the model ===== -/
theorem stepM {σ : Shp} {R : Nat → Nat → Option Nat} {I : Nat → Nat → Int32} {U L N : Nat → Nat → Int} {d : Int} {p q : Nat} (h : MtR U L N d) (b : StB N d p q) (hp : p < 3) (hq : q < 8) (n0 : N p q ≠ 0) (ep : I 114 114 = Int32.ofInt (p : Int)) : ∀ (k x n : Nat) (J : Nat → Nat → Int64), x + k = 3 → k < n → MatM J (mxU U L p q x) (mxL U L p q x) → ∃ J', gX12_clear_l154 σ R n I J (Int32.ofInt (q : Int)) (Int32.ofInt (x : Int)) = some (u2 (u2 I 191 p (Int32.ofInt (q : Int))) 114 114 (Int32.ofInt ((p + 1 : Nat) : Int)), J') ∧ MatM J' (mxU U L p q 3) (mxL U L p q 3) ∧ (∀ a j, a ≠ 189 → a ≠ 190 → J' a j = J a j) := by
  obtain ⟨F, hF⟩ : ∃ F, FUx = F := ⟨_, rfl⟩
  have hF' : F = 2000000 := by rw [← hF, FUx_eq]
  have gp : ¬ (Int32.ofInt (p : Int) < 0 ∨ 3 ≤ Int32.toNatClampNeg (Int32.ofInt (p : Int))) := by rw [i_gd (by omega)]; exact id
  have np : Int32.toNatClampNeg (Int32.ofInt (p : Int)) = p := by rw [i_tn (by omega), Int.toNat_natCast]
  have epp : Int32.ofInt (p : Int) + 1 = Int32.ofInt ((p + 1 : Nat) : Int) := by rw [i_addl]; rfl
  have i0 : (0 : Int32) = Int32.ofInt ((0 : Nat) : Int) := rfl
  intro k
  induction k with
  | zero =>
    intro x n J h1 h2 h3
    obtain ⟨n, rfl⟩ : ∃ m, n = m + 1 := ⟨n - 1, by omega⟩
    obtain rfl : x = 3 := by omega
    refine ⟨J, ?_, h3, fun _ _ _ _ => rfl⟩
    rw [gX12_clear_l154, if_pos (by rw [i_ler (by omega)]; omega), ep, if_pos gp]
    dsimp only
    rw [u2n (by omega), np, ep, epp]
  | succ k ih =>
    intro x n J h1 h2 h3
    obtain ⟨n, rfl⟩ : ∃ m, n = m + 1 := ⟨n - 1, by omega⟩
    have hx : x < 3 := by omega
    have ei : (8 : Int32) * Int32.ofInt (x : Int) + Int32.ofInt (q : Int) = Int32.ofInt ((8 * x + q : Nat) : Int) := by rw [i_mulr, i_add, Int.natCast_add, Int.natCast_mul]; rfl
    have gi : ¬ (Int32.ofInt ((8 * x + q : Nat) : Int) < 0 ∨ 24 ≤ Int32.toNatClampNeg (Int32.ofInt ((8 * x + q : Nat) : Int))) := by rw [i_gd (by omega)]; exact id
    have ni : Int32.toNatClampNeg (Int32.ofInt ((8 * x + q : Nat) : Int)) = 8 * x + q := by rw [i_tn (by omega), Int.toNat_natCast]
    have ex : Int32.ofInt (x : Int) + 1 = Int32.ofInt ((x + 1 : Nat) : Int) := by rw [i_addl]; rfl
    have hd : ∀ X : Option ((Nat → Nat → Int32) × (Nat → Nat → Int64)), gX12_clear_l191 (gX12_clear_l154 σ R n) σ R F I J (Int32.ofInt (q : Int)) (Int32.ofInt (x : Int)) (J 189 (8 * x + q)) (J 190 (8 * x + q)) (Int32.ofInt ((0 : Nat) : Int)) = X → gX12_clear_l154 σ R (n + 1) I J (Int32.ofInt (q : Int)) (Int32.ofInt (x : Int)) = X := fun X hX => by
      rw [gX12_clear_l154, if_neg (by rw [i_ler (by omega)]; omega), ei]
      simp only [if_pos gi]
      rw [ni, hF]
      exact hX
    by_cases e : x = p
    · obtain ⟨J', a1, a2, a3⟩ := ih (x + 1) n J (by omega) (by omega) (fun r c hr hc => by rw [(mx_s (Or.inr e)).1, (mx_s (Or.inr e)).2]; exact h3 r c hr hc)
      refine ⟨J', hd _ ?_, a2, a3⟩
      obtain ⟨m, rfl⟩ : ∃ m, F = m + 1 := ⟨F - 1, by omega⟩
      rw [gX12_clear_l191, if_neg (by rw [i_ler (by omega)]; omega), if_pos (by rw [ep, e]), ex]
      exact a1
    · have m1 := fun c (hc : c < 8) => h3 x c hx hc
      have m2 := fun c (hc : c < 8) => h3 p c hp hc
      have eU : ∀ c, c < 8 → J 189 (8 * x + c) = Int64.ofInt (U x c) ∧ J 190 (8 * x + c) = Int64.ofInt (L x c) := fun c hc => by
        have := m1 c hc
        rwa [(mx_g e (Nat.lt_irrefl x)).1, (mx_g e (Nat.lt_irrefl x)).2] at this
      have eV : ∀ c, c < 8 → J 189 (8 * p + c) = Int64.ofInt (dvU U L p q c) ∧ J 190 (8 * p + c) = Int64.ofInt (dvL U L p q c) := fun c hc => by
        have := m2 c hc
        rwa [mx_p.1, mx_p.2] at this
      have bU : (U x q).natAbs ≤ 20000 := (st_tk h b hp hq hx hq e n0).2.2.1
      by_cases z : U x q = 0
      · obtain ⟨J', a1, a2, a3⟩ := ih (x + 1) n J (by omega) (by omega) (fun r c hr hc => by
          by_cases y : r = x
          · subst y
            have w := tk_0 h hp hq hx hc n0 z
            rw [(mx_l e (by omega)).1, (mx_l e (by omega)).2, w.1, w.2]
            exact eU c hc
          · rw [(mx_s (Or.inl y)).1, (mx_s (Or.inl y)).2]
            exact h3 r c hr hc)
        refine ⟨J', hd _ ?_, a2, a3⟩
        obtain ⟨m, rfl⟩ : ∃ m, F = m + 1 := ⟨F - 1, by omega⟩
        rw [gX12_clear_l191, if_neg (by rw [i_ler (by omega)]; omega), if_neg (by rw [ep, i_eq (by omega) (by omega)]; omega), if_pos (by rw [(eU q hq).1, z]; rfl), ex]
        exact a1
      · obtain ⟨J1, t1, t2, t3⟩ := takM_r (q154 := gX12_clear_l154 σ R n) (σ := σ) (R := R) (I := I) (x1 := Int32.ofInt (q : Int)) (r := x) (p := p) (U := U x) (L := L x) (V := dvU U L p q) (W := dvL U L p q) (o := U x q) (d := L x q) hx hp e ep z (fun j hj => st_tk h b hp hq hx hj e n0) 8 0 F J (by omega) (by omega) (fun j _ hj => eU j hj) (fun j hj => eV j hj)
        obtain ⟨J', a1, a2, a3⟩ := ih (x + 1) n J1 (by omega) (by omega) (fun r c hr hc => by
          by_cases y : r = x
          · subst y
            rw [(mx_l e (by omega)).1, (mx_l e (by omega)).2]
            exact t2 c (by omega) hc
          · rw [(mx_s (Or.inl y)).1, (mx_s (Or.inl y)).2, t3 _ _ (by omega), t3 _ _ (by omega)]
            exact h3 r c hr hc)
        refine ⟨J', hd _ ?_, a2, fun a j w w' => by rw [a3 a j w w', t3 a j (by omega)]⟩
        rw [(eU q hq).1, (eU q hq).2, t1]
        exact a1
