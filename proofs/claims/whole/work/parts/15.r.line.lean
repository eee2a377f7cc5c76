/-! ===== tables: lines on both sides ===== -/
def LnB (n : Nat) (X Y : Nat → Int) : Prop := n ≤ 8 ∧ (∀ k, k + 1 < n → X k < X (k + 1)) ∧ ∀ k, k < 8 → -1000000 ≤ X k ∧ X k ≤ 1000000 ∧ -1000000 ≤ Y k ∧ Y k ≤ 1000000
theorem i8 {t : Nat} (h : t < 8) : ¬ (Int32.ofInt (t : Int) < 0 ∨ 8 ≤ Int32.toNatClampNeg (Int32.ofInt (t : Int))) := by rw [i_gd (by omega)]; exact id
theorem i8p {t : Nat} (h : t < 8) : ¬ (Int32.ofInt (t : Int) < 0 ∨ 8 ≤ t) := by rw [i_ltl (by omega)]; omega
theorem qb {a b c d : Int} (h1 : -2000000 ≤ a ∧ a ≤ 2000000) (h2 : 0 ≤ b ∧ b ≤ 2000000) : -4000000000000 ≤ a * b ∧ a * b ≤ 4000000000000 := by
  have e : (a * b).natAbs = a.natAbs * b.natAbs := Int.natAbs_mul a b
  have m := Nat.mul_le_mul (show a.natAbs ≤ 2000000 by omega) (show b.natAbs ≤ 2000000 by omega)
  omega
theorem qd {p w : Int} (h1 : -4000000000000 ≤ p ∧ p ≤ 4000000000000) (hw : 0 < w) : -4000000000000 ≤ p / w ∧ p / w ≤ 4000000000000 := by
  have a := Int.natAbs_ediv_le_natAbs p w
  omega
theorem lnC {σ : Shp} {I : Nat → Nat → Int32} {R : Nat → Nat → Option Nat} {t n : Nat} {X Y : Nat → Int} {x : Int} (ht : t < 3) (hB : LnB n X Y) (hx : -2147483648 ≤ x ∧ x < 2147483648) (e1 : I 36 t = Int32.ofInt (n : Int)) (e2 : ∀ k, k < 8 → I (29 + t) k = Int32.ofInt (X k)) (e3 : ∀ k, k < 8 → I (33 + t) k = Int32.ofInt (Y k)) : ∃ v, gX9_lineAt σ I R (Int32.ofInt t) (Int32.ofInt x) = some (Int32.ofInt v) ∧ LnV n X Y x v := by
  obtain ⟨F, hF⟩ : ∃ F, FUx = F := ⟨_, rfl⟩
  have hF' : F = 2000000 := by rw [← hF, FUx_eq]
  obtain ⟨b1, b2, b3⟩ := hB
  unfold gX9_lineAt
  dsimp only
  rw [hF, if_pos (i3 ht), t41 (t := t) (by omega), e1]
  by_cases c : n = 0
  · rw [if_pos (by rw [c]; rfl)]
    exact ⟨0, rfl, Or.inl ⟨c, rfl⟩⟩
  have en : Int32.ofInt (n : Int) - 1 = Int32.ofInt ((n - 1 : Nat) : Int) := by rw [i_subl, show (n : Int) - 1 = ((n - 1 : Nat) : Int) by omega]
  have bn := b3 (n - 1) (by omega)
  rw [if_neg (by rw [i_eql (by omega)]; omega), en, if_pos (i3p ht), if_pos (i8 (by omega)), t41 (t := n - 1) (by omega), e2 (n - 1) (by omega)]
  by_cases d : x < X (n - 1)
  case neg =>
    rw [if_neg (by rw [i_lt (by omega) (by omega)]; omega), if_pos (i3p ht), if_pos (i8p (by omega)), e3 (n - 1) (by omega)]
    exact ⟨_, rfl, Or.inr (Or.inl ⟨by omega, by omega, rfl⟩)⟩
  rw [if_pos (by rw [i_lt (by omega) (by omega)]; omega)]
  have lp : ∀ (u k f : Nat), u < f → k + u = n - 1 → (∀ q, q < k → X q ≤ x) → ∃ b, b ≤ n - 1 ∧ (∀ q, q < b → X q ≤ x) ∧ x < X b ∧ gX9_lineAt_l41 σ I R f (Int32.ofInt t) (Int32.ofInt x) (Int32.ofInt (n : Int)) (Int32.ofInt k) = gX9_lineAt_b68 σ I R (Int32.ofInt t) (Int32.ofInt x) (Int32.ofInt b) := by
    intro u
    induction u with
    | zero =>
      intro k f hf hk hq
      obtain ⟨f, rfl⟩ : ∃ m, f = m + 1 := ⟨f - 1, by omega⟩
      refine ⟨k, by omega, hq, by rw [show k = n - 1 by omega]; exact d, ?_⟩
      rw [gX9_lineAt_l41, en, if_pos (by rw [i_le (by omega) (by omega)]; omega)]
    | succ u ih =>
      intro k f hf hk hq
      obtain ⟨f, rfl⟩ : ∃ m, f = m + 1 := ⟨f - 1, by omega⟩
      have bk := b3 k (by omega)
      rw [gX9_lineAt_l41, en, if_neg (by rw [i_le (by omega) (by omega)]; omega), if_pos (i3 ht), if_pos (i8 (by omega)), t41 (t := t) (by omega), t41 (t := k) (by omega), e2 k (by omega)]
      by_cases g : x < X k
      · rw [if_pos (by rw [i_lt (by omega) (by omega)]; omega)]
        exact ⟨k, by omega, hq, g, rfl⟩
      · rw [if_neg (by rw [i_lt (by omega) (by omega)]; omega)]
        dsimp only
        rw [iadd1]
        exact ih (k + 1) f (by omega) (by omega) (fun q h => by
          by_cases e : q = k
          · rw [e]; omega
          · exact hq q (by omega))
  obtain ⟨b, r1, r2, r3, r4⟩ := lp (n - 1) 0 F (by omega) (by omega) (fun q h => by omega)
  have r4' : gX9_lineAt_l41 σ I R F (Int32.ofInt t) (Int32.ofInt x) (Int32.ofInt (n : Int)) 0 = _ := r4
  rw [r4']
  unfold gX9_lineAt_b68
  dsimp only
  by_cases g : b = 0
  · rw [if_pos (by rw [g]; rfl), if_pos (i3 ht), if_pos (by decide), t41 (t := t) (by omega), show Int32.toNatClampNeg (0 : Int32) = 0 from rfl, e3 0 (by omega)]
    exact ⟨_, rfl, Or.inr (Or.inr (Or.inl ⟨by omega, by rw [g] at r3; exact r3, rfl⟩))⟩
  have eb : Int32.ofInt (b : Int) - 1 = Int32.ofInt ((b - 1 : Nat) : Int) := by rw [i_subl, show (b : Int) - 1 = ((b - 1 : Nat) : Int) by omega]
  have x1 := b3 b (by omega)
  have x2 := b3 (b - 1) (by omega)
  have x3 := b2 (b - 1) (by omega)
  rw [show b - 1 + 1 = b by omega] at x3
  have x4 := r2 (b - 1) (by omega)
  have pb := qb (c := 0) (d := 0) (a := Y b - Y (b - 1)) (b := x - X (b - 1)) (by omega) (by omega)
  have db := qd (p := (Y b - Y (b - 1)) * (x - X (b - 1))) (w := X b - X (b - 1)) pb (by omega)
  have fl := (flo (p := (Y b - Y (b - 1)) * (x - X (b - 1))) (w := X b - X (b - 1)) (by omega) (by omega)).1
  rw [if_neg (by rw [i_eql (by omega)]; omega), eb, if_pos (i3 ht), if_pos (i8 (by omega)), if_pos (i8 (by omega)), t41 (t := t) (by omega), t41 (t := b) (by omega), t41 (t := b - 1) (by omega), e3 b (by omega), e3 (b - 1) (by omega), e2 b (by omega), e2 (b - 1) (by omega), if_pos (i3p ht), if_pos (i8p (by omega)), if_pos (i8p (by omega)), i_w (by omega), i_w (by omega), i_w (by omega), i_w (by omega), i_w (by omega), j_sub, j_sub, j_sub, j_mul, if_pos (by rw [j_ltr (by omega)]; omega), fl, ob_some, j_add, Int64.toInt32_ofInt]
  refine ⟨_, rfl, Or.inr (Or.inr (Or.inr ⟨b - 1, by omega, x4, ?_, ?_⟩))⟩
  · rw [show b - 1 + 1 = b by omega]; exact r3
  · rw [show b - 1 + 1 = b by omega]
theorem lnM {σ : Shp} {I : Nat → Nat → Int32} {R : Nat → Nat → Option Nat} {t n : Nat} {o : Int32} {X Y : Nat → Int} {x : Int} (ht : t < 3) (hB : LnB n X Y) (hx : -2147483648 ≤ x ∧ x < 2147483648) (e0 : I 162 t = o) (e1 : I 156 t = Int32.ofInt (n : Int)) (e2 : ∀ k, k < 8 → I 157 (8 * t + k) = Int32.ofInt (X k)) (e3 : ∀ k, k < 8 → I 158 (8 * t + k) = Int32.ofInt (Y k)) (hl : gX12_lay σ I R (Int32.ofInt t) = some I) : ∃ v, gX12_valueOf σ I R (Int32.ofInt t) (Int32.ofInt x) = some (I, o + Int32.ofInt v) ∧ LnV n X Y x v := by
  obtain ⟨F, hF⟩ : ∃ F, FUx = F := ⟨_, rfl⟩
  have hF' : F = 2000000 := by rw [← hF, FUx_eq]
  obtain ⟨b1, b2, b3⟩ := hB
  have z0 : ∀ z : Int32, z + Int32.ofInt 0 = z := fun z => by
    show z + 0 = z
    exact Int32.add_zero z
  have e8 : (8 : Int32) * Int32.ofInt (t : Int) = Int32.ofInt ((8 * t : Nat) : Int) := by rw [i_mulr, show (8 : Int) * (t : Int) = ((8 * t : Nat) : Int) by omega]
  have g24 : ∀ q, q < 24 → ¬ (Int32.ofInt (q : Nat) < 0 ∨ 24 ≤ Int32.toNatClampNeg (Int32.ofInt (q : Nat))) := fun q hq => by rw [i_gd (by omega)]; exact id
  have g24p : ∀ q, q < 24 → ¬ (Int32.ofInt (q : Nat) < 0 ∨ 24 ≤ q) := fun q hq => by rw [i_ltl (by omega)]; omega
  unfold gX12_valueOf
  rw [hF, hl, ob_some, if_pos (i3 ht), t41 (t := t) (by omega), e1]
  dsimp only
  by_cases c : n = 0
  · rw [if_pos (by rw [c]; rfl), if_pos (i3p ht), e0]
    exact ⟨0, by rw [z0], Or.inl ⟨c, rfl⟩⟩
  have bz := b3 0 (by omega)
  rw [if_neg (by rw [i_eql (by omega)]; omega), e8, if_pos (g24 _ (by omega)), t41 (t := 8 * t) (by omega), show I 157 (8 * t) = Int32.ofInt (X 0) from e2 0 (by omega)]
  by_cases d : X 0 < x
  case neg =>
    rw [if_neg (by rw [i_lt (by omega) (by omega)]; omega), if_pos (i3p ht), if_pos (g24p _ (by omega)), e0, show I 158 (8 * t) = Int32.ofInt (Y 0) from e3 0 (by omega)]
    refine ⟨_, rfl, ?_⟩
    by_cases g : x < X 0
    · exact Or.inr (Or.inr (Or.inl ⟨by omega, g, rfl⟩))
    · by_cases h1 : n = 1
      · exact Or.inr (Or.inl ⟨by omega, by rw [h1]; show X 0 ≤ x; omega, by rw [h1]⟩)
      · refine Or.inr (Or.inr (Or.inr ⟨0, by omega, by omega, ?_, ?_⟩))
        · have := b2 0 (by omega); omega
        · rw [show x - X 0 = 0 by omega, Int.mul_zero, Int.zero_ediv, Int.add_zero]
  rw [if_pos (by rw [i_lt (by omega) (by omega)]; omega)]
  have lp : ∀ (u k f : Nat), u < f → k + u = n - 1 → X k ≤ x → ∃ b, b ≤ n - 1 ∧ X b ≤ x ∧ (b = n - 1 ∨ x < X (b + 1)) ∧ gX12_valueOf_l55 σ R f I (Int32.ofInt t) (Int32.ofInt x) (Int32.ofInt (n : Int)) (Int32.ofInt ((8 * t + k : Nat) : Int)) = gX12_valueOf_b87 σ R I (Int32.ofInt t) (Int32.ofInt x) (Int32.ofInt (n : Int)) (Int32.ofInt ((8 * t + b : Nat) : Int)) := by
    intro u
    induction u with
    | zero =>
      intro k f hf hk hq
      obtain ⟨f, rfl⟩ : ∃ m, f = m + 1 := ⟨f - 1, by omega⟩
      refine ⟨k, by omega, hq, Or.inl (by omega), ?_⟩
      rw [gX12_valueOf_l55, e8, iadd, iadd1, if_pos (by rw [i_le (by omega) (by omega)]; omega)]
    | succ u ih =>
      intro k f hf hk hq
      obtain ⟨f, rfl⟩ : ∃ m, f = m + 1 := ⟨f - 1, by omega⟩
      have bk := b3 (k + 1) (by omega)
      rw [gX12_valueOf_l55, e8, iadd, iadd1, if_neg (by rw [i_le (by omega) (by omega)]; omega), if_pos (g24 _ (by omega)), t41 (t := 8 * t + k + 1) (by omega), show I 157 (8 * t + k + 1) = Int32.ofInt (X (k + 1)) from e2 (k + 1) (by omega)]
      by_cases g : x < X (k + 1)
      · rw [if_pos (by rw [i_lt (by omega) (by omega)]; omega)]
        exact ⟨k, by omega, hq, Or.inr g, rfl⟩
      · rw [if_neg (by rw [i_lt (by omega) (by omega)]; omega)]
        exact ih (k + 1) f (by omega) (by omega) (by omega)
  obtain ⟨b, r1, r2, r3, r4⟩ := lp (n - 1) 0 F (by omega) (by omega) (by omega)
  have r4' : gX12_valueOf_l55 σ R F I (Int32.ofInt t) (Int32.ofInt x) (Int32.ofInt (n : Int)) (Int32.ofInt ((8 * t : Nat) : Int)) = _ := r4
  rw [r4']
  unfold gX12_valueOf_b87
  rw [e8, iadd, iadd1]
  have x2 := b3 b (by omega)
  by_cases g : b = n - 1
  · rw [if_pos (by rw [show 8 * t + b + 1 = 8 * t + n by omega]), if_pos (i3 ht), if_pos (g24 _ (by omega)), t41 (t := t) (by omega), t41 (t := 8 * t + b) (by omega), e0, e3 b (by omega)]
    exact ⟨_, rfl, Or.inr (Or.inl ⟨by omega, by rw [← g]; exact r2, by rw [← g]⟩)⟩
  have r3 : x < X (b + 1) := by
    rcases r3 with h | h
    · exact absurd h g
    · exact h
  have x1 := b3 (b + 1) (by omega)
  have x3 := b2 b (by omega)
  have pb := qb (c := 0) (d := 0) (a := Y (b + 1) - Y b) (b := x - X b) (by omega) (by omega)
  have db := qd (p := (Y (b + 1) - Y b) * (x - X b)) (w := X (b + 1) - X b) pb (by omega)
  have fl := (flo (p := (Y (b + 1) - Y b) * (x - X b)) (w := X (b + 1) - X b) (by omega) (by omega)).2
  rw [if_neg (by rw [i_eq (by omega) (by omega)]; omega), if_pos (g24 _ (by omega)), if_pos (g24 _ (by omega)), if_pos (g24 _ (by omega)), if_pos (g24 _ (by omega)), t41 (t := 8 * t + b + 1) (by omega), t41 (t := 8 * t + b) (by omega), show I 158 (8 * t + b + 1) = Int32.ofInt (Y (b + 1)) from e3 (b + 1) (by omega), show I 157 (8 * t + b + 1) = Int32.ofInt (X (b + 1)) from e2 (b + 1) (by omega), e3 b (by omega), e2 b (by omega), i_sub, i_sub, i_sub, i_w (by omega), i_w (by omega), i_w (by omega), j_mul, fl, ob_some, if_pos (i3 ht), t41 (t := t) (by omega), e0, Int64.toInt32_ofInt, Int32.add_assoc, i_add]
  exact ⟨_, rfl, Or.inr (Or.inr (Or.inr ⟨b, by omega, r2, r3, rfl⟩))⟩
