/-! ===== day: a pest's day ===== -/
def tS (s a b : Nat → Nat) (y k : Nat) : Int64 := if k = 0 then Int64.ofInt ((s 3 * y / 100 : Nat) : Int) + outS 3 (s 0) (w3 (a 0) (b 0)) 1 else outS 3 (s (k - 1)) (w3 (a (k - 1)) (b (k - 1))) 0 + outS 3 (s k) (w3 (a k) (b k)) 1
def dS (s a b : Nat → Nat) (y k : Nat) : Int64 := fXM_minJ 1000000000 (tS s a b y k)
def PB (s a b : Nat → Nat) (y : Nat) : Prop := (∀ k, k < 4 → s k ≤ 1000000000 ∧ a k ≤ 1000 ∧ b k ≤ 1000) ∧ y ≤ 1000
theorem dS_b {s a b : Nat → Nat} {y k : Nat} (h : PB s a b y) (hk : k < 4) : ∃ v : Nat, v ≤ 1000000000 ∧ dS s a b y k = Int64.ofInt (v : Int) := by
  have t : ∃ v : Nat, v ≤ 5000000000000 ∧ tS s a b y k = Int64.ofInt (v : Int) := by
    unfold tS
    by_cases c : k = 0
    · rw [if_pos c]
      obtain ⟨v, hv, e⟩ := outS_b (k := 1) (h.1 0 (by omega)).2.1 (h.1 0 (by omega)).2.2 (h.1 0 (by omega)).1
      have m := Nat.mul_le_mul (h.1 3 (by omega)).1 h.2
      have d := Nat.div_le_self (s 3 * y) 100
      obtain ⟨g, hg⟩ : ∃ g, g = s 3 * y / 100 := ⟨_, rfl⟩
      rw [← hg] at d ⊢
      exact ⟨g + v, by omega, by rw [e, j_add, show (g : Int) + (v : Int) = ((g + v : Nat) : Int) by omega]⟩
    · rw [if_neg c]
      obtain ⟨v, hv, e⟩ := outS_b (k := 0) (h.1 (k - 1) (by omega)).2.1 (h.1 (k - 1) (by omega)).2.2 (h.1 (k - 1) (by omega)).1
      obtain ⟨v', hv', e'⟩ := outS_b (k := 1) (h.1 k hk).2.1 (h.1 k hk).2.2 (h.1 k hk).1
      exact ⟨v + v', by omega, by rw [e, e', j_add, show (v : Int) + (v' : Int) = ((v + v' : Nat) : Int) by omega]⟩
  obtain ⟨v, hv, e⟩ := t
  unfold dS fXM_minJ
  rw [e]
  by_cases c : v < 1000000000
  · rw [if_pos (by rw [j_ltl (by omega)]; omega)]
    exact ⟨v, by omega, rfl⟩
  · rw [if_neg (by rw [j_ltl (by omega)]; omega)]
    exact ⟨1000000000, by omega, rfl⟩
theorem c30 {σ : Shp} {I : Nat → Nat → Int32} {R : Nat → Nat → Option Nat} {p F : Nat} (hF : FUx = F) : ∀ (u k f : Nat) (J : Nat → Nat → Int64), u < f → k + u = 4 → ∃ J', gX5_dayOf_l30 σ I R f J (Int32.ofInt p) (Int32.ofInt k) = gX5_dayOf_l50 σ I R F J' (Int32.ofInt p) 0 ∧ Ag [(107, 108)] J J' ∧ (∀ i, k ≤ i → i < 4 → J' 107 i = 0) ∧ (∀ i, i < k → J' 107 i = J 107 i) := by
  intro u
  induction u with
  | zero =>
    intro k f J hf hk
    obtain ⟨f, rfl⟩ : ∃ m, f = m + 1 := ⟨f - 1, by omega⟩
    obtain rfl : k = 4 := by omega
    refine ⟨J, ?_, Ag.rf, fun i h1 h2 => by omega, fun _ _ => rfl⟩
    rw [gX5_dayOf_l30, if_pos (by decide), hF]
  | succ u ih =>
    intro k f J hf hk
    obtain ⟨f, rfl⟩ : ∃ m, f = m + 1 := ⟨f - 1, by omega⟩
    obtain ⟨J', r1, r2, r3, r4⟩ := ih (k + 1) f (u2 J 107 k 0) (by omega) (by omega)
    refine ⟨J', ?_, Ag.tr (Ag.st Ag.rf rfl) r2, fun i h1 h2 => ?_, fun i h => by rw [r4 i (by omega), u2n (by omega)]⟩
    · rw [gX5_dayOf_l30, if_neg (by rw [i_ler (by omega)]; omega), if_pos (by rw [i_gd (by omega)]; exact id), t41 (by omega)]
      dsimp only
      rw [iadd1]
      exact r1
    · by_cases c : i = k
      · rw [c, r4 k (by omega), u2_self]
      · exact r3 i (by omega) h2
theorem c179 {σ : Shp} {I : Nat → Nat → Int32} {R : Nat → Nat → Option Nat} {p : Nat} (hp : p < 2) : ∀ (u k f : Nat) (J : Nat → Nat → Int64), u < f → k + u = 4 → ∃ J', gX5_dayOf_l179 σ I R f J (Int32.ofInt p) (Int32.ofInt k) = some J' ∧ (∀ i, k ≤ i → i < 4 → J' (93 + p) i = fXM_minJ 1000000000 (J 107 i)) ∧ (∀ i, i < k → J' (93 + p) i = J (93 + p) i) ∧ (∀ x i, x ≠ 93 + p → J' x i = J x i) := by
  intro u
  induction u with
  | zero =>
    intro k f J hf hk
    obtain ⟨f, rfl⟩ : ∃ m, f = m + 1 := ⟨f - 1, by omega⟩
    obtain rfl : k = 4 := by omega
    refine ⟨J, ?_, fun i h1 h2 => by omega, fun _ _ => rfl, fun _ _ _ => rfl⟩
    rw [gX5_dayOf_l179, if_pos (by decide)]
  | succ u ih =>
    intro k f J hf hk
    obtain ⟨f, rfl⟩ : ∃ m, f = m + 1 := ⟨f - 1, by omega⟩
    obtain ⟨J', r1, r2, r3, r4⟩ := ih (k + 1) f (u2 J (93 + p) k (fXM_minJ 1000000000 (J 107 k))) (by omega) (by omega)
    refine ⟨J', ?_, fun i h1 h2 => ?_, fun i h => by rw [r3 i (by omega), u2n (by omega)], fun x i h => by rw [r4 x i h, u2n (by omega)]⟩
    · rw [gX5_dayOf_l179, if_neg (by rw [i_ler (by omega)]; omega), if_pos (by rw [i_gd (by omega)]; exact id), if_pos (by rw [i_gd (by omega)]; exact id), if_pos (by rw [i_gd (by omega)]; exact id), t41 (by omega), t41 (by omega)]
      dsimp only
      rw [iadd1]
      exact r1
    · by_cases c : i = k
      · rw [c, r3 k (by omega), u2_self]
      · rw [r2 i (by omega) h2, u2n (by omega)]
theorem dayC {σ : Shp} {I : Nat → Nat → Int32} {J : Nat → Nat → Int64} {R : Nat → Nat → Option Nat} {p y : Nat} {s a b : Nat → Nat} (hS : Skel σ R) (hp : p < 2) (hB : PB s a b y) (e1 : ∀ k, k < 4 → I (96 + p) k = Int32.ofInt (a k : Int)) (e2 : ∀ k, k < 4 → I (99 + p) k = Int32.ofInt (b k : Int)) (e3 : ∀ k, k < 4 → J (93 + p) k = Int64.ofInt (s k : Int)) (e4 : I (102 + p) 3 = Int32.ofInt (y : Int)) : ∃ J', gX5_dayOf σ I J R (Int32.ofInt p) = some J' ∧ (∀ k, k < 4 → J' (93 + p) k = dS s a b y k) ∧ Ag [(93, 95), (104, 108)] J J' ∧ (∀ q i, q < 2 → q ≠ p → J' (93 + q) i = J (93 + q) i) := by
  obtain ⟨F, hF⟩ : ∃ F, FUx = F := ⟨_, rfl⟩
  have hF' : F = 2000000 := by rw [← hF, FUx_eq]
  obtain ⟨f, rfl⟩ : ∃ f, F = f + 1 + 1 + 1 + 1 + 1 := ⟨1999995, by rw [hF']⟩
  have m := Nat.mul_le_mul (hB.1 3 (by omega)).1 hB.2
  have hy := hB.2
  have y1 : J (93 + p) 3 * Int32.toInt64 (I (102 + p) 3) / 100 = Int64.ofInt ((s 3 * y / 100 : Nat) : Int) := by
    rw [e3 3 (by omega), e4, i_w (by omega), j_mul, show (s 3 : Int) * (y : Int) = ((s 3 * y : Nat) : Int) from by push_cast; rfl, show (100 : Int64) = Int64.ofInt ((100 : Nat) : Int) from rfl, j_div (by omega) (by omega)]
  obtain ⟨J0, a1, a2, a3, a4⟩ := c30 (σ := σ) (I := I) (R := R) (p := p) hF 3 1 (f + 1 + 1 + 1 + 1 + 1) (u2 J 107 0 (Int64.ofInt ((s 3 * y / 100 : Nat) : Int))) (by omega) (by omega)
  have c0 : J0 107 0 = Int64.ofInt ((s 3 * y / 100 : Nat) : Int) := by rw [a4 0 (by omega), u2_self]
  have A0 : Ag [(104, 108)] J J0 := Ag.tr (Ag.st Ag.rf rfl) (a2.mv rfl)
  have o93 : ∀ {X : Nat → Nat → Int64}, Ag [(104, 108)] J X → ∀ k, k < 4 → X (93 + p) k = Int64.ofInt (s k : Int) := fun h k hk => by
    rw [h (93 + p) k (by rcases (show p = 0 ∨ p = 1 by omega) with rfl | rfl <;> rfl)]
    exact e3 k hk
  obtain ⟨J1, b1, b2, b3, b4, b5⟩ := stC hS hp (show 0 < 4 by omega) (hB.1 0 (by omega)).2.1 (hB.1 0 (by omega)).2.2 (hB.1 0 (by omega)).1 (e1 0 (by omega)) (e2 0 (by omega)) (o93 A0 0 (by omega)) (f + 1 + 1 + 1 + 1)
  have A1 := A0.tr b2
  obtain ⟨J2, d1, d2, d3, d4, d5⟩ := stC hS hp (show 1 < 4 by omega) (hB.1 1 (by omega)).2.1 (hB.1 1 (by omega)).2.2 (hB.1 1 (by omega)).1 (e1 1 (by omega)) (e2 1 (by omega)) (o93 A1 1 (by omega)) (f + 1 + 1 + 1)
  have A2 := A1.tr d2
  obtain ⟨J3, g1, g2, g3, g4, g5⟩ := stC hS hp (show 2 < 4 by omega) (hB.1 2 (by omega)).2.1 (hB.1 2 (by omega)).2.2 (hB.1 2 (by omega)).1 (e1 2 (by omega)) (e2 2 (by omega)) (o93 A2 2 (by omega)) (f + 1 + 1)
  have A3 := A2.tr g2
  obtain ⟨J4, h1, h2, h3, h4, h5⟩ := stC hS hp (show 3 < 4 by omega) (hB.1 3 (by omega)).2.1 (hB.1 3 (by omega)).2.2 (hB.1 3 (by omega)).1 (e1 3 (by omega)) (e2 3 (by omega)) (o93 A3 3 (by omega)) (f + 1)
  have A4 := A3.tr h2
  have T : ∀ k, k < 4 → J4 107 k = tS s a b y k := by
    intro k hk
    unfold tS
    rcases (show k = 0 ∨ k = 1 ∨ k = 2 ∨ k = 3 by omega) with rfl | rfl | rfl | rfl
    · rw [if_pos rfl, h5 0 (by omega) (by omega), g5 0 (by omega) (by omega), d5 0 (by omega) (by omega), b3, c0]
    · rw [if_neg (by omega), h5 1 (by omega) (by omega), g5 1 (by omega) (by omega), d3, b4 (by omega), a3 1 (by omega) (by omega), Int64.zero_add]
    · rw [if_neg (by omega), h5 2 (by omega) (by omega), g3, d4 (by omega), b5 2 (by omega) (by omega), a3 2 (by omega) (by omega), Int64.zero_add]
    · rw [if_neg (by omega), h3, g4 (by omega), d5 3 (by omega) (by omega), b5 3 (by omega) (by omega), a3 3 (by omega) (by omega), Int64.zero_add]
  obtain ⟨J5, i1, i2, i3, i4⟩ := c179 (σ := σ) (I := I) (R := R) hp 4 0 (f + 1 + 1 + 1 + 1 + 1) J4 (by omega) (by omega)
  refine ⟨J5, ?_, fun k hk => ?_, fun x i hx => ?_, fun q i h6 h7 => ?_⟩
  · have l4 : gX5_dayOf_l50 σ I R (f + 1) J4 (Int32.ofInt p) (Int32.ofInt ((3 + 1 : Nat) : Int)) = some J5 := by
      rw [gX5_dayOf_l50, if_pos (by decide), hF]
      exact i1
    unfold gX5_dayOf
    dsimp only
    rw [if_pos (by rw [i_gd (by omega)]; exact id), if_pos (by decide), if_pos (by rw [i_gd (by omega)]; exact id), if_pos (by decide), if_pos (by decide), t41 (by omega), show Int32.toNatClampNeg (3 : Int32) = 3 from rfl, show Int32.toNatClampNeg (0 : Int32) = 0 from rfl, y1, hF]
    have a1' : gX5_dayOf_l30 σ I R (f + 1 + 1 + 1 + 1 + 1) (u2 J 107 0 (Int64.ofInt ((s 3 * y / 100 : Nat) : Int))) (Int32.ofInt p) 1 = _ := a1
    have b1' : gX5_dayOf_l50 σ I R (f + 1 + 1 + 1 + 1 + 1) J0 (Int32.ofInt p) 0 = _ := b1
    rw [a1', b1', d1, g1, h1, l4]
  · rw [i2 k (by omega) hk, T k hk]
    rfl
  · have ne : x ≠ 93 + p := fun e => by
      rw [e] at hx
      rcases (show p = 0 ∨ p = 1 by omega) with rfl | rfl
      · exact absurd hx (by rw [show inW [(93, 95), (104, 108)] (key (93 + 0) i) = true from rfl]; decide)
      · exact absurd hx (by rw [show inW [(93, 95), (104, 108)] (key (93 + 1) i) = true from rfl]; decide)
    rw [i4 x i ne]
    exact (A4.mv (M := [(93, 95), (104, 108)]) rfl) x i hx
  · rw [i4 (93 + q) i (by omega)]
    exact A4 (93 + q) i (by rcases (show q = 0 ∨ q = 1 by omega) with rfl | rfl <;> rfl)
/-- one stage, in the model -/
theorem stM {σ : Shp} {I : Nat → Nat → Int32} {J : Nat → Nat → Int64} {R : Nat → Nat → Option Nat} {p k n a b : Nat} (hp : p < 2) (hk : k < 4) (ha : a ≤ 1000) (hb : b ≤ 1000) (hn : n ≤ 1000000000) (e1 : I 196 (4 * p + k) = Int32.ofInt (a : Int)) (e2 : I 197 (4 * p + k) = Int32.ofInt (b : Int)) (e3 : J 195 (4 * p + k) = Int64.ofInt (n : Int)) (f : Nat) : ∃ J', gX12_oneDay_l26 σ I R (f + 1) J (Int32.ofInt p) (Int32.ofInt k) = gX12_oneDay_l26 σ I R f J' (Int32.ofInt p) (Int32.ofInt ((k + 1 : Nat) : Int)) ∧ Ag [(184, 187), (199, 200)] J J' ∧ J' 199 (4 * p + k) = J 199 (4 * p + k) + outS 3 n (w3 a b) 1 ∧ (k < 3 → J' 199 (4 * p + (k + 1)) = J 199 (4 * p + (k + 1)) + outS 3 n (w3 a b) 0) ∧ (∀ i, i ≠ k → i ≠ k + 1 → J' 199 (4 * p + i) = J 199 (4 * p + i)) := by
  have ev : (4 : Int32) * Int32.ofInt (p : Int) + Int32.ofInt (k : Int) = Int32.ofInt ((4 * p + k : Nat) : Int) := by
    rw [i_mulr, i_add, show (4 : Int) * (p : Int) + (k : Int) = ((4 * p + k : Nat) : Int) by omega]
  have gv : ¬ (Int32.ofInt ((4 * p + k : Nat) : Int) < 0 ∨ 8 ≤ 4 * p + k) := by rw [i_ltl (by omega)]; omega
  have tv := t41 (t := 4 * p + k) (by omega)
  have q0' : ¬ ((0 : Int32) < 0 ∨ 40 ≤ 0) := by decide
  have q1' : ¬ ((1 : Int32) < 0 ∨ 40 ≤ 1) := by decide
  have q2' : ¬ ((2 : Int32) < 0 ∨ 40 ≤ 2) := by decide
  have t0 : Int32.toNatClampNeg (0 : Int32) = 0 := rfl
  have t1 : Int32.toNatClampNeg (1 : Int32) = 1 := rfl
  have t2 : Int32.toNatClampNeg (2 : Int32) = 2 := rfl
  have eC : Int32.toInt64 ((2000 : Int32) - Int32.ofInt (a : Int) - Int32.ofInt (b : Int)) = Int64.ofInt ((2000 - a - b : Nat) : Int) := by
    rw [i_subr, i_sub, show (2000 : Int) - (a : Int) - (b : Int) = ((2000 - a - b : Nat) : Int) by omega, i_w (by omega)]
  obtain ⟨J2, s1, s2, s3⟩ := outM (σ := σ) (R := R) (J := u2 (u2 (u2 J 186 0 (Int64.ofInt (a : Int))) 186 1 (Int64.ofInt (b : Int))) 186 2 (Int64.ofInt ((2000 - a - b : Nat) : Int))) (n := n) ha hb hn (by rw [u2n (by omega), u2n (by omega), u2_self]) (by rw [u2n (by omega), u2_self]) (u2_self _ _ _ _)
  have aJ : Ag [(184, 187)] J J2 := Ag.tr (Ag.st (Ag.st (Ag.st Ag.rf rfl) rfl) rfl) (s2.mv rfl)
  have o7 : ∀ i, J2 199 i = J 199 i := fun i => aJ 199 i rfl
  have u : gX12_oneDay_l26 σ I R (f + 1) J (Int32.ofInt p) (Int32.ofInt k) = if (3 : Int32) ≤ Int32.ofInt (k : Int) then gX12_oneDay_l26 σ I R f (u2 J2 199 (4 * p + k) (J2 199 (4 * p + k) + J2 184 1)) (Int32.ofInt p) (Int32.ofInt ((k + 1 : Nat) : Int)) else (if ¬ (Int32.ofInt ((4 * p + k + 1 : Nat) : Int) < 0 ∨ 8 ≤ 4 * p + k + 1) then gX12_oneDay_l26 σ I R f (u2 (u2 J2 199 (4 * p + k) (J2 199 (4 * p + k) + J2 184 1)) 199 (4 * p + k + 1) (u2 J2 199 (4 * p + k) (J2 199 (4 * p + k) + J2 184 1) 199 (4 * p + k + 1) + u2 J2 199 (4 * p + k) (J2 199 (4 * p + k) + J2 184 1) 184 0)) (Int32.ofInt p) (Int32.ofInt ((k + 1 : Nat) : Int)) else none) := by
    rw [gX12_oneDay_l26, if_neg (by rw [i_ler (by omega)]; omega)]
    dsimp only
    simp only [ev, if_pos gv, if_pos q0', if_pos q1', if_pos q2', tv, t0, t1, t2, e1, e2, eC, i_w (i := (a : Int)) (show -2147483648 ≤ (a : Int) ∧ (a : Int) < 2147483648 by omega), i_w (i := (b : Int)) (show -2147483648 ≤ (b : Int) ∧ (b : Int) < 2147483648 by omega), iadd1, t41 (t := 4 * p + k + 1) (show 4 * p + k + 1 < 2147483648 by omega)]
    rw [show u2 (u2 (u2 J 186 0 (Int64.ofInt (a : Int))) 186 1 (Int64.ofInt (b : Int))) 186 2 (Int64.ofInt ((2000 - a - b : Nat) : Int)) 195 (4 * p + k) = Int64.ofInt (n : Int) from by rw [u2n (by omega), u2n (by omega), u2n (by omega), e3], s1, ob_some]
  by_cases c : k = 3
  · rw [if_pos (by rw [i_ler (by omega)]; omega)] at u
    refine ⟨_, u, Ag.st (aJ.mv rfl) rfl, ?_, fun h => by omega, fun i h1 h2 => ?_⟩
    · rw [u2_self, o7, s3 1 (by omega)]
    · rw [u2n (by omega), o7]
  · rw [if_neg (by rw [i_ler (by omega)]; omega), if_pos (by rw [i_ltl (by omega)]; omega)] at u
    refine ⟨_, u, Ag.st (Ag.st (aJ.mv rfl) rfl) rfl, ?_, fun h => ?_, fun i h1 h2 => ?_⟩
    · rw [u2n (by omega), u2_self, o7, s3 1 (by omega)]
    · rw [u2s ⟨rfl, by omega⟩, u2n (by omega), u2n (by omega), o7, s3 0 (by omega)]
      rfl
    · rw [u2n (by omega), u2n (by omega), o7]
