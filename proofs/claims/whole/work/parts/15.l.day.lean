/-! ===== day: the model's pest, the days, the call ===== -/
theorem minE {t : Int64} : fXM_minJ 1000000000 t = if t ≤ 1000000000 then t else 1000000000 := by
  obtain ⟨v, h1, h2, rfl⟩ := repJ t
  unfold fXM_minJ
  by_cases c : v < 1000000000
  · rw [if_pos (by rw [j_ltl (by omega)]; omega), if_pos (by rw [j_lel (by omega)]; omega)]
  · rw [if_neg (by rw [j_ltl (by omega)]; omega)]
    by_cases d : v = 1000000000
    · rw [d]; decide
    · rw [if_neg (by rw [j_lel (by omega)]; omega)]
theorem d_ev {p k : Nat} : (4 : Int32) * Int32.ofInt (p : Int) + Int32.ofInt (k : Int) = Int32.ofInt ((4 * p + k : Nat) : Int) := by
  rw [i_mulr, i_add, show (4 : Int) * (p : Int) + (k : Int) = ((4 * p + k : Nat) : Int) by omega]
theorem md2 {σ : Shp} {I : Nat → Nat → Int32} {R : Nat → Nat → Option Nat} {p F : Nat} (hp : p < 2) (hF : FUx = F) : ∀ (u k f : Nat) (J : Nat → Nat → Int64), u < f → k + u = 4 → ∃ J', gX12_oneDay_l2 σ I R f J (Int32.ofInt p) (Int32.ofInt k) = gX12_oneDay_l26 σ I R F J' (Int32.ofInt p) 0 ∧ Ag [(199, 200)] J J' ∧ (∀ i, k ≤ i → i < 4 → J' 199 (4 * p + i) = 0) ∧ (∀ i, i < k → J' 199 (4 * p + i) = J 199 (4 * p + i)) := by
  intro u
  induction u with
  | zero =>
    intro k f J hf hk
    obtain ⟨f, rfl⟩ : ∃ m, f = m + 1 := ⟨f - 1, by omega⟩
    obtain rfl : k = 4 := by omega
    refine ⟨J, ?_, Ag.rf, fun i h1 h2 => by omega, fun _ _ => rfl⟩
    rw [gX12_oneDay_l2, if_pos (by decide), hF]
  | succ u ih =>
    intro k f J hf hk
    obtain ⟨f, rfl⟩ : ∃ m, f = m + 1 := ⟨f - 1, by omega⟩
    obtain ⟨J', r1, r2, r3, r4⟩ := ih (k + 1) f (u2 J 199 (4 * p + k) 0) (by omega) (by omega)
    refine ⟨J', ?_, Ag.tr (Ag.st Ag.rf rfl) r2, fun i h1 h2 => ?_, fun i h => by rw [r4 i (by omega), u2n (by omega)]⟩
    · rw [gX12_oneDay_l2, if_neg (by rw [i_ler (by omega)]; omega), d_ev, if_pos (by rw [i_gd (by omega)]; exact id), t41 (by omega)]
      dsimp only
      rw [iadd1]
      exact r1
    · by_cases c : i = k
      · rw [c, r4 k (by omega), u2_self]
      · exact r3 i (by omega) h2
theorem md180 {σ : Shp} {I : Nat → Nat → Int32} {R : Nat → Nat → Option Nat} {p : Nat} (hp : p < 2) : ∀ (u k f : Nat) (J : Nat → Nat → Int64), u < f → k + u = 4 → ∃ J', gX12_oneDay_l180 σ I R f J (Int32.ofInt p) (Int32.ofInt k) = some J' ∧ (∀ i, k ≤ i → i < 4 → J' 195 (4 * p + i) = fXM_minJ 1000000000 (J 199 (4 * p + i))) ∧ (∀ q, (q < 4 * p + k ∨ 4 * p + 4 ≤ q) → J' 195 q = J 195 q) ∧ Ag [(195, 196)] J J' := by
  intro u
  induction u with
  | zero =>
    intro k f J hf hk
    obtain ⟨f, rfl⟩ : ∃ m, f = m + 1 := ⟨f - 1, by omega⟩
    obtain rfl : k = 4 := by omega
    refine ⟨J, ?_, fun i h1 h2 => by omega, fun _ _ => rfl, Ag.rf⟩
    rw [gX12_oneDay_l180, if_pos (by decide)]
  | succ u ih =>
    intro k f J hf hk
    obtain ⟨f, rfl⟩ : ∃ m, f = m + 1 := ⟨f - 1, by omega⟩
    obtain ⟨J', r1, r2, r3, r4⟩ := ih (k + 1) f (u2 J 195 (4 * p + k) (fXM_minJ 1000000000 (J 199 (4 * p + k)))) (by omega) (by omega)
    refine ⟨J', ?_, fun i h1 h2 => ?_, fun q h => by rw [r3 q (by omega), u2n (by omega)], Ag.tr (Ag.st Ag.rf rfl) r4⟩
    · rw [gX12_oneDay_l180, if_neg (by rw [i_ler (by omega)]; omega), d_ev, if_pos (by rw [i_gd (by omega)]; exact id), t41 (by omega)]
      have g : ¬ (Int32.ofInt ((4 * p + k : Nat) : Int) < 0 ∨ 8 ≤ 4 * p + k) := by rw [i_ltl (by omega)]; omega
      rw [minE] at r1
      rw [if_pos g, if_pos g, iadd1]
      by_cases c : J 199 (4 * p + k) ≤ 1000000000
      · rw [if_pos c] at r1 ⊢
        exact r1
      · rw [if_neg c] at r1 ⊢
        exact r1
    · by_cases c : i = k
      · rw [c, r3 (4 * p + k) (by omega), u2_self]
      · rw [r2 i (by omega) h2, u2n (by omega)]
theorem dayM {σ : Shp} {I : Nat → Nat → Int32} {J : Nat → Nat → Int64} {R : Nat → Nat → Option Nat} {p y : Nat} {s a b : Nat → Nat} (hp : p < 2) (hB : PB s a b y) (e1 : ∀ k, k < 4 → I 196 (4 * p + k) = Int32.ofInt (a k : Int)) (e2 : ∀ k, k < 4 → I 197 (4 * p + k) = Int32.ofInt (b k : Int)) (e3 : ∀ k, k < 4 → J 195 (4 * p + k) = Int64.ofInt (s k : Int)) (e4 : I 198 (4 * p + 3) = Int32.ofInt (y : Int)) : ∃ J', gX12_oneDay σ I J R (Int32.ofInt p) = some J' ∧ (∀ k, k < 4 → J' 195 (4 * p + k) = dS s a b y k) ∧ Ag [(184, 187), (195, 196), (199, 200)] J J' ∧ (∀ q, (q < 4 * p ∨ 4 * p + 4 ≤ q) → J' 195 q = J 195 q) := by
  obtain ⟨F, hF⟩ : ∃ F, FUx = F := ⟨_, rfl⟩
  have hF' : F = 2000000 := by rw [← hF, FUx_eq]
  obtain ⟨f, rfl⟩ : ∃ f, F = f + 1 + 1 + 1 + 1 + 1 := ⟨1999995, by rw [hF']⟩
  have m := Nat.mul_le_mul (hB.1 3 (by omega)).1 hB.2
  have hy := hB.2
  obtain ⟨J0, a1, a2, a3, a4⟩ := md2 (σ := σ) (I := I) (R := R) hp hF 4 0 (f + 1 + 1 + 1 + 1 + 1) J (by omega) (by omega)
  have o5 : ∀ {X : Nat → Nat → Int64}, Ag [(184, 187), (199, 200)] J X → ∀ q, X 195 q = J 195 q := fun h q => h 195 q rfl
  have A0 : Ag [(184, 187), (199, 200)] J J0 := a2.mv rfl
  obtain ⟨J1, b1, b2, b3, b4, b5⟩ := stM (σ := σ) (R := R) (J := J0) hp (show 0 < 4 by omega) (hB.1 0 (by omega)).2.1 (hB.1 0 (by omega)).2.2 (hB.1 0 (by omega)).1 (e1 0 (by omega)) (e2 0 (by omega)) (by rw [o5 A0]; exact e3 0 (by omega)) (f + 1 + 1 + 1 + 1)
  have A1 := A0.tr b2
  obtain ⟨J2, d1, d2, d3, d4, d5⟩ := stM (σ := σ) (R := R) (J := J1) hp (show 1 < 4 by omega) (hB.1 1 (by omega)).2.1 (hB.1 1 (by omega)).2.2 (hB.1 1 (by omega)).1 (e1 1 (by omega)) (e2 1 (by omega)) (by rw [o5 A1]; exact e3 1 (by omega)) (f + 1 + 1 + 1)
  have A2 := A1.tr d2
  obtain ⟨J3, g1, g2, g3, g4, g5⟩ := stM (σ := σ) (R := R) (J := J2) hp (show 2 < 4 by omega) (hB.1 2 (by omega)).2.1 (hB.1 2 (by omega)).2.2 (hB.1 2 (by omega)).1 (e1 2 (by omega)) (e2 2 (by omega)) (by rw [o5 A2]; exact e3 2 (by omega)) (f + 1 + 1)
  have A3 := A2.tr g2
  obtain ⟨J4, h1, h2, h3, h4, h5⟩ := stM (σ := σ) (R := R) (J := J3) hp (show 3 < 4 by omega) (hB.1 3 (by omega)).2.1 (hB.1 3 (by omega)).2.2 (hB.1 3 (by omega)).1 (e1 3 (by omega)) (e2 3 (by omega)) (by rw [o5 A3]; exact e3 3 (by omega)) (f + 1)
  have A4 := A3.tr h2
  have y1 : J4 195 (4 * p + 3) * Int32.toInt64 (I 198 (4 * p + 3)) / 100 = Int64.ofInt ((s 3 * y / 100 : Nat) : Int) := by
    rw [o5 A4, e3 3 (by omega), e4, i_w (by omega), j_mul, show (s 3 : Int) * (y : Int) = ((s 3 * y : Nat) : Int) from by push_cast; rfl, show (100 : Int64) = Int64.ofInt ((100 : Nat) : Int) from rfl, j_div (by omega) (by omega)]
  have A5 : Ag [(184, 187), (199, 200)] J (u2 J4 199 (4 * p) (J4 199 (4 * p) + Int64.ofInt ((s 3 * y / 100 : Nat) : Int))) := Ag.st A4 rfl
  have T : ∀ k, k < 4 → u2 J4 199 (4 * p) (J4 199 (4 * p) + Int64.ofInt ((s 3 * y / 100 : Nat) : Int)) 199 (4 * p + k) = tS s a b y k := by
    intro k hk
    unfold tS
    rcases (show k = 0 ∨ k = 1 ∨ k = 2 ∨ k = 3 by omega) with rfl | rfl | rfl | rfl
    · rw [if_pos rfl, u2s ⟨rfl, by omega⟩, show 4 * p = 4 * p + 0 from rfl, h5 0 (by omega) (by omega), g5 0 (by omega) (by omega), d5 0 (by omega) (by omega), b3, a3 0 (by omega) (by omega), Int64.zero_add, Int64.add_comm]
    · rw [if_neg (by omega), u2n (by omega), h5 1 (by omega) (by omega), g5 1 (by omega) (by omega), d3, b4 (by omega), a3 1 (by omega) (by omega), Int64.zero_add]
    · rw [if_neg (by omega), u2n (by omega), h5 2 (by omega) (by omega), g3, d4 (by omega), b5 2 (by omega) (by omega), a3 2 (by omega) (by omega), Int64.zero_add]
    · rw [if_neg (by omega), u2n (by omega), h3, g4 (by omega), d5 3 (by omega) (by omega), b5 3 (by omega) (by omega), a3 3 (by omega) (by omega), Int64.zero_add]
  obtain ⟨J5, i1, i2, i3, i4⟩ := md180 (σ := σ) (I := I) (R := R) hp 4 0 (f + 1 + 1 + 1 + 1 + 1) (u2 J4 199 (4 * p) (J4 199 (4 * p) + Int64.ofInt ((s 3 * y / 100 : Nat) : Int))) (by omega) (by omega)
  refine ⟨J5, ?_, fun k hk => ?_, Ag.tr (A5.mv rfl) (i4.mv rfl), fun q hq => ?_⟩
  · have e40 : (4 : Int32) * Int32.ofInt (p : Int) = Int32.ofInt ((4 * p : Nat) : Int) := by rw [i_mulr, show (4 : Int) * (p : Int) = ((4 * p : Nat) : Int) by omega]
    have e43 : Int32.ofInt ((4 * p : Nat) : Int) + 3 = Int32.ofInt ((4 * p + 3 : Nat) : Int) := by rw [i_addl, show ((4 * p : Nat) : Int) + 3 = ((4 * p + 3 : Nat) : Int) by omega]
    have l4 : gX12_oneDay_l26 σ I R (f + 1) J4 (Int32.ofInt p) (Int32.ofInt ((3 + 1 : Nat) : Int)) = some J5 := by
      rw [gX12_oneDay_l26, if_pos (by decide), e40, e43, if_pos (by rw [i_gd (by omega)]; exact id), if_pos (by rw [i_gd (by omega)]; exact id), if_pos (by rw [i_gd (by omega)]; exact id), t41 (t := 4 * p) (by omega), t41 (t := 4 * p + 3) (by omega)]
      dsimp only
      rw [y1, hF]
      exact i1
    unfold gX12_oneDay
    rw [hF]
    have a1' : gX12_oneDay_l2 σ I R (f + 1 + 1 + 1 + 1 + 1) J (Int32.ofInt p) 0 = _ := a1
    have b1' : gX12_oneDay_l26 σ I R (f + 1 + 1 + 1 + 1 + 1) J0 (Int32.ofInt p) 0 = _ := b1
    rw [a1', b1', d1, g1, h1, l4]
  · rw [i2 k (by omega) hk, T k hk]
    rfl
  · rw [i3 q (by omega), o5 A5]
def nxS (A B : Nat → Nat → Nat) (Y : Nat → Nat) (S : Nat → Nat → Nat) : Nat → Nat → Nat := fun p k => (dS (S p) (A p) (B p) (Y p) k).toInt.toNat
def itS (A B : Nat → Nat → Nat) (Y : Nat → Nat) : Nat → (Nat → Nat → Nat) → (Nat → Nat → Nat)
  | 0, S => S
  | u + 1, S => itS A B Y u (nxS A B Y S)
def PA (A B : Nat → Nat → Nat) (Y : Nat → Nat) (S : Nat → Nat → Nat) : Prop := ∀ p, p < 2 → PB (S p) (A p) (B p) (Y p)
theorem nx_e {A B : Nat → Nat → Nat} {Y : Nat → Nat} {S : Nat → Nat → Nat} (h : PA A B Y S) {p k : Nat} (hp : p < 2) (hk : k < 4) : dS (S p) (A p) (B p) (Y p) k = Int64.ofInt (nxS A B Y S p k : Int) ∧ nxS A B Y S p k ≤ 1000000000 := by
  obtain ⟨v, hv, e⟩ := dS_b (h p hp) hk
  unfold nxS
  rw [e, tiJ (by omega) (by omega)]
  exact ⟨by rw [show (((v : Int).toNat : Nat) : Int) = (v : Int) by omega], by omega⟩
theorem PA.nx {A B : Nat → Nat → Nat} {Y : Nat → Nat} {S : Nat → Nat → Nat} (h : PA A B Y S) : PA A B Y (nxS A B Y S) := fun p hp => ⟨fun k hk => ⟨(nx_e h hp hk).2, ((h p hp).1 k hk).2⟩, (h p hp).2⟩
def QC (A B : Nat → Nat → Nat) (Y : Nat → Nat) (S : Nat → Nat → Nat) (d w : Nat) (I : Nat → Nat → Int32) (J : Nat → Nat → Int64) : Prop := (∀ p k, p < 2 → k < 4 → I (96 + p) k = Int32.ofInt (A p k : Int) ∧ I (99 + p) k = Int32.ofInt (B p k : Int) ∧ J (93 + p) k = Int64.ofInt (S p k : Int)) ∧ (∀ p, p < 2 → I (102 + p) 3 = Int32.ofInt (Y p : Int)) ∧ I 91 8 = Int32.ofInt (d : Int) ∧ I 91 9 = Int32.ofInt (w : Int)
def QM (A B : Nat → Nat → Nat) (Y : Nat → Nat) (S : Nat → Nat → Nat) (d w : Nat) (I : Nat → Nat → Int32) (J : Nat → Nat → Int64) : Prop := (∀ p k, p < 2 → k < 4 → I 196 (4 * p + k) = Int32.ofInt (A p k : Int) ∧ I 197 (4 * p + k) = Int32.ofInt (B p k : Int) ∧ J 195 (4 * p + k) = Int64.ofInt (S p k : Int)) ∧ (∀ p, p < 2 → I 198 (4 * p + 3) = Int32.ofInt (Y p : Int)) ∧ I 114 125 = Int32.ofInt (d : Int) ∧ I 114 126 = Int32.ofInt (w : Int)
theorem passC {σ : Shp} {I : Nat → Nat → Int32} {J : Nat → Nat → Int64} {R : Nat → Nat → Option Nat} {A B : Nat → Nat → Nat} {Y : Nat → Nat} {S : Nat → Nat → Nat} {d w : Nat} (hS : Skel σ R) (h : PA A B Y S) (q : QC A B Y S d w I J) (hd : d < 10000) (hw : w ≤ 7) : ∃ I' J', gX5_passDay σ I J R = some (I', J') ∧ QC A B Y (nxS A B Y S) (d + 1) (w - 1) I' J' ∧ Ag [(91, 92)] I I' ∧ Ag [(93, 95), (104, 108)] J J' := by
  obtain ⟨q1, q2, q3, q4⟩ := q
  obtain ⟨J1, a1, a2, a3, a4⟩ := dayC (p := 0) hS (by omega) (h 0 (by omega)) (fun k hk => (q1 0 k (by omega) hk).1) (fun k hk => (q1 0 k (by omega) hk).2.1) (fun k hk => (q1 0 k (by omega) hk).2.2) (q2 0 (by omega))
  obtain ⟨J2, b1, b2, b3, b4⟩ := dayC (J := J1) (p := 1) hS (by omega) (h 1 (by omega)) (fun k hk => (q1 1 k (by omega) hk).1) (fun k hk => (q1 1 k (by omega) hk).2.1) (fun k hk => by rw [a4 1 k (by omega) (by omega)]; exact (q1 1 k (by omega) hk).2.2) (q2 1 (by omega))
  have hF : FUx = 1999997 + 1 + 1 + 1 := rfl
  have p91 : ∀ x y : Nat, x < 2 → (96 + x ≠ 91 ∧ 99 + x ≠ 91 ∧ 102 + x ≠ 91) := fun x y hx => by omega
  have eS : ∀ p k, p < 2 → k < 4 → J2 (93 + p) k = Int64.ofInt (nxS A B Y S p k : Int) := fun p k hp hk => by
    rcases (show p = 0 ∨ p = 1 by omega) with rfl | rfl
    · rw [b4 0 k (by omega) (by omega), a2 k hk]; exact (nx_e h (by omega) hk).1
    · rw [b2 k hk]; exact (nx_e h (by omega) hk).1
  have u : gX5_passDay σ I J R = if u2 I 91 8 (Int32.ofInt ((d + 1 : Nat) : Int)) 91 9 ≤ 0 then some (u2 I 91 8 (Int32.ofInt ((d + 1 : Nat) : Int)), J2) else some (u2 (u2 I 91 8 (Int32.ofInt ((d + 1 : Nat) : Int))) 91 9 (u2 I 91 8 (Int32.ofInt ((d + 1 : Nat) : Int)) 91 9 - 1), J2) := by
    have a1' : gX5_dayOf σ I J R 0 = some J1 := a1
    have b1' : gX5_dayOf σ I J1 R (0 + 1) = some J2 := b1
    unfold gX5_passDay
    rw [hF, gX5_passDay_l2, if_neg (by decide), a1', ob_some]
    dsimp only
    rw [gX5_passDay_l2, if_neg (by decide), b1', ob_some]
    dsimp only
    rw [gX5_passDay_l2, if_pos (by decide), q3, iadd1]
  by_cases c : w = 0
  · rw [if_pos (by rw [u2n (by omega), q4, c]; decide)] at u
    refine ⟨_, J2, u, ⟨fun p k hp hk => ⟨?_, ?_, eS p k hp hk⟩, fun p hp => ?_, u2_self _ _ _ _, ?_⟩, Ag.st Ag.rf rfl, a3.tr b3⟩
    · rw [u2n (by omega)]; exact (q1 p k hp hk).1
    · rw [u2n (by omega)]; exact (q1 p k hp hk).2.1
    · rw [u2n (by omega)]; exact q2 p hp
    · rw [u2n (by omega), q4, show w - 1 = w by omega]
  · rw [if_neg (by rw [u2n (by omega), q4, i_lel (by omega)]; omega)] at u
    refine ⟨_, J2, u, ⟨fun p k hp hk => ⟨?_, ?_, eS p k hp hk⟩, fun p hp => ?_, ?_, ?_⟩, Ag.st (Ag.st Ag.rf rfl) rfl, a3.tr b3⟩
    · rw [u2n (by omega), u2n (by omega)]; exact (q1 p k hp hk).1
    · rw [u2n (by omega), u2n (by omega)]; exact (q1 p k hp hk).2.1
    · rw [u2n (by omega), u2n (by omega)]; exact q2 p hp
    · rw [u2n (by omega), u2_self]
    · rw [u2_self, u2n (by omega), q4, i_subl, show (w : Int) - 1 = ((w - 1 : Nat) : Int) by omega]
theorem lpC {σ : Shp} {R : Nat → Nat → Option Nat} {A B : Nat → Nat → Nat} {Y : Nat → Nat} {n : Nat} (hS : Skel σ R) (hn : n ≤ 50) : ∀ (u k f d w : Nat) (S : Nat → Nat → Nat) (I : Nat → Nat → Int32) (J : Nat → Nat → Int64), u < f → k + u = n → PA A B Y S → QC A B Y S d w I J → d + u ≤ 10000 → w ≤ 7 → ∃ I' J', gX11_day_l34 σ R f I J (Int32.ofInt n) (Int32.ofInt k) = some (I', J', Int32.ofInt ((d + u : Nat) : Int)) ∧ QC A B Y (itS A B Y u S) (d + u) (w - u) I' J' ∧ PA A B Y (itS A B Y u S) ∧ Ag [(91, 92)] I I' ∧ Ag [(93, 95), (104, 108)] J J' := by
  intro u
  induction u with
  | zero =>
    intro k f d w S I J hf hk h q hd hw
    obtain ⟨f, rfl⟩ : ∃ m, f = m + 1 := ⟨f - 1, by omega⟩
    refine ⟨I, J, ?_, q, h, Ag.rf, Ag.rf⟩
    rw [gX11_day_l34, if_pos (by rw [i_le (by omega) (by omega)]; omega), q.2.2.1]
    rfl
  | succ u ih =>
    intro k f d w S I J hf hk h q hd hw
    obtain ⟨f, rfl⟩ : ∃ m, f = m + 1 := ⟨f - 1, by omega⟩
    obtain ⟨I1, J1, a1, a2, a3, a4⟩ := passC hS h q (by omega) hw
    obtain ⟨I', J', r1, r2, r3, r4, r5⟩ := ih (k + 1) f (d + 1) (w - 1) _ I1 J1 (by omega) (by omega) h.nx a2 (by omega) (by omega)
    refine ⟨I', J', ?_, ?_, r3, a3.tr r4, a4.tr r5⟩
    · rw [gX11_day_l34, if_neg (by rw [i_le (by omega) (by omega)]; omega), a1, ob_some]
      dsimp only
      rw [iadd1, r1, show d + 1 + u = d + (u + 1) by omega]
    · rw [show d + (u + 1) = d + 1 + u by omega, show w - (u + 1) = w - 1 - u by omega]
      exact r2
theorem lpM {σ : Shp} {R : Nat → Nat → Option Nat} {A B : Nat → Nat → Nat} {Y : Nat → Nat} {n : Nat} (hn : n ≤ 50) : ∀ (u k f d w : Nat) (S : Nat → Nat → Nat) (I : Nat → Nat → Int32) (J : Nat → Nat → Int64), u < f → k + u = n → PA A B Y S → QM A B Y S d w I J → d + u ≤ 10000 → w ≤ 7 → ∃ I' J', gX12_day_l30 σ R f I J (Int32.ofInt n) (Int32.ofInt k) = some (I', J', Int32.ofInt ((d + u : Nat) : Int)) ∧ QM A B Y (itS A B Y u S) (d + u) (w - u) I' J' ∧ Ag [(1000125, 1000127)] I I' ∧ Ag [(184, 187), (195, 196), (199, 200)] J J' := by
  intro u
  induction u with
  | zero =>
    intro k f d w S I J hf hk h q hd hw
    obtain ⟨f, rfl⟩ : ∃ m, f = m + 1 := ⟨f - 1, by omega⟩
    refine ⟨I, J, ?_, q, Ag.rf, Ag.rf⟩
    rw [gX12_day_l30, if_pos (by rw [i_le (by omega) (by omega)]; omega), q.2.2.1]
    rfl
  | succ u ih =>
    intro k f d w S I J hf hk h q hd hw
    obtain ⟨f, rfl⟩ : ∃ m, f = m + 1 := ⟨f - 1, by omega⟩
    obtain ⟨q1, q2, q3, q4⟩ := id q
    obtain ⟨J1, a1, a2, a3, a4⟩ := dayM (σ := σ) (R := R) (p := 0) (by omega) (h 0 (by omega)) (fun k hk => (q1 0 k (by omega) hk).1) (fun k hk => (q1 0 k (by omega) hk).2.1) (fun k hk => (q1 0 k (by omega) hk).2.2) (q2 0 (by omega))
    obtain ⟨J2, b1, b2, b3, b4⟩ := dayM (σ := σ) (R := R) (J := J1) (p := 1) (by omega) (h 1 (by omega)) (fun k hk => (q1 1 k (by omega) hk).1) (fun k hk => (q1 1 k (by omega) hk).2.1) (fun k hk => by rw [a4 (4 * 1 + k) (by omega)]; exact (q1 1 k (by omega) hk).2.2) (q2 1 (by omega))
    have eS : ∀ p k, p < 2 → k < 4 → J2 195 (4 * p + k) = Int64.ofInt (nxS A B Y S p k : Int) := fun p k hp hk => by
      rcases (show p = 0 ∨ p = 1 by omega) with rfl | rfl
      · rw [b4 (4 * 0 + k) (by omega), a2 k hk]; exact (nx_e h (by omega) hk).1
      · rw [b2 k hk]; exact (nx_e h (by omega) hk).1
    have a1' : gX12_oneDay σ I J R 0 = some J1 := a1
    have b1' : gX12_oneDay σ I J1 R 1 = some J2 := b1
    have go : ∀ I1 : Nat → Nat → Int32, Ag [(1000125, 1000127)] I I1 → I1 114 125 = Int32.ofInt ((d + 1 : Nat) : Int) → I1 114 126 = Int32.ofInt ((w - 1 : Nat) : Int) → gX12_day_l30 σ R (f + 1) I J (Int32.ofInt n) (Int32.ofInt k) = gX12_day_l30 σ R f I1 J2 (Int32.ofInt n) (Int32.ofInt ((k + 1 : Nat) : Int)) → ∃ I' J', gX12_day_l30 σ R (f + 1) I J (Int32.ofInt n) (Int32.ofInt k) = some (I', J', Int32.ofInt ((d + (u + 1) : Nat) : Int)) ∧ QM A B Y (itS A B Y (u + 1) S) (d + (u + 1)) (w - (u + 1)) I' J' ∧ Ag [(1000125, 1000127)] I I' ∧ Ag [(184, 187), (195, 196), (199, 200)] J J' := by
      intro I1 c1 c2 c3 c4
      obtain ⟨I', J', r1, r2, r3, r4⟩ := ih (k + 1) f (d + 1) (w - 1) (nxS A B Y S) I1 J2 (by omega) (by omega) h.nx ⟨fun p k hp hk => ⟨by rw [c1 196 _ rfl]; exact (q1 p k hp hk).1, by rw [c1 197 _ rfl]; exact (q1 p k hp hk).2.1, eS p k hp hk⟩, fun p hp => by rw [c1 198 _ rfl]; exact q2 p hp, c2, c3⟩ (by omega) (by omega)
      refine ⟨I', J', ?_, ?_, c1.tr r3, (a3.tr b3).tr r4⟩
      · rw [c4, r1, show d + 1 + u = d + (u + 1) by omega]
      · rw [show d + (u + 1) = d + 1 + u by omega, show w - (u + 1) = w - 1 - u by omega]
        exact r2
    have u' : gX12_day_l30 σ R (f + 1) I J (Int32.ofInt n) (Int32.ofInt k) = if u2 I 114 125 (Int32.ofInt ((d + 1 : Nat) : Int)) 114 126 ≤ 0 then gX12_day_l30 σ R f (u2 (u2 I 114 125 (Int32.ofInt ((d + 1 : Nat) : Int))) 114 126 (u2 I 114 125 (Int32.ofInt ((d + 1 : Nat) : Int)) 114 126 - 0)) J2 (Int32.ofInt n) (Int32.ofInt ((k + 1 : Nat) : Int)) else gX12_day_l30 σ R f (u2 (u2 I 114 125 (Int32.ofInt ((d + 1 : Nat) : Int))) 114 126 (u2 I 114 125 (Int32.ofInt ((d + 1 : Nat) : Int)) 114 126 - 1)) J2 (Int32.ofInt n) (Int32.ofInt ((k + 1 : Nat) : Int)) := by
      rw [gX12_day_l30, if_neg (by rw [i_le (by omega) (by omega)]; omega), a1', ob_some, b1', ob_some]
      dsimp only
      rw [q3, iadd1, iadd1]
    by_cases c : w = 0
    · rw [if_pos (by rw [u2n (by omega), q4, c]; decide)] at u'
      refine go _ (Ag.st (Ag.st Ag.rf rfl) rfl) (by rw [u2n (by omega), u2_self]) ?_ u'
      rw [u2_self, u2n (by omega), q4, c]
      decide
    · rw [if_neg (by rw [u2n (by omega), q4, i_lel (by omega)]; omega)] at u'
      refine go _ (Ag.st (Ag.st Ag.rf rfl) rfl) (by rw [u2n (by omega), u2_self]) ?_ u'
      rw [u2_self, u2n (by omega), q4, i_subl, show (w : Int) - 1 = ((w - 1 : Nat) : Int) by omega]
