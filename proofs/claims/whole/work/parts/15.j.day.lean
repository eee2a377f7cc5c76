/-! ===== day: a stage's shares ===== -/
def outS (z n : Nat) (w : Nat → Nat) (k : Nat) : Int64 := (p3 z (n - sq n (sm w z) w z) (fo (fun k => n * w k / sm w z) (fun _ => 0) z) (fo (fun k => n * w k % sm w z) (fun _ => 0) z)).1 k
theorem p3_b {z B : Nat} : ∀ (m : Nat) (o r : Nat → Int64), (∀ k, ∃ a : Nat, a ≤ B ∧ o k = Int64.ofInt (a : Int)) → ∀ k, ∃ a : Nat, a ≤ B + m ∧ (p3 z m o r).1 k = Int64.ofInt (a : Int) := by
  intro m
  induction m generalizing B with
  | zero => intro o r h k; exact h k
  | succ m ih =>
    intro o r h k
    unfold p3
    obtain ⟨c, hc, e⟩ := ih (B := B + 1) (u1 o (bst r (z - 1) 0 1) (o (bst r (z - 1) 0 1) + 1)) (u1 r (bst r (z - 1) 0 1) (-1)) (fun q => by
      unfold u1
      by_cases d : q = bst r (z - 1) 0 1
      · rw [if_pos d]
        obtain ⟨a, ha, e⟩ := h (bst r (z - 1) 0 1)
        exact ⟨a + 1, by omega, by rw [e, j_addl, show (a : Int) + 1 = ((a + 1 : Nat) : Int) by omega]⟩
      · rw [if_neg d]
        obtain ⟨a, ha, e⟩ := h q
        exact ⟨a, by omega, e⟩) k
    exact ⟨c, by omega, e⟩
/-- weights of a stage -/
def w3 (a b : Nat) : Nat → Nat := fun i => if i = 0 then a else if i = 1 then b else 2000 - a - b
theorem w3_s {a b : Nat} (ha : a ≤ 1000) (hb : b ≤ 1000) : sm (w3 a b) 3 = 2000 := by
  show 0 + a + b + (2000 - a - b) = 2000
  omega
theorem w3_le {a b : Nat} (ha : a ≤ 1000) (hb : b ≤ 1000) (k : Nat) : w3 a b k ≤ 2000 := by
  unfold w3
  split
  · omega
  · split <;> omega
theorem w3_m {a b n : Nat} (ha : a ≤ 1000) (hb : b ≤ 1000) (hn : n ≤ 1000000000) (k : Nat) : n * w3 a b k ≤ 2000000000000 := by
  have := Nat.mul_le_mul hn (w3_le ha hb k)
  omega
theorem outS_b {a b n k : Nat} (ha : a ≤ 1000) (hb : b ≤ 1000) (hn : n ≤ 1000000000) : ∃ c : Nat, c ≤ 2000000000003 ∧ outS 3 n (w3 a b) k = Int64.ofInt (c : Int) := by
  have l := sq_l (n := n) (w := w3 a b) (z := 3) (by rw [w3_s ha hb]; omega) (by omega)
  unfold outS
  obtain ⟨c, hc, e⟩ := p3_b (z := 3) (B := 2000000000000) (n - sq n (sm (w3 a b) 3) (w3 a b) 3) (fo (fun k => n * w3 a b k / sm (w3 a b) 3) (fun _ => 0) 3) (fo (fun k => n * w3 a b k % sm (w3 a b) 3) (fun _ => 0) 3) (fun q => by
    unfold fo
    by_cases d : q < 3
    · rw [if_pos d]
      refine ⟨n * w3 a b q / sm (w3 a b) 3, ?_, rfl⟩
      exact Nat.le_trans (Nat.div_le_self _ _) (w3_m ha hb hn q)
    · rw [if_neg d]
      exact ⟨0, by omega, rfl⟩) k
  exact ⟨c, by omega, e⟩
theorem outC {σ : Shp} {J : Nat → Nat → Int64} {R : Nat → Nat → Option Nat} {a b n : Nat} (hS : Skel σ R) (ha : a ≤ 1000) (hb : b ≤ 1000) (hn : n ≤ 1000000000) (h0 : J 104 0 = Int64.ofInt (a : Int)) (h1 : J 104 1 = Int64.ofInt (b : Int)) (h2 : J 104 2 = Int64.ofInt ((2000 - a - b : Nat) : Int)) : ∃ J', gX11_shareOut σ J (Int64.ofInt (n : Int)) (some 104) 3 (some 105) (some 106) = some J' ∧ Ag [(105, 107)] J J' ∧ ∀ k, k < 3 → J' 105 k = outS 3 n (w3 a b) k := by
  have hw : ∀ k, k < 3 → J 104 k = Int64.ofInt (w3 a b k : Int) := fun k hk => by
    rcases (show k = 0 ∨ k = 1 ∨ k = 2 by omega) with rfl | rfl | rfl
    · exact h0
    · exact h1
    · exact h2
  have s := sO_C (σ := σ) (J := J) (W := 104) (O := 105) (Q := 106) (z := 3) (n := n) (w := w3 a b) (by omega) (by omega) (by omega) (hS.k 104 21 (by decide) rfl) (hS.k 105 21 (by decide) rfl) (hS.k 106 21 (by decide) rfl) (hS.l 104 3 (by decide) rfl) (hS.l 105 3 (by decide) rfl) (hS.l 106 3 (by decide) rfl) (by omega) (by omega) (by omega) (by omega) hw (fun k => by have := w3_m ha hb hn k; omega) (by rw [w3_s ha hb]; omega) (by omega)
  refine ⟨_, s, fun x k hx => ?_, fun k hk => ?_⟩
  · refine rw2_n (fun e => ?_) (fun e => ?_)
    · rw [e] at hx
      exact absurd hx (by rw [show inW [(105, 107)] (key 105 k) = true from rfl]; decide)
    · rw [e] at hx
      exact absurd hx (by rw [show inW [(105, 107)] (key 106 k) = true from rfl]; decide)
  · rw [rw2_O]
    exact p3_eq (by omega) _ _ _ _ _ (fun k hk => fo_k hk) (fun k hk => fo_k hk) k hk
theorem outM {σ : Shp} {J : Nat → Nat → Int64} {R : Nat → Nat → Option Nat} {a b n : Nat} (ha : a ≤ 1000) (hb : b ≤ 1000) (hn : n ≤ 1000000000) (h0 : J 186 0 = Int64.ofInt (a : Int)) (h1 : J 186 1 = Int64.ofInt (b : Int)) (h2 : J 186 2 = Int64.ofInt ((2000 - a - b : Nat) : Int)) : ∃ J', gX12_partWhole σ J R (Int64.ofInt (n : Int)) 3 = some J' ∧ Ag [(184, 186)] J J' ∧ ∀ k, k < 3 → J' 184 k = outS 3 n (w3 a b) k := by
  have hw : ∀ k, k < 3 → J 186 k = Int64.ofInt (w3 a b k : Int) := fun k hk => by
    rcases (show k = 0 ∨ k = 1 ∨ k = 2 by omega) with rfl | rfl | rfl
    · exact h0
    · exact h1
    · exact h2
  have s := sO_M (σ := σ) (R := R) (J := J) (z := 3) (n := n) (w := w3 a b) (by omega) hw (fun k => by have := w3_m ha hb hn k; omega) (by rw [w3_s ha hb]; omega) (by omega)
  refine ⟨_, s, fun x k hx => ?_, fun k hk => ?_⟩
  · refine rw2_n (fun e => ?_) (fun e => ?_)
    · rw [e] at hx
      exact absurd hx (by rw [show inW [(184, 186)] (key 184 k) = true from rfl]; decide)
    · rw [e] at hx
      exact absurd hx (by rw [show inW [(184, 186)] (key 185 k) = true from rfl]; decide)
  · rw [rw2_O]
    exact p3_eq (by omega) _ _ _ _ _ (fun k hk => fo_k hk) (fun k hk => fo_k hk) k hk
/-- one stage, in the class -/
theorem stC {σ : Shp} {I : Nat → Nat → Int32} {J : Nat → Nat → Int64} {R : Nat → Nat → Option Nat} {p k n a b : Nat} (hS : Skel σ R) (hp : p < 2) (hk : k < 4) (ha : a ≤ 1000) (hb : b ≤ 1000) (hn : n ≤ 1000000000) (e1 : I (96 + p) k = Int32.ofInt (a : Int)) (e2 : I (99 + p) k = Int32.ofInt (b : Int)) (e3 : J (93 + p) k = Int64.ofInt (n : Int)) (f : Nat) : ∃ J', gX5_dayOf_l50 σ I R (f + 1) J (Int32.ofInt p) (Int32.ofInt k) = gX5_dayOf_l50 σ I R f J' (Int32.ofInt p) (Int32.ofInt ((k + 1 : Nat) : Int)) ∧ Ag [(104, 108)] J J' ∧ J' 107 k = J 107 k + outS 3 n (w3 a b) 1 ∧ (k < 3 → J' 107 (k + 1) = J 107 (k + 1) + outS 3 n (w3 a b) 0) ∧ (∀ i, i ≠ k → i ≠ k + 1 → J' 107 i = J 107 i) := by
  have gp : ¬ (Int32.ofInt (p : Int) < 0 ∨ 2 ≤ Int32.toNatClampNeg (Int32.ofInt (p : Int))) := by rw [i_gd (by omega)]; exact id
  have gk : ¬ (Int32.ofInt (k : Int) < 0 ∨ 4 ≤ Int32.toNatClampNeg (Int32.ofInt (k : Int))) := by rw [i_gd (by omega)]; exact id
  have tp := t41 (t := p) (by omega)
  have tk := t41 (t := k) (by omega)
  have q0 : ¬ ((0 : Int32) < 0 ∨ 3 ≤ Int32.toNatClampNeg (0 : Int32)) := by decide
  have q1 : ¬ ((1 : Int32) < 0 ∨ 3 ≤ Int32.toNatClampNeg (1 : Int32)) := by decide
  have q2 : ¬ ((2 : Int32) < 0 ∨ 3 ≤ Int32.toNatClampNeg (2 : Int32)) := by decide
  have t0 : Int32.toNatClampNeg (0 : Int32) = 0 := rfl
  have t1 : Int32.toNatClampNeg (1 : Int32) = 1 := rfl
  have t2 : Int32.toNatClampNeg (2 : Int32) = 2 := rfl
  have gp' : ¬ (Int32.ofInt (p : Int) < 0 ∨ 2 ≤ p) := by rw [i_ltl (by omega)]; omega
  have gk' : ¬ (Int32.ofInt (k : Int) < 0 ∨ 4 ≤ k) := by rw [i_ltl (by omega)]; omega
  have q0' : ¬ ((0 : Int32) < 0 ∨ 3 ≤ 0) := by decide
  have q1' : ¬ ((1 : Int32) < 0 ∨ 3 ≤ 1) := by decide
  have q2' : ¬ ((2 : Int32) < 0 ∨ 3 ≤ 2) := by decide
  have eC : (2000 : Int64) - Int64.ofInt (a : Int) - Int64.ofInt (b : Int) = Int64.ofInt ((2000 - a - b : Nat) : Int) := by
    rw [j_subr, j_sub, show (2000 : Int) - (a : Int) - (b : Int) = ((2000 - a - b : Nat) : Int) by omega]
  obtain ⟨J2, s1, s2, s3⟩ := outC (J := u2 (u2 (u2 J 104 0 (Int64.ofInt (a : Int))) 104 1 (Int64.ofInt (b : Int))) 104 2 (Int64.ofInt ((2000 - a - b : Nat) : Int))) (n := n) hS ha hb hn (by rw [u2n (by omega), u2n (by omega), u2_self]) (by rw [u2n (by omega), u2_self]) (u2_self _ _ _ _)
  have aJ : Ag [(104, 107)] J J2 := Ag.tr (Ag.st (Ag.st (Ag.st Ag.rf rfl) rfl) rfl) (s2.mv rfl)
  have o7 : ∀ i, J2 107 i = J 107 i := fun i => aJ 107 i rfl
  have u : gX5_dayOf_l50 σ I R (f + 1) J (Int32.ofInt p) (Int32.ofInt k) = if (4 : Int32) ≤ Int32.ofInt ((k + 1 : Nat) : Int) then gX5_dayOf_l50 σ I R f (u2 J2 107 k (J2 107 k + J2 105 1)) (Int32.ofInt p) (Int32.ofInt ((k + 1 : Nat) : Int)) else (if ¬ (Int32.ofInt ((k + 1 : Nat) : Int) < 0 ∨ 4 ≤ Int32.toNatClampNeg (Int32.ofInt ((k + 1 : Nat) : Int))) then gX5_dayOf_l50 σ I R f (u2 (u2 J2 107 (k + 1) (J2 107 (k + 1) + J2 105 0)) 107 k (u2 J2 107 (k + 1) (J2 107 (k + 1) + J2 105 0) 107 k + u2 J2 107 (k + 1) (J2 107 (k + 1) + J2 105 0) 105 1)) (Int32.ofInt p) (Int32.ofInt ((k + 1 : Nat) : Int)) else none) := by
    rw [gX5_dayOf_l50, if_neg (by rw [i_ler (by omega)]; omega)]
    dsimp only
    simp only [if_pos gp', if_pos gk', if_pos q0', if_pos q1', if_pos q2', tp, tk, t0, t1, t2, e1, e2, i_w (i := (a : Int)) (show -2147483648 ≤ (a : Int) ∧ (a : Int) < 2147483648 by omega), i_w (i := (b : Int)) (show -2147483648 ≤ (b : Int) ∧ (b : Int) < 2147483648 by omega), iadd1, t41 (t := k + 1) (show k + 1 < 2147483648 by omega)]
    rw [show u2 (u2 J 104 0 (Int64.ofInt (a : Int))) 104 1 (Int64.ofInt (b : Int)) 104 0 = Int64.ofInt (a : Int) from by rw [u2n (by omega), u2_self], show u2 (u2 J 104 0 (Int64.ofInt (a : Int))) 104 1 (Int64.ofInt (b : Int)) 104 1 = Int64.ofInt (b : Int) from u2_self _ _ _ _, eC]
    rw [show u2 (u2 (u2 J 104 0 (Int64.ofInt (a : Int))) 104 1 (Int64.ofInt (b : Int))) 104 2 (Int64.ofInt ((2000 - a - b : Nat) : Int)) (93 + p) k = Int64.ofInt (n : Int) from by rw [u2n (by omega), u2n (by omega), u2n (by omega), e3], s1, ob_some]
  by_cases c : k = 3
  · rw [if_pos (by rw [i_ler (by omega)]; omega)] at u
    refine ⟨_, u, Ag.st (aJ.mv rfl) rfl, ?_, fun h => by omega, fun i h1 h2 => ?_⟩
    · rw [u2_self, o7, s3 1 (by omega)]
    · rw [u2n (by omega), o7]
  · rw [if_neg (by rw [i_ler (by omega)]; omega), if_pos (by rw [i_gd (by omega)]; exact id)] at u
    refine ⟨_, u, Ag.st (Ag.st (aJ.mv rfl) rfl) rfl, ?_, fun h => ?_, fun i h1 h2 => ?_⟩
    · rw [u2_self, u2n (by omega), u2n (by omega), o7, s3 1 (by omega)]
    · rw [u2n (by omega), u2_self, o7, s3 0 (by omega)]
    · rw [u2n (by omega), u2n (by omega), o7]
