/-! ===== shares: weights on both sides ===== -/
def fl (C : Nat → Int64) (b : Nat) (o : Nat → Int64) (k : Nat) : Nat → Int64 := fun q => if b ≤ q ∧ q < b + k then o (q - b) else C q
theorem fl_0 {C : Nat → Int64} {b : Nat} {o : Nat → Int64} : fl C b o 0 = C := by
  funext q
  unfold fl
  rw [if_neg (by omega)]
theorem fl_s {C : Nat → Int64} {b k : Nat} {o : Nat → Int64} : u1 (fl C b o k) (b + k) (o k) = fl C b o (k + 1) := by
  funext q
  unfold u1 fl
  by_cases c : q = b + k
  · subst c
    rw [if_pos rfl, if_pos (by omega), show b + k - b = k by omega]
  · rw [if_neg c]
    by_cases d : b ≤ q ∧ q < b + k
    · rw [if_pos d, if_pos (by omega)]
    · rw [if_neg d, if_neg (by omega)]
theorem TCl.fill {G : Nat → Nat → Nat} {C C' : Nat → Int64} {N : Nat → Nat → Int32} {σ : Shp} {I : Nat → Nat → Int32} {J J' : Nat → Nat → Int64} {R : Nat → Nat → Option Nat} {y : Nat} (hg : TSg G C N) (h : TCl G C N σ I J R) (hn : 198 ≤ nxx σ ∧ nxx σ ≤ 900000) (y1 : 1 ≤ y) (y2 : y ≤ G 10 0) (hJ : ∀ a, 202 ≤ a → a < 1000000 → a ≠ G 0 y + 1 → J' a = J a) (hO : ∀ k, k < nC (G 1 y) (G 2 y) → J' (G 0 y + 1) k = C' (G 3 y + k)) (hC : ∀ q, ¬ (G 3 y ≤ q ∧ q < G 3 y + nC (G 1 y) (G 2 y)) → C' q = C q) : TCl G C' N σ I J' R := by
  obtain ⟨h0, h1, h2, h3, h4⟩ := h
  refine ⟨h0, h1, fun t t1 t2 => ?_, h3, fun a ha1 ha2 => ?_⟩
  · obtain ⟨a, b, c, d, e⟩ := h2 t t1 t2
    refine ⟨a, b, fun k hk => ?_, d, e⟩
    have ct := cC_of (c := G 0 t) hk
    have wt := cW_of ct.2
    have st := h3.1 t t1 t2
    by_cases q : t = y
    · subst q
      rw [ct.1]
      exact hO k hk
    · have cc := c k hk
      rw [ct.1] at cc ⊢
      have ne : G 0 t + 1 ≠ G 0 y + 1 := by
        have wy := cW_ge (G 1 y)
        rcases Nat.lt_or_gt_of_ne q with r | r
        · have := h3.2 t y t1 r y2; omega
        · have := h3.2 y t y1 r t2; omega
      rw [hJ _ (by omega) (by omega) ne, cc, hC _ (fun r => ?_)]
      exact absurd (show G 3 t + k = G 3 y + (G 3 t + k - G 3 y) by omega) (hg.cells y1 y2 t1 t2 (by omega) hk (fun s => q s.symm))
  · obtain ⟨d1, d2⟩ := h4 a ha1 ha2
    have st := h3.1 y y1 y2
    have wy := cW_ge (G 1 y)
    refine ⟨d1, fun k => ?_⟩
    rw [hJ a (by omega) ha2 (by omega)]
    exact d2 k
theorem wv {x : Int64} (h : Int32.toInt64 (Int64.toInt32 x) = x) : ∃ v : Int, -2147483648 ≤ v ∧ v < 2147483648 ∧ x = Int64.ofInt v := by
  obtain ⟨v, h1, h2, e⟩ := rep (Int64.toInt32 x)
  exact ⟨v, h1, h2, by rw [← h, e, i_w (by omega)]⟩
/-- the class looks at the weights -/
theorem canS {G : Nat → Nat → Nat} {C : Nat → Int64} {N : Nat → Nat → Int32} {σ : Shp} {I : Nat → Nat → Int32} {J : Nat → Nat → Int64} {R : Nat → Nat → Option Nat} {x : Nat} {v : Nat → Int} (hg : TSg G C N) (hc : TCl G C N σ I J R) (x1 : 1 ≤ x) (x2 : x ≤ G 10 0) (f : G 1 x = 4) (hv : ∀ k, k < G 2 x → -2147483648 ≤ v k ∧ v k < 2147483648 ∧ C (G 3 x + k) = Int64.ofInt (v k)) : ∀ (u k n : Nat), u < n → k + u = G 2 x → (∀ q, q < k → 0 ≤ v q) → Dec (gX11_canShare_l4 σ J R n (some (G 0 x)) (Int64.ofInt (sm (fun k => (v k).toNat) k : Nat)) (Int32.ofInt k)) ((∀ q, q < G 2 x → 0 ≤ v q) ∧ 1 ≤ sm (fun k => (v k).toNat) (G 2 x)) := by
  obtain ⟨p1, p2, p3, p4, p5, p6⟩ := cth_c hc x1 x2 (Or.inl (by omega))
  have en : nC (G 1 x) (G 2 x) = G 2 x := if_pos (by omega)
  rw [en] at p4 p5
  have hz := (hg.2.2.1 x x1 x2).2.2.2.1 (by omega)
  have sb : ∀ k, k ≤ G 2 x → sm (fun k => (v k).toNat) k ≤ k * 2147483648 := by
    intro k
    induction k with
    | zero => intro _; exact Nat.zero_le _
    | succ k ih =>
      intro hk
      have a := ih (by omega)
      have b := hv k (by omega)
      show sm (fun k => (v k).toNat) k + (v k).toNat ≤ _
      omega
  intro u
  induction u with
  | zero =>
    intro k n hn hk hq
    obtain ⟨n, rfl⟩ : ∃ m, n = m + 1 := ⟨n - 1, by omega⟩
    obtain rfl : k = G 2 x := by omega
    have b := sb (G 2 x) (Nat.le_refl _)
    rw [gX11_canShare_l4, ob_some, if_pos p1, p2, ob_some, if_pos p3, p4, nat32, if_pos (by rw [i_le (by omega) (by omega)]; omega)]
    by_cases c : 1 ≤ sm (fun k => (v k).toNat) (G 2 x)
    · rw [if_neg (by rw [j_lel (by omega)]; omega)]
      exact Or.inl ⟨rfl, hq, c⟩
    · rw [if_pos (by rw [j_lel (by omega)]; omega)]
      exact Or.inr ⟨rfl, fun h => c h.2⟩
  | succ u ih =>
    intro k n hn hk hq
    obtain ⟨n, rfl⟩ : ∃ m, n = m + 1 := ⟨n - 1, by omega⟩
    obtain ⟨b1, b2, b3⟩ := hv k (by omega)
    rw [gX11_canShare_l4, ob_some, if_pos p1, p2, ob_some, if_pos p3, p4, nat32, if_neg (by rw [i_le (by omega) (by omega)]; omega), if_pos (gL (by omega) (by omega)), t41 (by omega), p5 k (by omega), b3]
    by_cases c : 0 ≤ v k
    · rw [if_pos (by rw [j_ler (by omega)]; omega)]
      dsimp only
      rw [j_add, iadd1, show ((sm (fun k => (v k).toNat) k : Nat) : Int) + v k = ((sm (fun k => (v k).toNat) (k + 1) : Nat) : Int) from by show _ = ((sm (fun k => (v k).toNat) k + (v k).toNat : Nat) : Int); omega]
      refine ih (k + 1) n (by omega) (by omega) (fun q h => ?_)
      by_cases d : q = k
      · rw [d]; exact c
      · exact hq q (by omega)
    · rw [if_neg (by rw [j_ler (by omega)]; omega)]
      exact Or.inr ⟨rfl, fun h => c (h.1 k (by omega))⟩
/-- the model takes the weights -/
theorem shW_M {G : Nat → Nat → Nat} {C : Nat → Int64} {N : Nat → Nat → Int32} {σ : Shp} {I : Nat → Nat → Int32} {R : Nat → Nat → Option Nat} {x F : Nat} {v : Nat → Int} {x2 x3 : Int32} (hx : x < 4100) (hz : G 2 x ≤ 40) (hb : G 3 x + G 2 x ≤ 164000) (hv : ∀ k, k < G 2 x → -2147483648 ≤ v k ∧ v k < 2147483648 ∧ C (G 3 x + k) = Int64.ofInt (v k)) (hF : FUx = F) : ∀ (u k n : Nat) (J : Nat → Nat → Int64) (x5 : Int32) (x6 : Int64), u < n → k + u = G 2 x → TMo G C N I J → (∀ q, q < k → J 186 q = C (G 3 x + q)) → (x5 = 1 ∧ (∀ q, q < k → 0 ≤ v q) ∧ x6 = Int64.ofInt (sm (fun k => (v k).toNat) k : Nat)) ∨ (x5 = 0 ∧ ∃ q, q < k ∧ v q < 0) → ∃ J', Ag [(186, 187)] J J' ∧ (∀ q, q < G 2 x → J' 186 q = C (G 3 x + q)) ∧ TMo G C N I J' ∧ (((∀ q, q < G 2 x → 0 ≤ v q) ∧ 1 ≤ sm (fun k => (v k).toNat) (G 2 x) ∧ gX12_shares_l76 σ R n I J x2 x3 (Int32.ofInt x) x5 x6 (Int32.ofInt k) = (gX12_isFull I).bind fun r11 => if r11 = 0 then (gX12_partWhole σ J' R (Int32.toInt64 x2) (Int32.ofInt (G 2 x : Nat))).bind fun J13 => (gX12_newRow I 5 (Int32.ofInt (G 2 x : Nat))).bind fun p => gX12_shares_l207 σ R F p.1 J13 x3 (Int32.ofInt x) p.2 0 else some (I, J', -4)) ∨ (¬ ((∀ q, q < G 2 x → 0 ≤ v q) ∧ 1 ≤ sm (fun k => (v k).toNat) (G 2 x)) ∧ gX12_shares_l76 σ R n I J x2 x3 (Int32.ofInt x) x5 x6 (Int32.ofInt k) = some (I, J', -3))) := by
  have sb : ∀ k, k ≤ G 2 x → sm (fun k => (v k).toNat) k ≤ k * 2147483648 := by
    intro k
    induction k with
    | zero => intro _; exact Nat.zero_le _
    | succ k ih =>
      intro hk
      have a := ih (by omega)
      have b := hv k (by omega)
      show sm (fun k => (v k).toNat) k + (v k).toNat ≤ _
      omega
  intro u
  induction u with
  | zero =>
    intro k n J x5 x6 hn hk hm hq h5
    obtain ⟨n, rfl⟩ : ∃ m, n = m + 1 := ⟨n - 1, by omega⟩
    obtain rfl : k = G 2 x := by omega
    have m2 := (hm.2.2.1 x hx).2.1
    have b := sb (G 2 x) (Nat.le_refl _)
    refine ⟨J, Ag.rf, hq, hm, ?_⟩
    rw [gX12_shares_l76, if_pos (g41 hx), t41 (by omega), m2, if_pos (by rw [i_le (by omega) (by omega)]; omega), hF]
    rcases h5 with ⟨a1, a2, a3⟩ | ⟨a1, q, a2, a3⟩
    · rw [a1, if_neg n10, a3]
      by_cases c : 1 ≤ sm (fun k => (v k).toNat) (G 2 x)
      · rw [if_neg (by rw [j_eql (by omega)]; omega)]
        exact Or.inl ⟨a2, c, rfl⟩
      · rw [if_pos (by rw [j_eql (by omega)]; omega)]
        exact Or.inr ⟨fun h => c h.2, rfl⟩
    · rw [a1, if_pos rfl]
      exact Or.inr ⟨fun h => by have := h.1 q a2; omega, rfl⟩
  | succ u ih =>
    intro k n J x5 x6 hn hk hm hq h5
    obtain ⟨n, rfl⟩ : ∃ m, n = m + 1 := ⟨n - 1, by omega⟩
    have m2 := (hm.2.2.1 x hx).2.1
    have m3 := (hm.2.2.1 x hx).2.2.1
    have m5 := hm.2.2.2.1 (G 3 x + k) (by omega)
    obtain ⟨b1, b2, b3⟩ := hv k (by omega)
    have a : Ag [(186, 187)] J (u2 J 186 k (C (G 3 x + k))) := Ag.st Ag.rf rfl
    have nx : ∀ y5 y6, (y5 = 1 ∧ (∀ q, q < k + 1 → 0 ≤ v q) ∧ y6 = Int64.ofInt (sm (fun k => (v k).toNat) (k + 1) : Nat)) ∨ (y5 = 0 ∧ ∃ q, q < k + 1 ∧ v q < 0) → gX12_shares_l76 σ R (n + 1) I J x2 x3 (Int32.ofInt x) x5 x6 (Int32.ofInt k) = gX12_shares_l76 σ R n I (u2 J 186 k (C (G 3 x + k))) x2 x3 (Int32.ofInt x) y5 y6 (Int32.ofInt ((k + 1 : Nat) : Int)) → ∃ J', Ag [(186, 187)] J J' ∧ (∀ q, q < G 2 x → J' 186 q = C (G 3 x + q)) ∧ TMo G C N I J' ∧ (((∀ q, q < G 2 x → 0 ≤ v q) ∧ 1 ≤ sm (fun k => (v k).toNat) (G 2 x) ∧ gX12_shares_l76 σ R (n + 1) I J x2 x3 (Int32.ofInt x) x5 x6 (Int32.ofInt k) = (gX12_isFull I).bind fun r11 => if r11 = 0 then (gX12_partWhole σ J' R (Int32.toInt64 x2) (Int32.ofInt (G 2 x : Nat))).bind fun J13 => (gX12_newRow I 5 (Int32.ofInt (G 2 x : Nat))).bind fun p => gX12_shares_l207 σ R F p.1 J13 x3 (Int32.ofInt x) p.2 0 else some (I, J', -4)) ∨ (¬ ((∀ q, q < G 2 x → 0 ≤ v q) ∧ 1 ≤ sm (fun k => (v k).toNat) (G 2 x)) ∧ gX12_shares_l76 σ R (n + 1) I J x2 x3 (Int32.ofInt x) x5 x6 (Int32.ofInt k) = some (I, J', -3))) := by
      intro y5 y6 h e
      obtain ⟨J', r1, r2, r3, r4⟩ := ih (k + 1) n (u2 J 186 k (C (G 3 x + k))) y5 y6 (by omega) (by omega) (hm.kp Kp.rf (a.kp rfl)) (fun q h => by
        by_cases c : q = k
        · subst c
          rw [u2s ⟨rfl, rfl⟩]
        · rw [u2n (by omega)]
          exact hq q (by omega)) h
      refine ⟨J', a.tr r1, r2, r3, ?_⟩
      rw [e]
      exact r4
    have u : gX12_shares_l76 σ R (n + 1) I J x2 x3 (Int32.ofInt x) x5 x6 (Int32.ofInt k) = if x5 = 0 then gX12_shares_l76 σ R n I (u2 J 186 k (C (G 3 x + k))) x2 x3 (Int32.ofInt x) 0 (x6 + C (G 3 x + k)) (Int32.ofInt ((k + 1 : Nat) : Int)) else if C (G 3 x + k) < 0 then gX12_shares_l76 σ R n I (u2 J 186 k (C (G 3 x + k))) x2 x3 (Int32.ofInt x) 0 (x6 + C (G 3 x + k)) (Int32.ofInt ((k + 1 : Nat) : Int)) else gX12_shares_l76 σ R n I (u2 J 186 k (C (G 3 x + k))) x2 x3 (Int32.ofInt x) 1 (x6 + C (G 3 x + k)) (Int32.ofInt ((k + 1 : Nat) : Int)) := by
      rw [gX12_shares_l76, if_pos (g41 hx), t41 (by omega), m2, if_neg (by rw [i_le (by omega) (by omega)]; omega), if_pos (g41p hx), m3, iadd, if_pos (by rw [i_gd (by omega)]; exact id), if_pos (g4h (by omega)), t41 (by omega), t41 (by omega), m5]
      dsimp only
      rw [u2_self, iadd1]
    rcases h5 with ⟨a1, a2, a3⟩ | ⟨a1, q, a2, a3⟩
    · rw [a1, if_neg n10, b3] at u
      by_cases c : 0 ≤ v k
      · rw [if_neg (by rw [j_ltl (by omega)]; omega), ← b3] at u
        rw [a1]
        rw [a1] at nx
        refine nx 1 _ (Or.inl ⟨rfl, fun q h => ?_, ?_⟩) u
        · by_cases d : q = k
          · rw [d]; exact c
          · exact a2 q (by omega)
        · rw [a3, b3, j_add, show ((sm (fun k => (v k).toNat) k : Nat) : Int) + v k = ((sm (fun k => (v k).toNat) (k + 1) : Nat) : Int) from by show _ = ((sm (fun k => (v k).toNat) k + (v k).toNat : Nat) : Int); omega]
      · rw [if_pos (by rw [j_ltl (by omega)]; omega), ← b3] at u
        rw [a1]
        rw [a1] at nx
        exact nx 0 _ (Or.inr ⟨rfl, k, by omega, by omega⟩) u
    · rw [a1, if_pos rfl] at u
      rw [a1]
      rw [a1] at nx
      exact nx 0 _ (Or.inr ⟨rfl, q, by omega, a3⟩) u
