/-! ===== minute: the air ===== -/
/-- the tables, both ways -/
def TBl (I I' : Nat → Nat → Int32) : Prop := ∃ (r : Nat → Nat) (T : Nat → Nat → Nat) (n : Nat) (X Y : Nat → Int), (∀ t, t < 3 → r t ≤ 3) ∧ TI T ∧ TZ T ∧ (∀ i, i < 3 → T 0 i = T 1 i) ∧ QtC r T I ∧ QtM r T I' ∧ LnB n X Y ∧ I' 156 0 = Int32.ofInt (n : Int) ∧ (∀ k, k < 8 → I' 157 k = Int32.ofInt (X k)) ∧ (∀ k, k < 8 → I' 158 k = Int32.ofInt (Y k)) ∧ I 36 0 = Int32.ofInt (n : Int) ∧ (∀ k, k < 8 → I 29 k = Int32.ofInt (X k)) ∧ (∀ k, k < 8 → I 33 k = Int32.ofInt (Y k))
theorem vapL {σ : Shp} {R : Nat → Nat → Option Nat} {I I' : Nat → Nat → Int32} {h : Nat} {x : Int64} (hS : Skel σ R) (hh : h < 3) (tb : TBl I I') : ∃ I2 I2' yy, (0 ≤ yy ∧ yy < 2147483648) ∧ gX4_mostVapour σ I R x = some (I2, Int64.ofInt yy) ∧ (∀ J x2 x4 x6 x8 s0, J 175 h = x → gX12_breathe_b142 σ R I' J (Int32.ofInt (h : Int)) x2 x4 x6 x8 s0 = gX12_breathe_b202 σ R I2' (u2 J 176 h (J 176 h + s0)) (Int32.ofInt (h : Int)) x2 x4 x6 x8 s0 (Int64.ofInt yy)) ∧ TBl I2 I2' ∧ Ag [(27, 28), (38, 42)] I I2 ∧ Ag [(160, 165), (1000083, 1000084)] I' I2' := by
  have gh : ¬ (Int32.ofInt (h : Int) < 0 ∨ 3 ≤ Int32.toNatClampNeg (Int32.ofInt (h : Int))) := by rw [i_gd (by omega)]; exact id
  have gn : Int32.toNatClampNeg (Int32.ofInt (h : Int)) = h := by rw [i_tn (by omega), Int.toNat_natCast]
  have g0 : ¬ ((0 : Int32) < 0 ∨ 3 ≤ Int32.toNatClampNeg (0 : Int32)) := by decide
  have n0 : Int32.toNatClampNeg (0 : Int32) = 0 := rfl
  obtain ⟨r, T, n, X, Y, hr, hI, hZ, h01, hC, hM, hB, e1, e2, e3, f1, f2, f3⟩ := id tb
  have nb : n ≤ 8 := hB.1
  by_cases c : n = 0
  · refine ⟨I, I', 9000, by omega, ?_, fun J x2 x4 x6 x8 s0 q => ?_, tb, Ag.rf, Ag.rf⟩
    · unfold gX4_mostVapour gX9_hasLines
      rw [if_pos g0, n0, f1, if_pos (by rw [i_lel (by omega)]; omega), ob_some, if_pos rfl]
      rfl
    · unfold gX12_breathe_b142
      have k9 : (0 : Int64) ≤ 9000 := by decide
      rw [if_pos gh, gn, if_pos g0, n0, if_pos (by rw [e1, i_eql (by omega)]; omega), if_pos k9]
      rfl
  · obtain ⟨xx, hx1, hx2, ex⟩ := rep (Int64.toInt32 (x / (1000 : Int64)))
    obtain ⟨I1, v, a1, a2, a3, a4⟩ := valC (σ := σ) (R := R) hr hI hC (show 0 < 3 by decide) hB ⟨hx1, hx2⟩ f1 f2 f3
    obtain ⟨I2, v', b1, b2, b3, b4⟩ := valM (σ := σ) (R := R) hS hr hI hZ h01 hM (show 0 < 3 by decide) hB ⟨hx1, hx2⟩ e1 (fun k hk => by rw [show 8 * 0 + k = k by omega]; exact e2 k hk) (fun k hk => by rw [show 8 * 0 + k = k by omega]; exact e3 k hk)
    obtain rfl := LnV.uq hB.2.1 a2 b2
    obtain ⟨p1, p2, p3', -⟩ := tL_p hr hI hZ h01 (show 0 < 3 by decide)
    obtain ⟨w, hw1, hw2, ew⟩ := rep (Int32.ofInt ((tL r 0 T 2 0 : Nat) : Int) + Int32.ofInt v)
    have hw2' : w < 2147483648 := by omega
    have z00 : Int32.ofInt ((0 : Nat) : Int) = 0 := rfl
    rw [z00, ew] at a1 b1
    refine ⟨I1, I2, max 0 w, by omega, ?_, fun J x2 x4 x6 x8 s0 q => ?_, ⟨r, _, n, X, Y, hr, p1, p2, p3', a3, b3, hB, by rw [b4 156 0 rfl]; exact e1, fun k hk => by rw [b4 157 k rfl]; exact e2 k hk, fun k hk => by rw [b4 158 k rfl]; exact e3 k hk, by rw [a4 36 0 rfl]; exact f1, fun k hk => by rw [a4 29 k rfl]; exact f2 k hk, fun k hk => by rw [a4 33 k rfl]; exact f3 k hk⟩, a4, b4⟩
    · unfold gX4_mostVapour gX9_hasLines
      rw [if_pos g0, n0, f1, if_neg (by rw [i_lel (by omega)]; omega), ob_some, if_neg (by decide), ex, a1, ob_some]
      dsimp only
      unfold fXM_maxI
      by_cases d : 0 < w
      · rw [if_pos (by rw [i_ltr (by omega)]; exact d), i_w (by omega), show max 0 w = w by omega]
      · rw [if_neg (by rw [i_ltr (by omega)]; exact d), show max 0 w = 0 by omega]
        rfl
    · unfold gX12_breathe_b142
      rw [if_pos gh, gn, if_pos g0, n0, if_neg (by rw [e1, i_eql (by omega)]; omega), u2n (by omega), q, ex, b1, ob_some]
      have gh' : ¬ (Int32.ofInt (h : Int) < 0 ∨ 3 ≤ h) := by rw [gn] at gh; exact gh
      rw [if_pos gh']
      dsimp only
      rw [i_w (by omega)]
      by_cases d : 0 ≤ w
      · rw [if_pos (by rw [j_ler (by omega)]; exact d), show max 0 w = w by omega]
      · rw [if_neg (by rw [j_ler (by omega)]; exact d), show max 0 w = 0 by omega]
        rfl
