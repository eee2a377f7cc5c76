/-! ===== work: the rows at the start ===== -/
/-- a row of the script's contents -/
def Rw0 (K : Nat → Int) (r j : Nat) : Int := if j < 4 then K (3 * j + r) else if j = 4 then K (12 + r) - K (15 + r) else if j = 5 + r then 1 else 0
def KB (K : Nat → Int) : Prop := (∀ k, k < 12 → 0 ≤ K k ∧ K k ≤ 99) ∧ ∀ k, k < 6 → 0 ≤ K (12 + k) ∧ K (12 + k) ≤ 999
theorem Rw0_b {K : Nat → Int} (h : KB K) {r : Nat} (hr : r < 3) : RwB (Rw0 K r) := by
  refine ⟨fun j hj => ?_, fun j hj => ?_⟩
  · unfold Rw0
    rw [if_pos hj]
    have := h.1 (3 * j + r) (by omega)
    omega
  · unfold Rw0
    by_cases c : j < 4
    · rw [if_pos c]
      have := h.1 (3 * j + r) (by omega)
      omega
    · rw [if_neg c]
      by_cases d : j = 4
      · rw [if_pos d]
        have a := h.2 r (by omega)
        have b := h.2 (3 + r) (by omega)
        rw [show 12 + (3 + r) = 15 + r by omega] at b
        omega
      · rw [if_neg d]
        split <;> omega
theorem gf_of {I : Nat → Nat → Int32} {J : Nat → Nat → Int64} (h : GFeed I J) : ∃ K : Nat → Int, KB K ∧ (∀ k, k < 18 → I 188 k = Int32.ofInt (K k)) ∧ (∀ s j, s < 6 → j < 3 → I (73 + s) j = Int32.ofInt (K (3 * s + j))) := by
  have e : ∀ k, I 188 k = Int32.ofInt (I 188 k).toInt := fun k => (Int32.ofInt_toInt _).symm
  refine ⟨fun k => (I 188 k).toInt, ⟨fun k hk => ?_, fun k hk => ?_⟩, fun k _ => e k, fun s j hs hj => by rw [h.e0 s j hs hj]; exact e _⟩
  · obtain ⟨v, v1, v2, v3⟩ := h.e1 k hk
    show 0 ≤ (I 188 k).toInt ∧ (I 188 k).toInt ≤ 99
    rw [v3, ti (by omega) (by omega)]
    omega
  · obtain ⟨v, v1, v2, v3⟩ := h.e2 k hk
    show 0 ≤ (I 188 (12 + k)).toInt ∧ (I 188 (12 + k)).toInt ≤ 999
    rw [v3, ti (by omega) (by omega)]
    omega
theorem flC {q2 : (Nat → Nat → Int64) → (Int32) → (Option ((Nat → Nat → Int64)))} {σ : Shp} {R : Nat → Nat → Option Nat} {I : Nat → Nat → Int32} {K : Nat → Int} {r : Nat} (hr : r < 3) (hK : KB K) (hI : ∀ s j, s < 6 → j < 3 → I (73 + s) j = Int32.ofInt (K (3 * s + j))) : ∀ (k c n : Nat) (J : Nat → Nat → Int64), c + k = 8 → k < n → ∃ J', gX2_fillRows_l9 q2 σ I R n J (Int32.ofInt (r : Int)) (Int32.ofInt (c : Int)) = q2 J' (Int32.ofInt ((r + 1 : Nat) : Int)) ∧ (∀ j, c ≤ j → j < 8 → J' (80 + r) j = Int64.ofInt (Rw0 K r j) ∧ J' (84 + r) j = Int64.ofInt 1) ∧ (∀ a j, ¬ ((a = 80 + r ∨ a = 84 + r) ∧ j < 8) → J' a j = J a j) ∧ (∀ j, j < c → j ≠ 4 → J' (80 + r) j = J (80 + r) j) ∧ (∀ j, j < c → J' (84 + r) j = J (84 + r) j) ∧ J' (80 + r) 4 = Int64.ofInt (Rw0 K r 4) := by
  have gr : ¬ (Int32.ofInt (r : Int) < 0 ∨ 3 ≤ Int32.toNatClampNeg (Int32.ofInt (r : Int))) := by rw [i_gd (by omega)]; exact id
  have nr : Int32.toNatClampNeg (Int32.ofInt (r : Int)) = r := by rw [i_tn (by omega), Int.toNat_natCast]
  have er : Int32.ofInt (r : Int) + 1 = Int32.ofInt ((r + 1 : Nat) : Int) := by rw [i_addl]; rfl
  have g46 : ¬ ((4 : Int32) < 0 ∨ 6 ≤ Int32.toNatClampNeg (4 : Int32)) := by decide
  have g56 : ¬ ((5 : Int32) < 0 ∨ 6 ≤ Int32.toNatClampNeg (5 : Int32)) := by decide
  have g48 : ¬ ((4 : Int32) < 0 ∨ 8 ≤ Int32.toNatClampNeg (4 : Int32)) := by decide
  have n4 : Int32.toNatClampNeg (4 : Int32) = 4 := rfl
  have n5 : Int32.toNatClampNeg (5 : Int32) = 5 := rfl
  have w4 := hK.2 r (by omega)
  have w5 := hK.2 (3 + r) (by omega)
  rw [show 12 + (3 + r) = 15 + r by omega] at w5
  intro k
  induction k with
  | zero =>
    intro c n J h1 h2
    obtain ⟨n, rfl⟩ : ∃ m, n = m + 1 := ⟨n - 1, by omega⟩
    refine ⟨u2 J (80 + r) 4 (Int64.ofInt (K (12 + r) - K (15 + r))), ?_, fun j _ _ => by omega, fun a j q => u2n (by omega), fun j _ q => u2n (by omega), fun j _ => u2n (by omega), by unfold Rw0; rw [if_neg (by omega), if_pos rfl]; simp (disch := omega) only [u2n, u2s]⟩
    rw [gX2_fillRows_l9, if_pos (by rw [i_ler (by omega)]; omega)]
    simp only [if_pos gr, if_pos g46, if_pos g56, if_pos g48]
    rw [nr, n4, n5, hI 4 r (by decide) hr, hI 5 r (by decide) hr, show 3 * 4 + r = 12 + r by omega, show 3 * 5 + r = 15 + r by omega, i_sub, i_w (by omega), er]
  | succ k ih =>
    intro c n J h1 h2
    obtain ⟨n, rfl⟩ : ∃ m, n = m + 1 := ⟨n - 1, by omega⟩
    have hc : c < 8 := by omega
    have g8 : ¬ (Int32.ofInt (c : Int) < 0 ∨ 8 ≤ Int32.toNatClampNeg (Int32.ofInt (c : Int))) := by rw [i_gd (by omega)]; exact id
    have nc : Int32.toNatClampNeg (Int32.ofInt (c : Int)) = c := by rw [i_tn (by omega), Int.toNat_natCast]
    have ec : Int32.ofInt (c : Int) + 1 = Int32.ofInt ((c + 1 : Nat) : Int) := by rw [i_addl]; rfl
    -- one turn
    have one : ∃ x : Int, (c ≠ 4 → x = Rw0 K r c) ∧ gX2_fillRows_l9 q2 σ I R (n + 1) J (Int32.ofInt (r : Int)) (Int32.ofInt (c : Int)) = gX2_fillRows_l9 q2 σ I R n (u2 (u2 J (80 + r) c (Int64.ofInt x)) (84 + r) c (Int64.ofInt 1)) (Int32.ofInt (r : Int)) (Int32.ofInt ((c + 1 : Nat) : Int)) := by
      rw [gX2_fillRows_l9, if_neg (by rw [i_ler (by omega)]; omega), if_pos gr]
      by_cases c4 : 4 ≤ c
      · rw [if_pos (by rw [i_ler (by omega)]; omega)]
        by_cases c5 : c = 5 + r
        · refine ⟨1, fun _ => ?_, ?_⟩
          · unfold Rw0; rw [if_neg (by omega), if_neg (by omega), if_pos c5]
          · rw [if_pos (by rw [i_addr, i_eq (by omega) (by omega)]; omega)]
            simp only [if_pos gr, if_pos g8]
            rw [nr, nc, ec]
            rfl
        · refine ⟨0, fun q => ?_, ?_⟩
          · unfold Rw0; rw [if_neg (by omega), if_neg (by omega), if_neg c5]
          · rw [if_neg (by rw [i_addr, i_eq (by omega) (by omega)]; omega)]
            simp only [if_pos gr, if_pos g8]
            rw [nr, nc, ec]
            rfl
      · have g6 : ¬ (Int32.ofInt (c : Int) < 0 ∨ 6 ≤ Int32.toNatClampNeg (Int32.ofInt (c : Int))) := by rw [i_gd (by omega)]; exact id
        have b := hK.1 (3 * c + r) (by omega)
        refine ⟨K (3 * c + r), fun _ => ?_, ?_⟩
        · unfold Rw0; rw [if_pos (by omega)]
        · rw [if_neg (by rw [i_ler (by omega)]; omega)]
          simp only [if_pos gr, if_pos g8, if_pos g6]
          rw [nr, nc, hI c r (by omega) hr, i_w (by omega), ec]
          rfl
    obtain ⟨x, x1, x2⟩ := one
    obtain ⟨J', a1, a2, a3, a4, a5, a6⟩ := ih (c + 1) n (u2 (u2 J (80 + r) c (Int64.ofInt x)) (84 + r) c (Int64.ofInt 1)) (by omega) (by omega)
    refine ⟨J', x2.trans a1, fun j q1 q2 => ?_, fun a j q => ?_, fun j q1 q2 => ?_, fun j q => ?_, a6⟩
    · by_cases e : j = c
      · subst e
        refine ⟨?_, ?_⟩
        · by_cases f : j = 4
          · rw [f]; exact a6
          · rw [a4 j (by omega) f, ← x1 f]; simp (disch := omega) only [u2n, u2s]
        · rw [a5 j (by omega)]; simp (disch := omega) only [u2n, u2s]
      · exact a2 j (by omega) q2
    · rw [a3 a j q, u2n (by omega), u2n (by omega)]
    · rw [a4 j (by omega) q2, u2n (by omega), u2n (by omega)]
    · rw [a5 j (by omega), u2n (by omega), u2n (by omega)]
