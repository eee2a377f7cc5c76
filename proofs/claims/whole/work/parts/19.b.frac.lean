/-! ===== work: reduced fractions ===== -/
def sgn2 (X Y : Int) : Int := if 0 ≤ Y then ((Int.gcd X Y : Nat) : Int) else -((Int.gcd X Y : Nat) : Int)
def rU (X Y : Int) : Int := X.tdiv (sgn2 X Y)
def rL (X Y : Int) : Int := Y.tdiv (sgn2 X Y)
/-- u over l is M over d, reduced -/
def Fr (u l M d : Int) : Prop := u * d = M * l ∧ 0 < l ∧ Int.gcd u l = 1 ∧ d ≠ 0
theorem rd_ex {X Y : Int} (hY : Y ≠ 0) : sgn2 X Y ≠ 0 ∧ X = rU X Y * sgn2 X Y ∧ Y = rL X Y * sgn2 X Y ∧ 0 < rL X Y ∧ Int.gcd (rU X Y) (rL X Y) = 1 := by
  have hg : 0 < Int.gcd X Y := Int.gcd_pos_of_ne_zero_right X hY
  obtain ⟨a, ha⟩ := Int.gcd_dvd_left X Y
  obtain ⟨b, hb⟩ := Int.gcd_dvd_right X Y
  have h1 := Int.gcd_ediv_gcd_ediv_gcd hg
  generalize eg : Int.gcd X Y = g at *
  have g0 : (g : Int) ≠ 0 := by omega
  have xa : X / (g : Int) = a := by rw [ha]; exact Int.mul_ediv_cancel_left a g0
  have yb : Y / (g : Int) = b := by rw [hb]; exact Int.mul_ediv_cancel_left b g0
  rw [xa, yb] at h1
  unfold rU rL sgn2
  rw [eg]
  by_cases c : 0 ≤ Y
  · rw [if_pos c]
    have x1 : X.tdiv (g : Int) = a := by rw [ha, Int.mul_comm]; exact Int.mul_tdiv_cancel a g0
    have y1 : Y.tdiv (g : Int) = b := by rw [hb, Int.mul_comm]; exact Int.mul_tdiv_cancel b g0
    rw [x1, y1]
    refine ⟨g0, by rw [ha, Int.mul_comm], by rw [hb, Int.mul_comm], ?_, h1⟩
    by_cases q : b ≤ 0
    · have := Int.mul_le_mul_of_nonneg_left (c := (g : Int)) q (by omega)
      rw [← hb] at this
      simp only [Int.mul_zero] at this
      omega
    · omega
  · rw [if_neg c]
    have n0 : -(g : Int) ≠ 0 := by omega
    have x0 : X = -a * -(g : Int) := by rw [ha, Int.neg_mul_neg, Int.mul_comm]
    have y0 : Y = -b * -(g : Int) := by rw [hb, Int.neg_mul_neg, Int.mul_comm]
    have x1 : X.tdiv (-(g : Int)) = -a := by rw [x0]; exact Int.mul_tdiv_cancel (-a) n0
    have y1 : Y.tdiv (-(g : Int)) = -b := by rw [y0]; exact Int.mul_tdiv_cancel (-b) n0
    rw [x1, y1]
    refine ⟨n0, x0, y0, ?_, by rw [Int.neg_gcd, Int.gcd_neg]; exact h1⟩
    by_cases q : 0 ≤ b
    · have := Int.mul_le_mul_of_nonneg_left (c := (g : Int)) q (by omega)
      rw [← hb] at this
      simp only [Int.mul_zero] at this
      omega
    · omega
theorem rdF {X Y : Int} (hY : Y ≠ 0) : Fr (rU X Y) (rL X Y) X Y := by
  obtain ⟨s0, hx, hy, hl, hg⟩ := rd_ex (X := X) hY
  refine ⟨?_, hl, hg, hY⟩
  generalize rU X Y = u at *
  generalize rL X Y = l at *
  generalize sgn2 X Y = s at *
  subst hx hy
  rw [Int.mul_assoc, Int.mul_comm s l]
theorem Fr.to {u l M d M' d' : Int} (h : Fr u l M d) (e : M * d' = M' * d) (hd : d' ≠ 0) : Fr u l M' d' := by
  obtain ⟨h1, h2, h3, h4⟩ := h
  refine ⟨?_, h2, h3, hd⟩
  refine Int.eq_of_mul_eq_mul_right h4 ?_
  calc u * d' * d = (u * d) * d' := by rw [Int.mul_assoc, Int.mul_comm d' d, ← Int.mul_assoc]
    _ = (M * l) * d' := by rw [h1]
    _ = (M * d') * l := by rw [Int.mul_assoc, Int.mul_comm l d', ← Int.mul_assoc]
    _ = (M' * d) * l := by rw [e]
    _ = M' * l * d := by rw [Int.mul_assoc, Int.mul_comm d l, ← Int.mul_assoc]
theorem Fr.na {u l M d : Int} (h : Fr u l M d) : u.natAbs * d.natAbs = M.natAbs * l.natAbs := by rw [← Int.natAbs_mul, ← Int.natAbs_mul, h.1]
theorem Fr.dl {u l M d : Int} (h : Fr u l M d) : l.natAbs ∣ d.natAbs := by
  have c : Nat.Coprime l.natAbs u.natAbs := by
    have := h.2.2.1
    rw [Int.gcd_comm] at this
    exact this
  refine Nat.Coprime.dvd_of_dvd_mul_left c ?_
  rw [h.na]
  exact Nat.dvd_mul_left _ _
theorem Fr.du {u l M d : Int} (h : Fr u l M d) : u.natAbs ∣ M.natAbs := by
  have c : Nat.Coprime u.natAbs l.natAbs := h.2.2.1
  refine Nat.Coprime.dvd_of_dvd_mul_right c ?_
  rw [← h.na]
  exact Nat.dvd_mul_right _ _
theorem Fr.bl {u l M d : Int} (h : Fr u l M d) : l.natAbs ≤ d.natAbs := Nat.le_of_dvd (by have := h.2.2.2; omega) h.dl
theorem Fr.bu {u l M d : Int} (h : Fr u l M d) : u.natAbs ≤ M.natAbs := by
  by_cases c : M = 0
  · have e := h.1
    rw [c, Int.zero_mul] at e
    rcases Int.mul_eq_zero.mp e with e | e
    · rw [e]; exact Nat.zero_le _
    · exact absurd e h.2.2.2
  · exact Nat.le_of_dvd (by omega) h.du
theorem Fr.uq {u l u' l' M d : Int} (h : Fr u l M d) (h' : Fr u' l' M d) : u = u' ∧ l = l' := by
  have e : u * l' = u' * l := by
    refine Int.eq_of_mul_eq_mul_right h.2.2.2 ?_
    calc u * l' * d = (u * d) * l' := by rw [Int.mul_assoc, Int.mul_comm l' d, ← Int.mul_assoc]
      _ = (M * l) * l' := by rw [h.1]
      _ = (M * l') * l := by rw [Int.mul_assoc, Int.mul_comm l l', ← Int.mul_assoc]
      _ = (u' * d) * l := by rw [h'.1]
      _ = u' * l * d := by rw [Int.mul_assoc, Int.mul_comm d l, ← Int.mul_assoc]
  have en : u.natAbs * l'.natAbs = u'.natAbs * l.natAbs := by rw [← Int.natAbs_mul, ← Int.natAbs_mul, e]
  have c : Nat.Coprime l.natAbs u.natAbs := by
    have := h.2.2.1
    rw [Int.gcd_comm] at this
    exact this
  have c' : Nat.Coprime l'.natAbs u'.natAbs := by
    have := h'.2.2.1
    rw [Int.gcd_comm] at this
    exact this
  have d1 : l.natAbs ∣ l'.natAbs := Nat.Coprime.dvd_of_dvd_mul_left c (by rw [en]; exact Nat.dvd_mul_left _ _)
  have d2 : l'.natAbs ∣ l.natAbs := Nat.Coprime.dvd_of_dvd_mul_left c' (by rw [← en]; exact Nat.dvd_mul_left _ _)
  have el := Nat.dvd_antisymm d1 d2
  have hl := h.2.1
  have hl' := h'.2.1
  have ell : l = l' := by omega
  refine ⟨?_, ell⟩
  subst ell
  exact Int.eq_of_mul_eq_mul_right (by omega) e
theorem jdw {p w : Int} (hp : Sm p) (hw : Sm w) : Int64.ofInt p / Int64.ofInt w = Int64.ofInt (p.tdiv w) ∧ Sm (p.tdiv w) := by
  unfold Sm at *
  have a := Int.natAbs_tdiv_le_natAbs p w
  have b : -4611686018427387904 < p.tdiv w ∧ p.tdiv w < 4611686018427387904 := by omega
  have h : Int64.ofInt p ≠ Int64.minValue := fun e => by
    have := congrArg Int64.toInt e
    rw [tiJ (by omega) (by omega), Int64.toInt_minValue] at this
    omega
  refine ⟨?_, b⟩
  rw [← Int64.toInt_inj, Int64.toInt_div_of_ne_left _ _ h, tiJ (i := p) (by omega) (by omega), tiJ (i := w) (by omega) (by omega), tiJ (by omega) (by omega)]
theorem sg_b {X Y : Int} (hX : Sm X) (hY : Sm Y) (h0 : Y ≠ 0) : Sm (sgn2 X Y) ∧ ((Int.gcd X Y : Nat) : Int) ≠ 0 ∧ Sm ((Int.gcd X Y : Nat) : Int) := by
  have hg : 0 < Int.gcd X Y := Int.gcd_pos_of_ne_zero_right X h0
  have hl : Int.gcd X Y ≤ Y.natAbs := Nat.le_of_dvd (by omega) (Int.gcd_dvd_natAbs_right X Y)
  unfold sgn2 Sm at *
  refine ⟨?_, by omega, by omega⟩
  split <;> omega
/-- the class writes a fraction -/
theorem bfC {σ : Shp} {R : Nat → Nat → Option Nat} {J : Nat → Nat → Int64} {r c : Nat} {X Y : Int} (hr : r < 3) (hc : c < 8) (hX : Sm X) (hY : Sm Y) (h0 : Y ≠ 0) : gX2_becomesFraction σ J R (Int32.ofInt (r : Int)) (Int32.ofInt (c : Int)) (Int64.ofInt X) (Int64.ofInt Y) = some (u2 (u2 J (80 + r) c (Int64.ofInt (rU X Y))) (84 + r) c (Int64.ofInt (rL X Y))) := by
  obtain ⟨b1, b2, b3⟩ := sg_b hX hY h0
  have s0 := (rd_ex (X := X) h0).1
  have hX' := hX
  have hY' := hY
  have g3 : ¬ (Int32.ofInt (r : Int) < 0 ∨ 3 ≤ Int32.toNatClampNeg (Int32.ofInt (r : Int))) := by rw [i_gd (by omega)]; exact id
  have g8 : ¬ (Int32.ofInt (c : Int) < 0 ∨ 8 ≤ Int32.toNatClampNeg (Int32.ofInt (c : Int))) := by rw [i_gd (by omega)]; exact id
  have n3 : Int32.toNatClampNeg (Int32.ofInt (r : Int)) = r := by rw [i_tn (by omega), Int.toNat_natCast]
  have n8 : Int32.toNatClampNeg (Int32.ofInt (c : Int)) = c := by rw [i_tn (by omega), Int.toNat_natCast]
  have b31 : gX2_becomesFraction_b31 σ R J (Int32.ofInt (r : Int)) (Int32.ofInt (c : Int)) (Int64.ofInt X) (Int64.ofInt Y) (Int64.ofInt (sgn2 X Y)) = some (u2 (u2 J (80 + r) c (Int64.ofInt (rU X Y))) (84 + r) c (Int64.ofInt (rL X Y))) := by
    have z : ¬ Int64.ofInt (sgn2 X Y) = 0 := by unfold Sm at b1; rw [j_eql (by omega)]; exact s0
    unfold gX2_becomesFraction_b31
    simp only [if_pos g3, if_pos g8, if_pos z]
    rw [n3, n8, (jdw hX b1).1, (jdw hY b1).1]
    rfl
  unfold gX2_becomesFraction
  unfold Sm at hX' hY' b3
  rw [gdC hX hY, ob_some, if_neg (by rw [j_eql (by omega)]; exact b2)]
  by_cases q : 0 ≤ Y
  · rw [if_pos (by rw [j_ler (by omega)]; exact q)]
    have : sgn2 X Y = ((Int.gcd X Y : Nat) : Int) := if_pos q
    rw [← this]
    exact b31
  · rw [if_neg (by rw [j_ler (by omega)]; exact q), j_neg]
    have : sgn2 X Y = -((Int.gcd X Y : Nat) : Int) := if_neg q
    rw [← this]
    exact b31
/-- the model writes a fraction -/
theorem frWM {σ : Shp} {R : Nat → Nat → Option Nat} {J : Nat → Nat → Int64} {i : Nat} {X Y : Int} (hi : i < 24) (hX : Sm X) (hY : Sm Y) (h0 : Y ≠ 0) : gX12_fraction σ J R (Int32.ofInt (i : Int)) (Int64.ofInt X) (Int64.ofInt Y) = some (u2 (u2 J 189 i (Int64.ofInt (rU X Y))) 190 i (Int64.ofInt (rL X Y))) := by
  obtain ⟨b1, b2, b3⟩ := sg_b hX hY h0
  have s0 := (rd_ex (X := X) h0).1
  have hY' := hY
  have g3 : ¬ (Int32.ofInt (i : Int) < 0 ∨ 24 ≤ Int32.toNatClampNeg (Int32.ofInt (i : Int))) := by rw [i_gd (by omega)]; exact id
  have n3 : Int32.toNatClampNeg (Int32.ofInt (i : Int)) = i := by rw [i_tn (by omega), Int.toNat_natCast]
  have b23 : gX12_fraction_b23 σ R J (Int32.ofInt (i : Int)) (Int64.ofInt X) (Int64.ofInt Y) (Int64.ofInt (sgn2 X Y)) = some (u2 (u2 J 189 i (Int64.ofInt (rU X Y))) 190 i (Int64.ofInt (rL X Y))) := by
    have z : ¬ Int64.ofInt (sgn2 X Y) = 0 := by unfold Sm at b1; rw [j_eql (by omega)]; exact s0
    unfold gX12_fraction_b23
    simp only [if_pos g3, if_pos z]
    rw [n3, (jdw hX b1).1, (jdw hY b1).1]
    rfl
  unfold gX12_fraction
  unfold Sm at hY'
  rw [gdM hX hY, ob_some]
  by_cases q : 0 ≤ Y
  · rw [if_pos (by rw [j_ler (by omega)]; exact q)]
    have : sgn2 X Y = ((Int.gcd X Y : Nat) : Int) := if_pos q
    rw [← this]
    exact b23
  · rw [if_neg (by rw [j_ler (by omega)]; exact q), j_neg]
    have : sgn2 X Y = -((Int.gcd X Y : Nat) : Int) := if_neg q
    rw [← this]
    exact b23
