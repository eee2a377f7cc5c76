/-! ===== work: the witness, both ===== -/
theorem wit63 {σ : Shp} {R : Nat → Nat → Option Nat} {r M : Nat} {u y : Nat → Int} {l : Nat → Nat} (hr : r < 3) (l0 : ∀ j, j < 3 → 0 < l j ∧ l j ≤ 20000) (hM : 0 < M ∧ M ≤ 20000) (hy : ∀ j, j < 3 → y j = u j * ((M / l j : Nat) : Int)) (by' : ∀ j, j < 3 → (y j).natAbs ≤ 2000000000000) : ∀ (t c n m : Nat) (J J' : Nat → Nat → Int64), c + t = 3 → t < n → t < m → (∀ j, j < 3 → J (80 + r) (5 + j) = Int64.ofInt (u j) ∧ J' 189 (8 * r + (5 + j)) = Int64.ofInt (u j)) → (∀ j, j < 3 → J (84 + r) (5 + j) = Int64.ofInt (l j : Int) ∧ J' 190 (8 * r + (5 + j)) = Int64.ofInt (l j : Int)) → (∀ j, j < c → J 90 j = Int64.ofInt (y j) ∧ J' 194 j = Int64.ofInt (y j)) → gG y 3 ≠ 0 → ∃ J1 J2, gX2_tellWitness_l63 σ R n J (Int32.ofInt (r : Int)) (Int64.ofInt (M : Int)) (Int64.ofInt (gG y c : Int)) (Int32.ofInt (c : Int)) = (gX2_firstSign σ J1 R).bind (fun r1 => gX2_tellWitness_l157 σ R FUx J1 (Int32.toInt64 r1 * Int64.ofInt (gG y 3 : Int)) 0) ∧ gX12_makeWitness_l54 σ R m J' (Int32.ofInt (r : Int)) (Int64.ofInt (M : Int)) (Int64.ofInt (gG y c : Int)) (Int64.ofInt (sS y c)) (Int32.ofInt (c : Int)) = gX12_makeWitness_l142 σ R FUx J2 (Int64.ofInt (gG y 3 : Int)) (Int64.ofInt (sS y 3)) 0 ∧ (∀ j, j < 3 → J1 90 j = Int64.ofInt (y j) ∧ J2 194 j = Int64.ofInt (y j)) ∧ (∀ a j, a ≠ 90 → J1 a j = J a j) := by
  obtain ⟨F, hF⟩ : ∃ F, FUx = F := ⟨_, rfl⟩
  rw [hF]
  have gr : ¬ (Int32.ofInt (r : Int) < 0 ∨ 3 ≤ Int32.toNatClampNeg (Int32.ofInt (r : Int))) := by rw [i_gd (by omega)]; exact id
  have nr : Int32.toNatClampNeg (Int32.ofInt (r : Int)) = r := by rw [i_tn (by omega), Int.toNat_natCast]
  intro t
  induction t with
  | zero =>
    intro c n m J J' h1 h2 h3 hU hL h4 g0
    obtain ⟨n, rfl⟩ : ∃ m, n = m + 1 := ⟨n - 1, by omega⟩
    obtain ⟨m, rfl⟩ : ∃ j, m = j + 1 := ⟨m - 1, by omega⟩
    obtain rfl : c = 3 := by omega
    have b := (gG_b by' 3 (by decide)).1
    refine ⟨J, J', ?_, ?_, h4, fun _ _ _ => rfl⟩
    · rw [gX2_tellWitness_l63, if_pos (by rw [i_ler (by omega)]; omega), if_neg (by rw [j_eql (by omega)]; omega), hF]
    · rw [gX12_makeWitness_l54, if_pos (by rw [i_ler (by omega)]; omega), hF]
  | succ t ih =>
    intro c n m J J' h1 h2 h3 hU hL h4 g0
    obtain ⟨n, rfl⟩ : ∃ m, n = m + 1 := ⟨n - 1, by omega⟩
    obtain ⟨m, rfl⟩ : ∃ j, m = j + 1 := ⟨m - 1, by omega⟩
    have hc : c < 3 := by omega
    have e5 : (5 : Int32) + Int32.ofInt (c : Int) = Int32.ofInt ((5 + c : Nat) : Int) := by rw [i_addr]; rfl
    have g5 : ¬ (Int32.ofInt ((5 + c : Nat) : Int) < 0 ∨ 8 ≤ Int32.toNatClampNeg (Int32.ofInt ((5 + c : Nat) : Int))) := by rw [i_gd (by omega)]; exact id
    have n5 : Int32.toNatClampNeg (Int32.ofInt ((5 + c : Nat) : Int)) = 5 + c := by rw [i_tn (by omega), Int.toNat_natCast]
    have ei : (8 : Int32) * Int32.ofInt (r : Int) + (5 : Int32) + Int32.ofInt (c : Int) = Int32.ofInt ((8 * r + (5 + c) : Nat) : Int) := by
      rw [i_mulr, i_addl, i_add]
      congr 1
      rw [Int.natCast_add, Int.natCast_mul, Int.natCast_add]
      omega
    have gi : ¬ (Int32.ofInt ((8 * r + (5 + c) : Nat) : Int) < 0 ∨ 24 ≤ Int32.toNatClampNeg (Int32.ofInt ((8 * r + (5 + c) : Nat) : Int))) := by rw [i_gd (by omega)]; exact id
    have ni : Int32.toNatClampNeg (Int32.ofInt ((8 * r + (5 + c) : Nat) : Int)) = 8 * r + (5 + c) := by rw [i_tn (by omega), Int.toNat_natCast]
    have gc : ¬ (Int32.ofInt (c : Int) < 0 ∨ 3 ≤ Int32.toNatClampNeg (Int32.ofInt (c : Int))) := by rw [i_gd (by omega)]; exact id
    have nc : Int32.toNatClampNeg (Int32.ofInt (c : Int)) = c := by rw [i_tn (by omega), Int.toNat_natCast]
    have ec : Int32.ofInt (c : Int) + 1 = Int32.ofInt ((c + 1 : Nat) : Int) := by rw [i_addl]; rfl
    have bl := l0 c hc
    have z : ¬ Int64.ofInt (l c : Int) = 0 := by rw [j_eql (by omega)]; omega
    have yy : Int64.ofInt (u c) * (Int64.ofInt (M : Int) / Int64.ofInt (l c : Int)) = Int64.ofInt (y c) := by
      rw [j_div (by omega) (by omega), j_mul, hy c hc]
    have bg := gG_b by' c (by omega)
    have bs := bg.2
    have b := by' c hc
    have sg : Sm (gG y c : Int) := by unfold Sm; omega
    have sy : Sm (y c) := by unfold Sm; omega
    have gC : fX2_commonDivisor (Int64.ofInt (gG y c : Int)) (Int64.ofInt (y c)) = some (Int64.ofInt (gG y (c + 1) : Int)) := gdC sg sy
    have gM : fX12_common (Int64.ofInt (gG y c : Int)) (Int64.ofInt (y c)) = some (Int64.ofInt (gG y (c + 1) : Int)) := gdM sg sy
    obtain ⟨J1, J2, a1, a2, a3, a4⟩ := ih (c + 1) n m (u2 J 90 c (Int64.ofInt (y c))) (u2 J' 194 c (Int64.ofInt (y c))) (by omega) (by omega) (by omega) (fun j hj => by rw [u2n (by omega), u2n (by omega)]; exact hU j hj) (fun j hj => by rw [u2n (by omega), u2n (by omega)]; exact hL j hj) (fun j hj => by
      by_cases e : j = c
      · rw [e]
        exact ⟨by simp (disch := omega) only [u2n, u2s], by simp (disch := omega) only [u2n, u2s]⟩
      · rw [u2n (by omega), u2n (by omega)]
        exact h4 j (by omega)) g0
    refine ⟨J1, J2, ?_, ?_, a3, fun a j q => by rw [a4 a j q, u2n (by omega)]⟩
    · rw [gX2_tellWitness_l63, if_neg (by rw [i_ler (by omega)]; omega), e5]
      simp only [if_pos gr, if_pos g5, if_pos gc]
      rw [nr, n5, nc, (hL c hc).1, (hU c hc).1, if_neg z, if_pos z, yy, u2s ⟨rfl, rfl⟩, gC, ob_some, ec]
      exact a1
    · have s1 : sS y (c + 1) = if sS y c = 0 then y c else sS y c := rfl
      rw [gX12_makeWitness_l54, if_neg (by rw [i_ler (by omega)]; omega), ei]
      simp only [if_pos gi, if_pos gc]
      rw [ni, nc, (hL c hc).2, (hU c hc).2, if_pos z, yy, u2s ⟨rfl, rfl⟩, gM, ob_some, ec]
      by_cases q : sS y c = 0
      · rw [if_pos (by rw [j_eql (by omega)]; exact q)]
        rw [s1, if_pos q] at a2
        exact a2
      · rw [if_neg (by rw [j_eql (by omega)]; exact q)]
        rw [s1, if_neg q] at a2
        exact a2
theorem wits {σ : Shp} {R : Nat → Nat → Option Nat} {J J' : Nat → Nat → Int64} {K : Nat → Int} {k : Nat} {U L : Nat → Nat → Int} {v : Nat → Nat} (hK : KB K) (hW : WI K k U L v) (hM : MatC J U L) (hM' : MatM J' U L) {r : Nat} (h1 : k ≤ r) (hr : r < 3) : ∃ J1 J2, gX2_tellWitness σ J R (Int32.ofInt (r : Int)) = some J1 ∧ gX12_makeWitness σ J' R (Int32.ofInt (r : Int)) = some J2 ∧ (∀ j, j < 3 → J1 90 j = J2 194 j) ∧ (∀ a j, a ≠ 90 → J1 a j = J a j) := by
  obtain ⟨F, hF⟩ : ∃ F, FUx = F := ⟨_, rfl⟩
  have hF' : F = 2000000 := by rw [← hF, FUx_eq]
  have wb := fun c (hc : c < 8) => wi_b hK hW (by omega) hr hc
  obtain ⟨l, hl⟩ : ∃ l : Nat → Nat, ∀ j, j < 3 → L r (5 + j) = (l j : Int) := ⟨fun j => (L r (5 + j)).toNat, fun j hj => (Int.toNat_of_nonneg (by have := (wb (5 + j) (by omega)).2.1; omega)).symm⟩
  have l0 : ∀ j, j < 3 → 0 < l j ∧ l j ≤ 20000 := fun j hj => by
    have a := wb (5 + j) (by omega)
    have b := a.2.2.2 (by omega)
    have c := hl j hj
    omega
  obtain ⟨D, hD, lD⟩ : ∃ D, (0 < D ∧ D ≤ 20000) ∧ ∀ j, j < 3 → l j ∣ D := by
    obtain ⟨w, hw, hMt, hv⟩ := hW
    have b := (nn_b (qq_b hK hw) (k := k) (by omega) (a := v 0) (b := v 1) (e := v 2) (fun x => hv 0 x) (fun x => hv 1 x) (fun x => hv 2 x) hr (c := 0) (by decide)).2.2 (by omega)
    refine ⟨(dD (QQ K w) k (v 0) (v 1) (v 2)).natAbs, ⟨?_, by omega⟩, fun j hj => ?_⟩
    · have := (hMt r 0 hr (by decide)).2.2.2
      omega
    · have := (hMt r (5 + j) hr (by omega)).dl
      rw [hl j hj] at this
      exact this
  obtain ⟨M, m1, m2, m3, m4, m5⟩ := mulL (σ := σ) (R := R) (J := J) (J' := J') hr (fun j hj => by rw [← hl j hj]; exact ⟨(hM r (5 + j) hr (by omega)).2, (hM' r (5 + j) hr (by omega)).2⟩) (fun j hj => (l0 j hj).1) hD lD 3 0 F F 1 (by omega) (by omega) (by omega) (by decide) (Nat.one_dvd D) (fun j hj => by omega)
  have bM := Nat.le_of_dvd hD.1 m2
  have by' : ∀ j, j < 3 → (U r (5 + j) * ((M / l j : Nat) : Int)).natAbs ≤ 2000000000000 := fun j hj => by
    have a := (wb (5 + j) (by omega)).1
    have b := mb (x := U r (5 + j)) (y := ((M / l j : Nat) : Int)) (A := 58747194) (B := 20000) a (by rw [Int.natAbs_natCast]; exact Nat.le_trans (Nat.div_le_self M (l j)) (by omega))
    exact Nat.le_trans b (by decide)
  have sy : ∀ j, j < 3 → Sm (U r (5 + j) * ((M / l j : Nat) : Int)) := fun j hj => by have := by' j hj; unfold Sm; omega
  generalize hy : (fun j => U r (5 + j) * ((M / l j : Nat) : Int)) = y
  have hy' : ∀ j, y j = U r (5 + j) * ((M / l j : Nat) : Int) := fun j => by rw [← hy]
  have g0 : gG y 3 ≠ 0 := fun e => by
    obtain ⟨j, hj, hu⟩ := wi_own hW h1 hr
    have z := gG_0 3 e j hj
    rw [hy'] at z
    have p : 0 < M / l j := Nat.div_pos (Nat.le_of_dvd m1 (m3 j hj)) (l0 j hj).1
    rcases Int.mul_eq_zero.mp z with z | z
    · exact hu z
    · omega
  have by2 : ∀ j, j < 3 → (y j).natAbs ≤ 2000000000000 := fun j hj => by rw [hy']; exact by' j hj
  have sy2 : ∀ j, j < 3 → Sm (y j) := fun j hj => by rw [hy']; exact sy j hj
  obtain ⟨J3, J4, a1, a2, a3, a4⟩ := wit63 (σ := σ) (R := R) (u := fun j => U r (5 + j)) hr l0 ⟨m1, by omega⟩ (fun j _ => hy' j) by2 3 0 F F J J' (by omega) (by omega) (by omega) (fun j hj => ⟨(hM r (5 + j) hr (by omega)).1, (hM' r (5 + j) hr (by omega)).1⟩) (fun j hj => by rw [← hl j hj]; exact ⟨(hM r (5 + j) hr (by omega)).2, (hM' r (5 + j) hr (by omega)).2⟩) (fun j hj => by omega) g0
  have bg := gG_b by2 3 (by decide)
  have bs := bg.2
  have f1 : gX2_firstSign σ J3 R = some (if 0 ≤ sS y 3 then 1 else -1) := by
    unfold gX2_firstSign
    rw [hF]
    exact fsg (fun j hj => (a3 j hj).1) sy2 3 0 F (by omega) (by omega) rfl
  have wv : Int32.toInt64 (if 0 ≤ sS y 3 then 1 else -1) * Int64.ofInt (gG y 3 : Int) = Int64.ofInt ((if 0 ≤ sS y 3 then 1 else -1) * (gG y 3 : Int)) := by
    split
    · rw [show Int32.toInt64 1 = Int64.ofInt 1 from rfl, j_mul]
    · rw [show Int32.toInt64 (-1) = Int64.ofInt (-1) by decide, j_mul]
  obtain ⟨J1, b1, b2, b3⟩ := dv157 (σ := σ) (R := R) (w := (if 0 ≤ sS y 3 then 1 else -1) * (gG y 3 : Int)) (by unfold Sm; split <;> omega) (by split <;> omega) sy2 3 0 F J3 (by omega) (by omega) (fun j _ hj => (a3 j hj).1)
  obtain ⟨J2, c1, c2, -⟩ := dv142 (σ := σ) (R := R) (w := (gG y 3 : Int)) (s := sS y 3) (by unfold Sm; omega) (by omega) (by unfold Sm; omega) sy2 3 0 F J4 (by omega) (by omega) (fun j _ hj => (a3 j hj).2)
  rw [hF] at a1 a2 m4 m5
  refine ⟨J1, J2, ?_, ?_, fun j hj => ?_, fun a j q => by rw [b3 a j (by omega), a4 a j q]⟩
  · unfold gX2_tellWitness
    rw [hF]
    refine (show _ = _ from m4).trans ((show _ = _ from a1).trans ?_)
    rw [f1, ob_some, wv]
    exact b1
  · unfold gX12_makeWitness
    rw [hF]
    exact (show _ = _ from m5).trans ((show _ = _ from a2).trans c1)
  · rw [b2 j (by omega) hj, c2 j (by omega) hj]
    congr 1
    split
    · rw [Int.one_mul, Int.mul_one]
    · rw [Int.neg_one_mul, Int.tdiv_neg, Int.mul_neg, Int.mul_one]
