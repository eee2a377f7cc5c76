/-! ===== moves of places ===== -/
def sfp (G : Nat → Nat → Nat) (a b n : Nat) : Nat → Nat → Nat := fun x q => if x = 4 ∧ b ≤ q ∧ q < b + n then G 4 (a + (q - b)) else G x q
def sfq (G : Nat → Nat → Nat) (a b n k : Nat) : Nat → Nat → Nat := fun x q => if x = 4 ∧ b + (n - k) ≤ q ∧ q < b + n then G 4 (a + (q - b)) else G x q
theorem sfp_0 {G : Nat → Nat → Nat} {a b : Nat} : sfp G a b 0 = G := by
  funext x q
  unfold sfp
  rw [if_neg (by omega)]
theorem sfq_0 {G : Nat → Nat → Nat} {a b n : Nat} : sfq G a b n 0 = G := by
  funext x q
  unfold sfq
  rw [if_neg (by omega)]
theorem sfq_n {G : Nat → Nat → Nat} {a b n : Nat} : sfq G a b n n = sfp G a b n := by
  funext x q
  unfold sfq sfp
  rw [Nat.sub_self, Nat.add_zero]
theorem sfp_s {G : Nat → Nat → Nat} {a b k : Nat} : u2 (sfp G a b k) 4 (b + k) (G 4 (a + k)) = sfp G a b (k + 1) := by
  funext x q
  unfold u2 sfp
  by_cases h : x = 4 ∧ q = b + k
  · obtain ⟨rfl, rfl⟩ := h
    rw [if_pos ⟨rfl, rfl⟩, if_pos (by omega), show b + k - b = k by omega]
  · rw [if_neg h]
    by_cases h2 : x = 4 ∧ b ≤ q ∧ q < b + k
    · rw [if_pos h2, if_pos (by omega)]
    · rw [if_neg h2, if_neg (by omega)]
theorem sfq_s {G : Nat → Nat → Nat} {a b n k : Nat} (hk : k < n) : u2 (sfq G a b n k) 4 (b + (n - 1 - k)) (G 4 (a + (n - 1 - k))) = sfq G a b n (k + 1) := by
  funext x q
  unfold u2 sfq
  by_cases h : x = 4 ∧ q = b + (n - 1 - k)
  · obtain ⟨rfl, rfl⟩ := h
    rw [if_pos ⟨rfl, rfl⟩, if_pos (by omega), show b + (n - 1 - k) - b = n - 1 - k by omega]
  · rw [if_neg h]
    by_cases h2 : x = 4 ∧ b + (n - k) ≤ q ∧ q < b + n
    · rw [if_pos h2, if_pos (by omega)]
    · rw [if_neg h2, if_neg (by omega)]
theorem sfp_r {G : Nat → Nat → Nat} {a b k z : Nat} (hk : k < z) (d : b ≤ a ∨ a + z ≤ b) : sfp G a b k 4 (a + k) = G 4 (a + k) := by
  unfold sfp
  rw [if_neg (by omega)]
theorem sfq_r {G : Nat → Nat → Nat} {a b k z : Nat} (hk : k < z) (d : a ≤ b ∨ b + z ≤ a) : sfq G a b z k 4 (a + (z - 1 - k)) = G 4 (a + (z - 1 - k)) := by
  unfold sfq
  rw [if_neg (by omega)]
theorem sfp_o {G : Nat → Nat → Nat} {a b n x q : Nat} (h : x ≠ 4) : sfp G a b n x q = G x q := if_neg (by omega)
theorem sfq_o {G : Nat → Nat → Nat} {a b n k x q : Nat} (h : x ≠ 4) : sfq G a b n k x q = G x q := if_neg (by omega)
theorem sfp_p {G : Nat → Nat → Nat} {a b n t : Nat} : pn (sfp G a b n) t = pn G t := by unfold pn; rw [sfp_o (by omega)]
theorem sfq_p {G : Nat → Nat → Nat} {a b n k t : Nat} : pn (sfq G a b n k) t = pn G t := by unfold pn; rw [sfq_o (by omega)]
theorem mvP_f {G : Nat → Nat → Nat} {C : Nat → Int64} {N : Nat → Nat → Int32} {σ : Shp} {I : Nat → Nat → Int32} {J : Nat → Nat → Int64} {x y z i j : Nat} (x1 : 1 ≤ x) (x2 : x ≤ G 10 0) (y1 : 1 ≤ y) (y2 : y ≤ G 10 0) (fx : 8 ≤ G 1 x ∧ G 1 x ≤ 15) (fy : 8 ≤ G 1 y ∧ G 1 y ≤ 15) (lx : G 2 x ≤ 10) (ly : G 2 y ≤ 10) (zx : i + z ≤ G 2 x) (zy : j + z ≤ G 2 y) (hv : ∀ q, q < z → G 4 (G 3 x + i + q) ≤ G 10 0 ∧ (G 4 (G 3 x + i + q) ≠ 0 → plFor (G 1 y) (G 1 (G 4 (G 3 x + i + q))))) (d : j ≤ i) (dis : G 3 y + j ≤ G 3 x + i ∨ G 3 x + i + z ≤ G 3 y + j) (hb : 202 ≤ G 0 y ∧ G 0 y + 1 < 1000000) : ∀ (w k n : Nat) (R : Nat → Nat → Option Nat), w < n → k + w = z → TSg (sfp G (G 3 x + i) (G 3 y + j) k) C N → TCl (sfp G (G 3 x + i) (G 3 y + j) k) C N σ I J R → ∃ R', gX11_movePlaces_l32 σ n R (some (G 0 x)) (Int32.ofInt i) (some (G 0 y)) (Int32.ofInt j) (Int32.ofInt z) (Int32.ofInt k) = some R' ∧ TSg (sfp G (G 3 x + i) (G 3 y + j) z) C N ∧ TCl (sfp G (G 3 x + i) (G 3 y + j) z) C N σ I J R' ∧ Ag [(202, 1000000)] R R' := by
  intro w
  induction w with
  | zero =>
    intro k n R hn hk hg hc
    obtain ⟨n, rfl⟩ : ∃ m, n = m + 1 := ⟨n - 1, by omega⟩
    obtain rfl : k = z := by omega
    refine ⟨R, ?_, hg, hc, Ag.rf⟩
    rw [gX11_movePlaces_l32, if_pos (by rw [i_le (by omega) (by omega)]; omega)]
  | succ w ih =>
    intro k n R hn hk hg hc
    obtain ⟨n, rfl⟩ : ∃ m, n = m + 1 := ⟨n - 1, by omega⟩
    have o : ∀ a q, a ≠ 4 → sfp G (G 3 x + i) (G 3 y + j) k a q = G a q := fun a q h => sfp_o h
    obtain ⟨p1, p2, p3, p4, p5, -⟩ := cth_pl hc x1 (by rw [o 10 0 (by omega)]; exact x2) (by rw [o 1 x (by omega)]; exact fx)
    obtain ⟨q1, q2, q3, q4, q5, -⟩ := cth_pl hc y1 (by rw [o 10 0 (by omega)]; exact y2) (by rw [o 1 y (by omega)]; exact fy)
    rw [o 0 x (by omega)] at p1 p2 p3 p4 p5
    rw [o 0 y (by omega)] at q1 q2 q3 q4
    rw [o 2 x (by omega)] at p4 p5
    rw [o 2 y (by omega)] at q4
    have p5 := p5 (i + k) (by omega)
    rw [o 3 x (by omega), ← Nat.add_assoc, sfp_r (z := z) (by omega) dis, sfp_p] at p5
    have v := hv k (by omega)
    have ok := ok_pn hc (x := G 4 (G 3 x + i + k)) (by rw [o 10 0 (by omega)]; exact v.1)
    rw [sfp_p] at ok
    have st := mvP_1 (q := gX11_movePlaces_l32 σ n) (at' := k) (k := k) (x4 := Int32.ofInt z) (i := i) (j := j) p1 p2 p3 p4 q1 q2 q3 q4 (by omega) (by omega) (by omega) (by omega) (by omega) (by rw [p5]; exact ok)
    rw [p5] at st
    have k2 := TCl.setP (t := y) (k := j + k) (x := G 4 (G 3 x + i + k)) hg hc y1 (by rw [o 10 0 (by omega)]; exact y2) (by rw [o 1 y (by omega)]; exact fy) (by rw [o 2 y (by omega)]; omega)
    have g2 := hg.setP (t := y) (k := j + k) (x := G 4 (G 3 x + i + k)) y1 (by rw [o 10 0 (by omega)]; exact y2) (by rw [o 1 y (by omega)]; exact fy) (by rw [o 2 y (by omega)]; omega) (by rw [o 10 0 (by omega)]; exact v.1) (by rw [o 1 y (by omega), o 1 _ (by omega)]; exact v.2)
    rw [o 3 y (by omega), ← Nat.add_assoc, sfp_s] at k2 g2
    rw [o 0 y (by omega), sfp_p] at k2
    obtain ⟨R', r1, r2, r3, r4⟩ := ih (k + 1) n _ (by omega) (by omega) g2 k2
    refine ⟨R', ?_, r2, r3, Ag.tr (Ag.st Ag.rf (far_in (by omega) (by omega) rfl)) r4⟩
    rw [gX11_movePlaces_l32, if_neg (by rw [i_le (by omega) (by omega)]; omega), if_pos (by rw [i_le (by omega) (by omega)]; omega), st]
    exact r1
theorem mvP_b {G : Nat → Nat → Nat} {C : Nat → Int64} {N : Nat → Nat → Int32} {σ : Shp} {I : Nat → Nat → Int32} {J : Nat → Nat → Int64} {x y z i j : Nat} (x1 : 1 ≤ x) (x2 : x ≤ G 10 0) (y1 : 1 ≤ y) (y2 : y ≤ G 10 0) (fx : 8 ≤ G 1 x ∧ G 1 x ≤ 15) (fy : 8 ≤ G 1 y ∧ G 1 y ≤ 15) (lx : G 2 x ≤ 10) (ly : G 2 y ≤ 10) (zx : i + z ≤ G 2 x) (zy : j + z ≤ G 2 y) (hv : ∀ q, q < z → G 4 (G 3 x + i + q) ≤ G 10 0 ∧ (G 4 (G 3 x + i + q) ≠ 0 → plFor (G 1 y) (G 1 (G 4 (G 3 x + i + q))))) (d : i < j) (dis : G 3 x + i ≤ G 3 y + j ∨ G 3 y + j + z ≤ G 3 x + i) (hb : 202 ≤ G 0 y ∧ G 0 y + 1 < 1000000) : ∀ (w k n : Nat) (R : Nat → Nat → Option Nat), w < n → k + w = z → TSg (sfq G (G 3 x + i) (G 3 y + j) z k) C N → TCl (sfq G (G 3 x + i) (G 3 y + j) z k) C N σ I J R → ∃ R', gX11_movePlaces_l32 σ n R (some (G 0 x)) (Int32.ofInt i) (some (G 0 y)) (Int32.ofInt j) (Int32.ofInt z) (Int32.ofInt k) = some R' ∧ TSg (sfq G (G 3 x + i) (G 3 y + j) z z) C N ∧ TCl (sfq G (G 3 x + i) (G 3 y + j) z z) C N σ I J R' ∧ Ag [(202, 1000000)] R R' := by
  intro w
  induction w with
  | zero =>
    intro k n R hn hk hg hc
    obtain ⟨n, rfl⟩ : ∃ m, n = m + 1 := ⟨n - 1, by omega⟩
    obtain rfl : k = z := by omega
    refine ⟨R, ?_, hg, hc, Ag.rf⟩
    rw [gX11_movePlaces_l32, if_pos (by rw [i_le (by omega) (by omega)]; omega)]
  | succ w ih =>
    intro k n R hn hk hg hc
    obtain ⟨n, rfl⟩ : ∃ m, n = m + 1 := ⟨n - 1, by omega⟩
    have o : ∀ a q, a ≠ 4 → sfq G (G 3 x + i) (G 3 y + j) z k a q = G a q := fun a q h => sfq_o h
    obtain ⟨p1, p2, p3, p4, p5, -⟩ := cth_pl hc x1 (by rw [o 10 0 (by omega)]; exact x2) (by rw [o 1 x (by omega)]; exact fx)
    obtain ⟨q1, q2, q3, q4, q5, -⟩ := cth_pl hc y1 (by rw [o 10 0 (by omega)]; exact y2) (by rw [o 1 y (by omega)]; exact fy)
    rw [o 0 x (by omega)] at p1 p2 p3 p4 p5
    rw [o 0 y (by omega)] at q1 q2 q3 q4
    rw [o 2 x (by omega)] at p4 p5
    rw [o 2 y (by omega)] at q4
    have p5 := p5 (i + (z - 1 - k)) (by omega)
    rw [o 3 x (by omega), ← Nat.add_assoc, sfq_r (by omega) dis, sfq_p] at p5
    have v := hv (z - 1 - k) (by omega)
    have ok := ok_pn hc (x := G 4 (G 3 x + i + (z - 1 - k))) (by rw [o 10 0 (by omega)]; exact v.1)
    rw [sfq_p] at ok
    have st := mvP_1 (q := gX11_movePlaces_l32 σ n) (at' := z - 1 - k) (k := k) (x4 := Int32.ofInt z) (i := i) (j := j) p1 p2 p3 p4 q1 q2 q3 q4 (by omega) (by omega) (by omega) (by omega) (by omega) (by rw [p5]; exact ok)
    rw [p5] at st
    have k2 := TCl.setP (t := y) (k := j + (z - 1 - k)) (x := G 4 (G 3 x + i + (z - 1 - k))) hg hc y1 (by rw [o 10 0 (by omega)]; exact y2) (by rw [o 1 y (by omega)]; exact fy) (by rw [o 2 y (by omega)]; omega)
    have g2 := hg.setP (t := y) (k := j + (z - 1 - k)) (x := G 4 (G 3 x + i + (z - 1 - k))) y1 (by rw [o 10 0 (by omega)]; exact y2) (by rw [o 1 y (by omega)]; exact fy) (by rw [o 2 y (by omega)]; omega) (by rw [o 10 0 (by omega)]; exact v.1) (by rw [o 1 y (by omega), o 1 _ (by omega)]; exact v.2)
    rw [o 3 y (by omega), ← Nat.add_assoc, sfq_s (by omega)] at k2 g2
    rw [o 0 y (by omega), sfq_p] at k2
    obtain ⟨R', r1, r2, r3, r4⟩ := ih (k + 1) n _ (by omega) (by omega) g2 k2
    refine ⟨R', ?_, r2, r3, Ag.tr (Ag.st Ag.rf (far_in (by omega) (by omega) rfl)) r4⟩
    have ei : (z : Int) - 1 - (k : Int) = ((z - 1 - k : Nat) : Int) := by omega
    rw [gX11_movePlaces_l32, if_neg (by rw [i_le (by omega) (by omega)]; omega), if_neg (by rw [i_le (by omega) (by omega)]; omega), i_subl, i_sub, ei, st]
    exact r1
theorem mvP {G : Nat → Nat → Nat} {C : Nat → Int64} {N : Nat → Nat → Int32} {σ : Shp} {I : Nat → Nat → Int32} {J : Nat → Nat → Int64} {R : Nat → Nat → Option Nat} {x y z i j : Nat} (hg : TSg G C N) (hc : TCl G C N σ I J R) (hn : nxx σ ≤ 900000) (x1 : 1 ≤ x) (x2 : x ≤ G 10 0) (y1 : 1 ≤ y) (y2 : y ≤ G 10 0) (fx : 8 ≤ G 1 x ∧ G 1 x ≤ 15) (fy : 8 ≤ G 1 y ∧ G 1 y ≤ 15) (zx : i + z ≤ G 2 x) (zy : j + z ≤ G 2 y) (hv : ∀ q, q < z → G 4 (G 3 x + i + q) ≤ G 10 0 ∧ (G 4 (G 3 x + i + q) ≠ 0 → plFor (G 1 y) (G 1 (G 4 (G 3 x + i + q))))) : ∃ R', gX11_movePlaces σ R (some (G 0 x)) (Int32.ofInt i) (some (G 0 y)) (Int32.ofInt j) (Int32.ofInt z) = some R' ∧ TSg (sfp G (G 3 x + i) (G 3 y + j) z) C N ∧ TCl (sfp G (G 3 x + i) (G 3 y + j) z) C N σ I J R' ∧ Ag [(202, 1000000)] R R' := by
  obtain ⟨p1, p2, p3, p4, p5, -⟩ := cth_pl hc x1 x2 fx
  obtain ⟨q1, q2, q3, q4, q5, -⟩ := cth_pl hc y1 y2 fy
  have lx := (hg.2.2.1 x x1 x2).2.2.2.2.1 (by omega)
  have ly := (hg.2.2.1 y y1 y2).2.2.2.2.1 (by omega)
  have w1 := span_r (L := G 2 x) (i := i) (n := z) (by omega) zx
  have w2 := span_r (L := G 2 y) (i := j) (n := z) (by omega) zy
  have hb := hc.2.2.2.1.1 y y1 y2
  have w3 := cW_ge (G 1 y)
  have od : x = y ∨ G 3 x + G 2 x ≤ G 3 y ∨ G 3 y + G 2 y ≤ G 3 x := by
    rcases Nat.lt_trichotomy x y with h | h | h
    · exact Or.inr (Or.inl ((hg.2.2.2.1 x y x1 h y2).2 fx.1 fx.2 fy.1 fy.2))
    · exact Or.inl h
    · exact Or.inr (Or.inr ((hg.2.2.2.1 y x y1 h x2).2 fy.1 fy.2 fx.1 fx.2))
  have u : gX11_movePlaces σ R (some (G 0 x)) (Int32.ofInt i) (some (G 0 y)) (Int32.ofInt j) (Int32.ofInt z) = gX11_movePlaces_l32 σ FUx R (some (G 0 x)) (Int32.ofInt i) (some (G 0 y)) (Int32.ofInt j) (Int32.ofInt z) (Int32.ofInt ((0 : Nat) : Int)) := by
    unfold gX11_movePlaces
    simp (disch := omega) only [fail_r, no_r, nob_r, fI_o, Nat.reduceLeDiff, ↓reduceIte, not_true_eq_false, not_false_eq_true, false_imp_iff, true_imp_iff, and_true, true_and, and_self, implies_true, false_or, or_false, true_or, or_true, d10, d01, d00, d11, g_tn, Tot_some, Tot_none, Tot_ite, Tot_bind, ob_some, onl_n, onl_s, nat32, Int.toNat_natCast, i_add, i_sub, i_mul, i_addl, i_addr, i_subl, i_subr, i_mulr, i_addn, i_gd, i_tn, i_w, i_ltlT, i_ltlF, i_ltrT, i_ltrF, i_lelT, i_lelF, i_lerT, i_lerF, i_eqlT, i_eqlF, i_eqrT, i_eqrF, i_ltnT, i_ltnF, i_lenT, i_lenF, i_eqnT, i_eqnF, i_ltT, i_ltF, i_leT, i_leF, i_eqT, i_eqF, j_ltlT, j_ltlF, j_ltrT, j_ltrF, j_lelT, j_lelF, j_lerT, j_lerF, j_eqlT, j_eqlF, j_ltT, j_ltF, j_leT, j_leF, j_eqT, j_eqF, i_mull, l_tn, l_lt0, l_ne0, nleF, tX11_isStockT, tX11_isStockF, tX11_isBinT, tX11_isBinF, tX11_isPlanT, tX11_isPlanF, tX11_isValveT, tX11_isValveF, tX11_isLaneT, tX11_isLaneF, tX11_isGridFormT, tX11_isGridFormF, tX11_isFormT, tX11_isFormF, tX11_isTrayFormT, tX11_isTrayFormF, tX11_isPlacesFormT, tX11_isPlacesFormF, tX11_isTableT, tX11_isTableF, tX11_isProbeT, tX11_isProbeF, tX11_isHouseT, tX11_isHouseF, tX11_isPestT, tX11_isPestF, tX11_isStageT, tX11_isStageF, tX11_isPartT, tX11_isPartF, tX12_isBinT, tX12_isBinF, tX12_isTableT, tX12_isTableF, tX12_inT, tX12_inF, tX12_innT, tX12_innF, tX12_ingT, tX12_ingF, tX12_isStageT, tX12_isStageF, tX1_isByteT, tX1_isByteF, p1, p2, p3, p4, q1, q2, q3, q4, w1, w2]
    rfl
  have hb' : 202 ≤ G 0 y ∧ G 0 y + 1 < 1000000 := by omega
  by_cases d : j ≤ i
  · have dis : G 3 y + j ≤ G 3 x + i ∨ G 3 x + i + z ≤ G 3 y + j := by
      rcases od with rfl | h | h <;> omega
    obtain ⟨R', r1, r2, r3, r4⟩ := mvP_f (C := C) (N := N) (σ := σ) (I := I) (J := J) x1 x2 y1 y2 fx fy lx ly zx zy hv d dis hb' z 0 FUx R (by rw [FUx_eq]; omega) (by omega) (by rw [sfp_0]; exact hg) (by rw [sfp_0]; exact hc)
    exact ⟨R', by rw [u]; exact r1, r2, r3, r4⟩
  · have dis : G 3 x + i ≤ G 3 y + j ∨ G 3 y + j + z ≤ G 3 x + i := by
      rcases od with rfl | h | h <;> omega
    obtain ⟨R', r1, r2, r3, r4⟩ := mvP_b (C := C) (N := N) (σ := σ) (I := I) (J := J) x1 x2 y1 y2 fx fy lx ly zx zy hv (by omega) dis hb' z 0 FUx R (by rw [FUx_eq]; omega) (by omega) (by rw [sfq_0]; exact hg) (by rw [sfq_0]; exact hc)
    rw [sfq_n] at r2 r3
    exact ⟨R', by rw [u]; exact r1, r2, r3, r4⟩
/-- how many are taken -/
theorem leadT {G : Nat → Nat → Nat} {C : Nat → Int64} {N : Nat → Nat → Int32} {σ : Shp} {I : Nat → Nat → Int32} {J : Nat → Nat → Int64} {R : Nat → Nat → Option Nat} {x y z i : Nat} (hg : TSg G C N) (hc : TCl G C N σ I J R) (hm : TMo G C N I J) (x1 : 1 ≤ x) (x2 : x ≤ G 10 0) (y1 : 1 ≤ y) (y2 : y ≤ G 10 0) (fx : 8 ≤ G 1 x ∧ G 1 x ≤ 15) (fy : 8 ≤ G 1 y ∧ G 1 y ≤ 15) (zx : i + z ≤ G 2 x) : ∀ (w k n : Nat), w < n → k + w = z → ∃ m, k ≤ m ∧ m ≤ z ∧ gX11_leadTaken_l3 σ I R n (some (G 0 x)) (Int32.ofInt i) (some (G 0 y)) (Int32.ofInt z) (Int32.ofInt k) = some (Int32.ofInt m) ∧ (∀ q, k ≤ q → q < m → gX12_isFor I (Int32.ofInt (G 1 y)) (Int32.ofInt (G 4 (G 3 x + i + q))) = some 1 ∧ (G 4 (G 3 x + i + q) ≠ 0 → plFor (G 1 y) (G 1 (G 4 (G 3 x + i + q))))) ∧ (m < z → gX12_isFor I (Int32.ofInt (G 1 y)) (Int32.ofInt (G 4 (G 3 x + i + m))) = some 0) := by
  have lx := (hg.2.2.1 x x1 x2).2.2.2.2.1 (by omega)
  intro w
  induction w with
  | zero =>
    intro k n hn hk
    obtain ⟨n, rfl⟩ : ∃ m, n = m + 1 := ⟨n - 1, by omega⟩
    refine ⟨z, by omega, Nat.le_refl _, ?_, fun q h1 h2 => by omega, fun h => by omega⟩
    rw [gX11_leadTaken_l3, if_pos (by rw [i_le (by omega) (by omega)]; omega)]
  | succ w ih =>
    intro k n hn hk
    obtain ⟨n, rfl⟩ : ∃ m, n = m + 1 := ⟨n - 1, by omega⟩
    obtain ⟨p1, p2, p3, p4, p5, -⟩ := cth_pl hc x1 x2 fx
    obtain ⟨q1, -, -, -, -, q6⟩ := cth_pl hc y1 y2 fy
    have p5 := p5 (i + k) (by omega)
    rw [← Nat.add_assoc] at p5
    have hx := ((hg.2.2.1 x x1 x2).2.2.2.2.2.2.2.2.2.1 fx.1 fx.2 (i + k) (by omega)).1
    rw [← Nat.add_assoc] at hx
    have po := k_po (σ := σ) (I := I) (R := R) (k := ((i + k : Nat) : Int)) p1 p2 p3 p4 (by omega)
    rw [show (((i + k : Nat) : Int)).toNat = i + k by omega, p5] at po
    have ei : Int32.ofInt (i : Int) + Int32.ofInt (k : Int) = Int32.ofInt ((i + k : Nat) : Int) := by rw [i_add, show (i : Int) + (k : Int) = ((i + k : Nat) : Int) by omega]
    have ek : Int32.ofInt (k : Int) + 1 = Int32.ofInt ((k + 1 : Nat) : Int) := by rw [i_addl, show (k : Int) + 1 = ((k + 1 : Nat) : Int) by omega]
    rcases takes_eq hg hc hm (F := G 1 y) fy hx with ⟨t1, t2, t3⟩ | ⟨t1, t2⟩
    · obtain ⟨m, r1, r2, r3, r4, r5⟩ := ih (k + 1) n (by omega) (by omega)
      refine ⟨m, by omega, r2, ?_, fun q h1 h2 => ?_, r5⟩
      · rw [gX11_leadTaken_l3, if_neg (by rw [i_le (by omega) (by omega)]; omega), ob_some, if_pos q1, ei, po, ob_some, q6, t1, ob_some, if_neg n10]
        dsimp only
        rw [ek]
        exact r3
      · by_cases e : q = k
        · subst e
          exact ⟨t2, t3⟩
        · exact r4 q (by omega) h2
    · refine ⟨k, Nat.le_refl _, by omega, ?_, fun q h1 h2 => by omega, fun _ => t2⟩
      rw [gX11_leadTaken_l3, if_neg (by rw [i_le (by omega) (by omega)]; omega), ob_some, if_pos q1, ei, po, ob_some, q6, t1, ob_some, if_pos rfl]
