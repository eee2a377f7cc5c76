/-! ===== shift: the model ===== -/
theorem g4h {t : Nat} (h : t < 40) : ¬ (Int32.ofInt (t : Int) < 0 ∨ 40 ≤ Int32.toNatClampNeg (Int32.ofInt (t : Int))) := by rw [i_gd (by omega)]; exact id
theorem sh76_r {G : Nat → Nat → Nat} {C : Nat → Int64} {N : Nat → Nat → Int32} {σ : Shp} {I : Nat → Nat → Int32} {R : Nat → Nat → Option Nat} {x y z i j : Nat} (hx : x < 4100) (hz : z ≤ 40) (hb : G 3 x + i + z ≤ 164000) : ∀ (w k n : Nat) (J : Nat → Nat → Int64), w < n → k + w = z → TMo G C N I J → (∀ q, q < k → J 128 q = C (G 3 x + i + q)) → ∃ J', gX12_shift_l76 σ R n I J (Int32.ofInt i) (Int32.ofInt j) (Int32.ofInt z) (Int32.ofInt x) (Int32.ofInt y) 1 (Int32.ofInt k) = gX12_shift_l142 σ R FUx I J' (Int32.ofInt j) (Int32.ofInt z) (Int32.ofInt y) 1 0 ∧ (∀ q, q < z → J' 128 q = C (G 3 x + i + q)) ∧ Ag [(128, 129)] J J' := by
  intro w
  induction w with
  | zero =>
    intro k n J hn hk hm hq
    obtain ⟨n, rfl⟩ : ∃ m, n = m + 1 := ⟨n - 1, by omega⟩
    obtain rfl : k = z := by omega
    refine ⟨J, ?_, hq, Ag.rf⟩
    rw [gX12_shift_l76, if_pos (by rw [i_le (by omega) (by omega)]; omega)]
  | succ w ih =>
    intro k n J hn hk hm hq
    obtain ⟨n, rfl⟩ : ∃ m, n = m + 1 := ⟨n - 1, by omega⟩
    have m3 := (hm.2.2.1 x hx).2.2.1
    have m5 := hm.2.2.2.1 (G 3 x + i + k) (by omega)
    have a : Ag [(128, 129)] J (u2 J 128 k (C (G 3 x + i + k))) := Ag.st Ag.rf rfl
    obtain ⟨J', r1, r2, r3⟩ := ih (k + 1) n (u2 J 128 k (C (G 3 x + i + k))) (by omega) (by omega) (hm.kp Kp.rf (a.kp rfl)) (fun q h => by
      by_cases e : q = k
      · subst e
        rw [u2s ⟨rfl, rfl⟩]
      · rw [u2n (by omega)]
        exact hq q (by omega))
    refine ⟨J', ?_, r2, a.tr r3⟩
    have e1 : ((G 3 x : Int) + (i : Int) + (k : Int)).toNat = G 3 x + i + k := by omega
    have ek : ((k : Int) + 1) = ((k + 1 : Nat) : Int) := by omega
    rw [← r1, gX12_shift_l76]
    simp (disch := omega) only [fail_r, no_r, nob_r, fI_o, Nat.reduceLeDiff, ↓reduceIte, not_true_eq_false, not_false_eq_true, false_imp_iff, true_imp_iff, and_true, true_and, and_self, implies_true, false_or, or_false, true_or, or_true, d10, d01, d00, d11, g_tn, Tot_some, Tot_none, Tot_ite, Tot_bind, ob_some, onl_n, onl_s, nat32, Int.toNat_natCast, i_add, i_sub, i_mul, i_addl, i_addr, i_subl, i_subr, i_mulr, i_addn, i_gd, i_tn, i_w, i_ltlT, i_ltlF, i_ltrT, i_ltrF, i_lelT, i_lelF, i_lerT, i_lerF, i_eqlT, i_eqlF, i_eqrT, i_eqrF, i_ltnT, i_ltnF, i_lenT, i_lenF, i_eqnT, i_eqnF, i_ltT, i_ltF, i_leT, i_leF, i_eqT, i_eqF, j_ltlT, j_ltlF, j_ltrT, j_ltrF, j_lelT, j_lelF, j_lerT, j_lerF, j_eqlT, j_eqlF, j_ltT, j_ltF, j_leT, j_leF, j_eqT, j_eqF, i_mull, l_tn, l_lt0, l_ne0, nleF, tX11_isStockT, tX11_isStockF, tX11_isBinT, tX11_isBinF, tX11_isPlanT, tX11_isPlanF, tX11_isValveT, tX11_isValveF, tX11_isLaneT, tX11_isLaneF, tX11_isGridFormT, tX11_isGridFormF, tX11_isFormT, tX11_isFormF, tX11_isTrayFormT, tX11_isTrayFormF, tX11_isPlacesFormT, tX11_isPlacesFormF, tX11_isTableT, tX11_isTableF, tX11_isProbeT, tX11_isProbeF, tX11_isHouseT, tX11_isHouseF, tX11_isPestT, tX11_isPestF, tX11_isStageT, tX11_isStageF, tX11_isPartT, tX11_isPartF, tX12_isBinT, tX12_isBinF, tX12_isTableT, tX12_isTableF, tX12_inT, tX12_inF, tX12_innT, tX12_innF, tX12_ingT, tX12_ingF, tX12_isStageT, tX12_isStageF, tX1_isByteT, tX1_isByteF, m3, m5, e1, ek]
theorem sh76_p {G : Nat → Nat → Nat} {C : Nat → Int64} {N : Nat → Nat → Int32} {σ : Shp} {I : Nat → Nat → Int32} {R : Nat → Nat → Option Nat} {x y z i j : Nat} (hx : x < 4100) (hz : z ≤ 40) (hb : G 3 x + i + z ≤ 41000) : ∀ (w k n : Nat) (J : Nat → Nat → Int64), w < n → k + w = z → TMo G C N I J → (∀ q, q < k → J 128 q = Int32.toInt64 (Int32.ofInt (G 4 (G 3 x + i + q)))) → ∃ J', gX12_shift_l76 σ R n I J (Int32.ofInt i) (Int32.ofInt j) (Int32.ofInt z) (Int32.ofInt x) (Int32.ofInt y) 0 (Int32.ofInt k) = gX12_shift_l142 σ R FUx I J' (Int32.ofInt j) (Int32.ofInt z) (Int32.ofInt y) 0 0 ∧ (∀ q, q < z → J' 128 q = Int32.toInt64 (Int32.ofInt (G 4 (G 3 x + i + q)))) ∧ Ag [(128, 129)] J J' := by
  intro w
  induction w with
  | zero =>
    intro k n J hn hk hm hq
    obtain ⟨n, rfl⟩ : ∃ m, n = m + 1 := ⟨n - 1, by omega⟩
    obtain rfl : k = z := by omega
    refine ⟨J, ?_, hq, Ag.rf⟩
    rw [gX12_shift_l76, if_pos (by rw [i_le (by omega) (by omega)]; omega)]
  | succ w ih =>
    intro k n J hn hk hm hq
    obtain ⟨n, rfl⟩ : ∃ m, n = m + 1 := ⟨n - 1, by omega⟩
    have m3 := (hm.2.2.1 x hx).2.2.1
    have m5 := hm.2.2.2.2 (G 3 x + i + k) (by omega)
    have a : Ag [(128, 129)] J (u2 J 128 k (Int32.toInt64 (Int32.ofInt (G 4 (G 3 x + i + k))))) := Ag.st Ag.rf rfl
    obtain ⟨J', r1, r2, r3⟩ := ih (k + 1) n (u2 J 128 k (Int32.toInt64 (Int32.ofInt (G 4 (G 3 x + i + k))))) (by omega) (by omega) (hm.kp Kp.rf (a.kp rfl)) (fun q h => by
      by_cases e : q = k
      · subst e
        rw [u2s ⟨rfl, rfl⟩]
      · rw [u2n (by omega)]
        exact hq q (by omega))
    refine ⟨J', ?_, r2, a.tr r3⟩
    have e1 : ((G 3 x : Int) + (i : Int) + (k : Int)).toNat = G 3 x + i + k := by omega
    have ek : ((k : Int) + 1) = ((k + 1 : Nat) : Int) := by omega
    rw [← r1, gX12_shift_l76]
    simp (disch := omega) only [fail_r, no_r, nob_r, fI_o, Nat.reduceLeDiff, ↓reduceIte, not_true_eq_false, not_false_eq_true, false_imp_iff, true_imp_iff, and_true, true_and, and_self, implies_true, false_or, or_false, true_or, or_true, d10, d01, d00, d11, g_tn, Tot_some, Tot_none, Tot_ite, Tot_bind, ob_some, onl_n, onl_s, nat32, Int.toNat_natCast, i_add, i_sub, i_mul, i_addl, i_addr, i_subl, i_subr, i_mulr, i_addn, i_gd, i_tn, i_w, i_ltlT, i_ltlF, i_ltrT, i_ltrF, i_lelT, i_lelF, i_lerT, i_lerF, i_eqlT, i_eqlF, i_eqrT, i_eqrF, i_ltnT, i_ltnF, i_lenT, i_lenF, i_eqnT, i_eqnF, i_ltT, i_ltF, i_leT, i_leF, i_eqT, i_eqF, j_ltlT, j_ltlF, j_ltrT, j_ltrF, j_lelT, j_lelF, j_lerT, j_lerF, j_eqlT, j_eqlF, j_ltT, j_ltF, j_leT, j_leF, j_eqT, j_eqF, i_mull, l_tn, l_lt0, l_ne0, nleF, tX11_isStockT, tX11_isStockF, tX11_isBinT, tX11_isBinF, tX11_isPlanT, tX11_isPlanF, tX11_isValveT, tX11_isValveF, tX11_isLaneT, tX11_isLaneF, tX11_isGridFormT, tX11_isGridFormF, tX11_isFormT, tX11_isFormF, tX11_isTrayFormT, tX11_isTrayFormF, tX11_isPlacesFormT, tX11_isPlacesFormF, tX11_isTableT, tX11_isTableF, tX11_isProbeT, tX11_isProbeF, tX11_isHouseT, tX11_isHouseF, tX11_isPestT, tX11_isPestF, tX11_isStageT, tX11_isStageF, tX11_isPartT, tX11_isPartF, tX12_isBinT, tX12_isBinF, tX12_isTableT, tX12_isTableF, tX12_inT, tX12_inF, tX12_innT, tX12_innF, tX12_ingT, tX12_ingF, tX12_isStageT, tX12_isStageF, tX1_isByteT, tX1_isByteF, m3, m5, e1, ek]
theorem sh142_r {G : Nat → Nat → Nat} {C : Nat → Int64} {N : Nat → Nat → Int32} {σ : Shp} {R : Nat → Nat → Option Nat} {y z a j : Nat} (hy : y < 4100) (hz : z ≤ 40) (hb : G 3 y + j + z ≤ 164000) : ∀ (w k n : Nat) (I : Nat → Nat → Int32) (J : Nat → Nat → Int64), w < n → k + w = z → TMo G (sft C a (G 3 y + j) k) N I J → (∀ q, q < z → J 128 q = C (a + q)) → I 114 22 = Int32.ofInt k → ∃ I' J', gX12_shift_l142 σ R n I J (Int32.ofInt j) (Int32.ofInt z) (Int32.ofInt y) 1 (Int32.ofInt k) = some (I', J', Int32.ofInt z) ∧ TMo G (sft C a (G 3 y + j) z) N I' J' ∧ I' 114 22 = Int32.ofInt z ∧ Ag [(1000022, 1000023)] I I' ∧ Ag [(119, 120)] J J' := by
  intro w
  induction w with
  | zero =>
    intro k n I J hn hk hm hq h22
    obtain ⟨n, rfl⟩ : ∃ m, n = m + 1 := ⟨n - 1, by omega⟩
    obtain rfl : k = z := by omega
    refine ⟨I, J, ?_, hm, h22, Ag.rf, Ag.rf⟩
    rw [gX12_shift_l142, if_pos (by rw [i_le (by omega) (by omega)]; omega)]
  | succ w ih =>
    intro k n I J hn hk hm hq h22
    obtain ⟨n, rfl⟩ : ∃ m, n = m + 1 := ⟨n - 1, by omega⟩
    have m3 := (hm.2.2.1 y hy).2.2.1
    have m5 := hq k (by omega)
    have k2 := hm.setC (k := G 3 y + j + k) (v := C (a + k))
    rw [sft_s] at k2
    have aI : Ag [(1000022, 1000023)] I (u2 I 114 22 (Int32.ofInt ((k + 1 : Nat) : Int))) := Ag.st Ag.rf rfl
    have e1 : ((G 3 y : Int) + (j : Int) + (k : Int)).toNat = G 3 y + j + k := by omega
    have ek : ((k : Int) + 1) = ((k + 1 : Nat) : Int) := by omega
    obtain ⟨I', J', r1, r2, r3, r4, r5⟩ := ih (k + 1) n _ _ (by omega) (by omega) (k2.kp (aI.kp rfl) Kp.rf) (fun q h => by rw [u2n (by omega)]; exact hq q h) (u2s ⟨rfl, rfl⟩)
    refine ⟨I', J', ?_, r2, r3, aI.tr r4, Ag.tr (Ag.st Ag.rf rfl) r5⟩
    rw [← r1, gX12_shift_l142]
    simp (disch := omega) only [fail_r, no_r, nob_r, fI_o, Nat.reduceLeDiff, ↓reduceIte, not_true_eq_false, not_false_eq_true, false_imp_iff, true_imp_iff, and_true, true_and, and_self, implies_true, false_or, or_false, true_or, or_true, d10, d01, d00, d11, g_tn, Tot_some, Tot_none, Tot_ite, Tot_bind, ob_some, onl_n, onl_s, nat32, Int.toNat_natCast, i_add, i_sub, i_mul, i_addl, i_addr, i_subl, i_subr, i_mulr, i_addn, i_gd, i_tn, i_w, i_ltlT, i_ltlF, i_ltrT, i_ltrF, i_lelT, i_lelF, i_lerT, i_lerF, i_eqlT, i_eqlF, i_eqrT, i_eqrF, i_ltnT, i_ltnF, i_lenT, i_lenF, i_eqnT, i_eqnF, i_ltT, i_ltF, i_leT, i_leF, i_eqT, i_eqF, j_ltlT, j_ltlF, j_ltrT, j_ltrF, j_lelT, j_lelF, j_lerT, j_lerF, j_eqlT, j_eqlF, j_ltT, j_ltF, j_leT, j_leF, j_eqT, j_eqF, i_mull, l_tn, l_lt0, l_ne0, nleF, tX11_isStockT, tX11_isStockF, tX11_isBinT, tX11_isBinF, tX11_isPlanT, tX11_isPlanF, tX11_isValveT, tX11_isValveF, tX11_isLaneT, tX11_isLaneF, tX11_isGridFormT, tX11_isGridFormF, tX11_isFormT, tX11_isFormF, tX11_isTrayFormT, tX11_isTrayFormF, tX11_isPlacesFormT, tX11_isPlacesFormF, tX11_isTableT, tX11_isTableF, tX11_isProbeT, tX11_isProbeF, tX11_isHouseT, tX11_isHouseF, tX11_isPestT, tX11_isPestF, tX11_isStageT, tX11_isStageF, tX11_isPartT, tX11_isPartF, tX12_isBinT, tX12_isBinF, tX12_isTableT, tX12_isTableF, tX12_inT, tX12_inF, tX12_innT, tX12_innF, tX12_ingT, tX12_ingF, tX12_isStageT, tX12_isStageF, tX1_isByteT, tX1_isByteF, m3, m5, e1, h22, ek]
theorem isFor_o {I I' : Nat → Nat → Int32} {f x : Int32} (h1 : ∀ q, I' 116 q = I 116 q) (h2 : ∀ q, I' 122 q = I 122 q) : gX12_isFor I' f x = gX12_isFor I f x := by
  unfold gX12_isFor
  simp only [h1, h2]
theorem i64r {x : Int32} : Int64.toInt32 (Int32.toInt64 x) = x := Int32.toInt32_toInt64 x
theorem sh142_p {G : Nat → Nat → Nat} {C : Nat → Int64} {N : Nat → Nat → Int32} {σ : Shp} {R : Nat → Nat → Option Nat} {I0 : Nat → Nat → Int32} {y z a j m : Nat} (hy : y < 4100) (hz : z ≤ 40) (hmz : m ≤ z) (hb : G 3 y + j + z ≤ 41000) (hv : ∀ q, q < z → G 4 (a + q) ≤ 4050) (f1 : ∀ q, q < m → gX12_isFor I0 (Int32.ofInt (G 1 y)) (Int32.ofInt (G 4 (a + q))) = some 1) (f0 : m < z → gX12_isFor I0 (Int32.ofInt (G 1 y)) (Int32.ofInt (G 4 (a + m))) = some 0) : ∀ (w k n : Nat) (I : Nat → Nat → Int32) (J : Nat → Nat → Int64), w < n → k + w = m → TMo (sfp G a (G 3 y + j) k) C N I J → (∀ q, q < z → J 128 q = Int32.toInt64 (Int32.ofInt (G 4 (a + q)))) → I 114 22 = Int32.ofInt k → Ag [(120, 121), (1000022, 1000023)] I0 I → ∃ I', gX12_shift_l142 σ R n I J (Int32.ofInt j) (Int32.ofInt z) (Int32.ofInt y) 0 (Int32.ofInt k) = (if m = z then some (I', J, Int32.ofInt z) else some (noI I' 5, J, mfail 5)) ∧ TMo (sfp G a (G 3 y + j) m) C N I' J ∧ I' 114 22 = Int32.ofInt m ∧ Ag [(120, 121), (1000022, 1000023)] I0 I' := by
  intro w
  induction w with
  | zero =>
    intro k n I J hn hk hm hq h22 ag
    obtain ⟨n, rfl⟩ : ∃ m, n = m + 1 := ⟨n - 1, by omega⟩
    obtain rfl : k = m := by omega
    refine ⟨I, ?_, hm, h22, ag⟩
    have m1 := (hm.2.2.1 y hy).1
    rw [sfp_o (by omega)] at m1
    by_cases c : k = z
    · rw [gX12_shift_l142, if_pos (by rw [i_le (by omega) (by omega)]; omega), if_pos c]
    · have ff := f0 (by omega)
      rw [← isFor_o (I' := I) (fun q => ag 116 q rfl) (fun q => ag 122 q rfl)] at ff
      rw [gX12_shift_l142, if_neg (by rw [i_le (by omega) (by omega)]; omega), if_pos rfl, if_pos (g41 hy), if_pos (g4h (by omega)), t41 (by omega), t41 (by omega), m1, hq k (by omega), i64r, ff, ob_some, if_pos rfl, no_r, ob_some, if_neg c]
  | succ w ih =>
    intro k n I J hn hk hm hq h22 ag
    obtain ⟨n, rfl⟩ : ∃ m, n = m + 1 := ⟨n - 1, by omega⟩
    have m1 := (hm.2.2.1 y hy).1
    have m3 := (hm.2.2.1 y hy).2.2.1
    rw [sfp_o (by omega)] at m1 m3
    have k2 := hm.setP (k := G 3 y + j + k) (x := G 4 (a + k))
    rw [sfp_s] at k2
    have aI : Ag [(1000022, 1000023)] (u2 I 120 (G 3 y + j + k) (Int32.ofInt (G 4 (a + k)))) (u2 (u2 I 120 (G 3 y + j + k) (Int32.ofInt (G 4 (a + k)))) 114 22 (Int32.ofInt ((k + 1 : Nat) : Int))) := Ag.st Ag.rf rfl
    have e1 : ((G 3 y : Int) + (j : Int) + (k : Int)).toNat = G 3 y + j + k := by omega
    have ek : ((k : Int) + 1) = ((k + 1 : Nat) : Int) := by omega
    obtain ⟨I', r1, r2, r3, r4⟩ := ih (k + 1) n _ J (by omega) (by omega) (k2.kp (aI.kp rfl) Kp.rf) hq (u2s ⟨rfl, rfl⟩) (Ag.st (Ag.st ag rfl) rfl)
    refine ⟨I', ?_, r2, r3, r4⟩
    have ff := f1 k (by omega)
    rw [← isFor_o (I' := I) (fun q => ag 116 q rfl) (fun q => ag 122 q rfl)] at ff
    have hvk := hv k (by omega)
    have sx := s16 (t := ((G 4 (a + k) : Nat) : Int)) (by omega)
    rw [← r1, gX12_shift_l142, if_neg (by rw [i_le (by omega) (by omega)]; omega), if_pos rfl, if_pos (g41 hy), if_pos (g4h (by omega)), t41 (by omega), t41 (by omega), m1, hq k (by omega), i64r, ff, ob_some, if_neg n10, if_pos (g41p hy), m3]
    simp (disch := omega) only [fail_r, no_r, nob_r, fI_o, Nat.reduceLeDiff, ↓reduceIte, not_true_eq_false, not_false_eq_true, false_imp_iff, true_imp_iff, and_true, true_and, and_self, implies_true, false_or, or_false, true_or, or_true, d10, d01, d00, d11, g_tn, Tot_some, Tot_none, Tot_ite, Tot_bind, ob_some, onl_n, onl_s, nat32, Int.toNat_natCast, i_add, i_sub, i_mul, i_addl, i_addr, i_subl, i_subr, i_mulr, i_addn, i_gd, i_tn, i_w, i_ltlT, i_ltlF, i_ltrT, i_ltrF, i_lelT, i_lelF, i_lerT, i_lerF, i_eqlT, i_eqlF, i_eqrT, i_eqrF, i_ltnT, i_ltnF, i_lenT, i_lenF, i_eqnT, i_eqnF, i_ltT, i_ltF, i_leT, i_leF, i_eqT, i_eqF, j_ltlT, j_ltlF, j_ltrT, j_ltrF, j_lelT, j_lelF, j_lerT, j_lerF, j_eqlT, j_eqlF, j_ltT, j_ltF, j_leT, j_leF, j_eqT, j_eqF, i_mull, l_tn, l_lt0, l_ne0, nleF, tX11_isStockT, tX11_isStockF, tX11_isBinT, tX11_isBinF, tX11_isPlanT, tX11_isPlanF, tX11_isValveT, tX11_isValveF, tX11_isLaneT, tX11_isLaneF, tX11_isGridFormT, tX11_isGridFormF, tX11_isFormT, tX11_isFormF, tX11_isTrayFormT, tX11_isTrayFormF, tX11_isPlacesFormT, tX11_isPlacesFormF, tX11_isTableT, tX11_isTableF, tX11_isProbeT, tX11_isProbeF, tX11_isHouseT, tX11_isHouseF, tX11_isPestT, tX11_isPestF, tX11_isStageT, tX11_isStageF, tX11_isPartT, tX11_isPartF, tX12_isBinT, tX12_isBinF, tX12_isTableT, tX12_isTableF, tX12_inT, tX12_inF, tX12_innT, tX12_innF, tX12_ingT, tX12_ingF, tX12_isStageT, tX12_isStageF, tX1_isByteT, tX1_isByteF, sx, e1, h22, ek, u2n]
