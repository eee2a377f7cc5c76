/-! ===== alike: cells and rows ===== -/
def Dec (e : Option Int32) (P : Prop) : Prop := (e = some 1 ∧ P) ∨ (e = some 0 ∧ ¬ P)
theorem Dec.of {e : Option Int32} {P Q : Prop} (h : Dec e P) (q : P ↔ Q) : Dec e Q := by
  rcases h with ⟨a, b⟩ | ⟨a, b⟩
  · exact Or.inl ⟨a, q.mp b⟩
  · exact Or.inr ⟨a, fun c => b (q.mpr c)⟩
theorem pn_inj {G : Nat → Nat → Nat} {C : Nat → Int64} {N : Nat → Nat → Int32} {σ : Shp} {I : Nat → Nat → Int32} {J : Nat → Nat → Int64} {R : Nat → Nat → Option Nat} (hc : TCl G C N σ I J R) {x y : Nat} (hx : x ≤ G 10 0) (hy : y ≤ G 10 0) (h : pn G x = pn G y) : x = y := by
  by_cases a : x = 0
  · by_cases b : y = 0
    · omega
    · rw [a, pn_0, pn_1 (by omega)] at h
      cases h
  · by_cases b : y = 0
    · rw [b, pn_0, pn_1 (by omega)] at h
      cases h
    · rw [pn_1 (by omega), pn_1 (by omega)] at h
      have e : G 0 x = G 0 y := Option.some.inj h
      rcases Nat.lt_trichotomy x y with c | c | c
      · have := hc.2.2.2.1.2 x y (by omega) c hy
        have := cW_ge (G 1 x)
        omega
      · exact c
      · have := hc.2.2.2.1.2 y x (by omega) c hx
        have := cW_ge (G 1 y)
        omega
def EC (G : Nat → Nat → Nat) (C : Nat → Int64) (x y : Nat) : Prop := nC (G 1 x) (G 2 x) = nC (G 1 y) (G 2 y) ∧ ∀ k, k < nC (G 1 x) (G 2 x) → C (G 3 x + k) = C (G 3 y + k)
theorem eqCl {G : Nat → Nat → Nat} {C : Nat → Int64} {N : Nat → Nat → Int32} {σ : Shp} {I : Nat → Nat → Int32} {J : Nat → Nat → Int64} {R : Nat → Nat → Option Nat} {x y : Nat} (hg : TSg G C N) (hc : TCl G C N σ I J R) (x1 : 1 ≤ x) (x2 : x ≤ G 10 0) (y1 : 1 ≤ y) (y2 : y ≤ G 10 0) (e : nC (G 1 x) (G 2 x) = nC (G 1 y) (G 2 y)) : ∀ (w k n : Nat), w < n → k + w = nC (G 1 x) (G 2 x) → Dec (gX11_equalCells_l17 σ J R n (some (G 0 x)) (some (G 0 y)) (Int32.ofInt k)) (∀ q, k ≤ q → q < nC (G 1 x) (G 2 x) → C (G 3 x + q) = C (G 3 y + q)) := by
  obtain ⟨⟨a1, a2, -, a4, -, a6, -⟩, -, ac, -⟩ := hc.2.2.1 x x1 x2
  obtain ⟨⟨b1, b2, -, b4, -, b6, -⟩, -, bc, -⟩ := hc.2.2.1 y y1 y2
  have n4 := nC_40 hg x1 x2
  intro w
  induction w with
  | zero =>
    intro k n hn hk
    obtain ⟨n, rfl⟩ : ∃ m, n = m + 1 := ⟨n - 1, by omega⟩
    refine Or.inl ⟨?_, fun q h1 h2 => by omega⟩
    rw [gX11_equalCells_l17]
    simp (disch := omega) only [fail_r, no_r, nob_r, fI_o, Nat.reduceLeDiff, ↓reduceIte, not_true_eq_false, not_false_eq_true, false_imp_iff, true_imp_iff, and_true, true_and, and_self, implies_true, false_or, or_false, true_or, or_true, d10, d01, d00, d11, g_tn, Tot_some, Tot_none, Tot_ite, Tot_bind, ob_some, onl_n, onl_s, nat32, Int.toNat_natCast, i_add, i_sub, i_mul, i_addl, i_addr, i_subl, i_subr, i_mulr, i_addn, i_gd, i_tn, i_w, i_ltlT, i_ltlF, i_ltrT, i_ltrF, i_lelT, i_lelF, i_lerT, i_lerF, i_eqlT, i_eqlF, i_eqrT, i_eqrF, i_ltnT, i_ltnF, i_lenT, i_lenF, i_eqnT, i_eqnF, i_ltT, i_ltF, i_leT, i_leF, i_eqT, i_eqF, j_ltlT, j_ltlF, j_ltrT, j_ltrF, j_lelT, j_lelF, j_lerT, j_lerF, j_eqlT, j_eqlF, j_ltT, j_ltF, j_leT, j_leF, j_eqT, j_eqF, i_mull, l_tn, l_lt0, l_ne0, nleF, tX11_isStockT, tX11_isStockF, tX11_isBinT, tX11_isBinF, tX11_isPlanT, tX11_isPlanF, tX11_isValveT, tX11_isValveF, tX11_isLaneT, tX11_isLaneF, tX11_isGridFormT, tX11_isGridFormF, tX11_isFormT, tX11_isFormF, tX11_isTrayFormT, tX11_isTrayFormF, tX11_isPlacesFormT, tX11_isPlacesFormF, tX11_isTableT, tX11_isTableF, tX11_isProbeT, tX11_isProbeF, tX11_isHouseT, tX11_isHouseF, tX11_isPestT, tX11_isPestF, tX11_isStageT, tX11_isStageF, tX11_isPartT, tX11_isPartF, tX12_isBinT, tX12_isBinF, tX12_isTableT, tX12_isTableF, tX12_inT, tX12_inF, tX12_innT, tX12_innF, tX12_ingT, tX12_ingF, tX12_isStageT, tX12_isStageF, tX1_isByteT, tX1_isByteF, a1, a2, a4, a6]
  | succ w ih =>
    intro k n hn hk
    obtain ⟨n, rfl⟩ : ∃ m, n = m + 1 := ⟨n - 1, by omega⟩
    have e1 := ac k (by omega)
    have e2 := bc k (by omega)
    have ek : ((k : Int) + 1) = ((k + 1 : Nat) : Int) := by omega
    have u : gX11_equalCells_l17 σ J R (n + 1) (some (G 0 x)) (some (G 0 y)) (Int32.ofInt k) = if C (G 3 x + k) = C (G 3 y + k) then gX11_equalCells_l17 σ J R n (some (G 0 x)) (some (G 0 y)) (Int32.ofInt ((k + 1 : Nat) : Int)) else some 0 := by
      rw [gX11_equalCells_l17]
      simp (disch := omega) only [fail_r, no_r, nob_r, fI_o, Nat.reduceLeDiff, ↓reduceIte, not_true_eq_false, not_false_eq_true, false_imp_iff, true_imp_iff, and_true, true_and, and_self, implies_true, false_or, or_false, true_or, or_true, d10, d01, d00, d11, g_tn, Tot_some, Tot_none, Tot_ite, Tot_bind, ob_some, onl_n, onl_s, nat32, Int.toNat_natCast, i_add, i_sub, i_mul, i_addl, i_addr, i_subl, i_subr, i_mulr, i_addn, i_gd, i_tn, i_w, i_ltlT, i_ltlF, i_ltrT, i_ltrF, i_lelT, i_lelF, i_lerT, i_lerF, i_eqlT, i_eqlF, i_eqrT, i_eqrF, i_ltnT, i_ltnF, i_lenT, i_lenF, i_eqnT, i_eqnF, i_ltT, i_ltF, i_leT, i_leF, i_eqT, i_eqF, j_ltlT, j_ltlF, j_ltrT, j_ltrF, j_lelT, j_lelF, j_lerT, j_lerF, j_eqlT, j_eqlF, j_ltT, j_ltF, j_leT, j_leF, j_eqT, j_eqF, i_mull, l_tn, l_lt0, l_ne0, nleF, tX11_isStockT, tX11_isStockF, tX11_isBinT, tX11_isBinF, tX11_isPlanT, tX11_isPlanF, tX11_isValveT, tX11_isValveF, tX11_isLaneT, tX11_isLaneF, tX11_isGridFormT, tX11_isGridFormF, tX11_isFormT, tX11_isFormF, tX11_isTrayFormT, tX11_isTrayFormF, tX11_isPlacesFormT, tX11_isPlacesFormF, tX11_isTableT, tX11_isTableF, tX11_isProbeT, tX11_isProbeF, tX11_isHouseT, tX11_isHouseF, tX11_isPestT, tX11_isPestF, tX11_isStageT, tX11_isStageF, tX11_isPartT, tX11_isPartF, tX12_isBinT, tX12_isBinF, tX12_isTableT, tX12_isTableF, tX12_inT, tX12_inF, tX12_innT, tX12_innF, tX12_ingT, tX12_ingF, tX12_isStageT, tX12_isStageF, tX1_isByteT, tX1_isByteF, a1, a2, a4, a6, b1, b2, b4, b6, ← e, e1, e2, ek]
    rw [u]
    by_cases c : C (G 3 x + k) = C (G 3 y + k)
    · rw [if_pos c]
      refine (ih (k + 1) n (by omega) (by omega)).of ⟨fun h q h1 h2 => ?_, fun h q h1 h2 => h q (by omega) h2⟩
      by_cases d : q = k
      · rw [d]; exact c
      · exact h q (by omega) h2
    · rw [if_neg c]
      exact Or.inr ⟨rfl, fun h => c (h k (Nat.le_refl _) (by omega))⟩
theorem eqC_C {G : Nat → Nat → Nat} {C : Nat → Int64} {N : Nat → Nat → Int32} {σ : Shp} {I : Nat → Nat → Int32} {J : Nat → Nat → Int64} {R : Nat → Nat → Option Nat} {x y : Nat} (hg : TSg G C N) (hc : TCl G C N σ I J R) (x1 : 1 ≤ x) (x2 : x ≤ G 10 0) (y1 : 1 ≤ y) (y2 : y ≤ G 10 0) : Dec (gX11_equalCells σ J R (some (G 0 x)) (some (G 0 y))) (EC G C x y) := by
  obtain ⟨⟨a1, a2, -, a4, -, a6, -⟩, -, ac, -⟩ := hc.2.2.1 x x1 x2
  obtain ⟨⟨b1, b2, -, b4, -, b6, -⟩, -, bc, -⟩ := hc.2.2.1 y y1 y2
  have n4 := nC_40 hg x1 x2
  have n5 := nC_40 hg y1 y2
  unfold gX11_equalCells
  by_cases e : nC (G 1 x) (G 2 x) = nC (G 1 y) (G 2 y)
  · simp (disch := omega) only [fail_r, no_r, nob_r, fI_o, Nat.reduceLeDiff, ↓reduceIte, not_true_eq_false, not_false_eq_true, false_imp_iff, true_imp_iff, and_true, true_and, and_self, implies_true, false_or, or_false, true_or, or_true, d10, d01, d00, d11, g_tn, Tot_some, Tot_none, Tot_ite, Tot_bind, ob_some, onl_n, onl_s, nat32, Int.toNat_natCast, i_add, i_sub, i_mul, i_addl, i_addr, i_subl, i_subr, i_mulr, i_addn, i_gd, i_tn, i_w, i_ltlT, i_ltlF, i_ltrT, i_ltrF, i_lelT, i_lelF, i_lerT, i_lerF, i_eqlT, i_eqlF, i_eqrT, i_eqrF, i_ltnT, i_ltnF, i_lenT, i_lenF, i_eqnT, i_eqnF, i_ltT, i_ltF, i_leT, i_leF, i_eqT, i_eqF, j_ltlT, j_ltlF, j_ltrT, j_ltrF, j_lelT, j_lelF, j_lerT, j_lerF, j_eqlT, j_eqlF, j_ltT, j_ltF, j_leT, j_leF, j_eqT, j_eqF, i_mull, l_tn, l_lt0, l_ne0, nleF, tX11_isStockT, tX11_isStockF, tX11_isBinT, tX11_isBinF, tX11_isPlanT, tX11_isPlanF, tX11_isValveT, tX11_isValveF, tX11_isLaneT, tX11_isLaneF, tX11_isGridFormT, tX11_isGridFormF, tX11_isFormT, tX11_isFormF, tX11_isTrayFormT, tX11_isTrayFormF, tX11_isPlacesFormT, tX11_isPlacesFormF, tX11_isTableT, tX11_isTableF, tX11_isProbeT, tX11_isProbeF, tX11_isHouseT, tX11_isHouseF, tX11_isPestT, tX11_isPestF, tX11_isStageT, tX11_isStageF, tX11_isPartT, tX11_isPartF, tX12_isBinT, tX12_isBinF, tX12_isTableT, tX12_isTableF, tX12_inT, tX12_inF, tX12_innT, tX12_innF, tX12_ingT, tX12_ingF, tX12_isStageT, tX12_isStageF, tX1_isByteT, tX1_isByteF, a1, a2, a4, a6, b1, b2, b4, b6]
    refine (eqCl hg hc x1 x2 y1 y2 e (nC (G 1 x) (G 2 x)) 0 FUx (by rw [FUx_eq]; omega) (by omega)).of ⟨fun h => ⟨e, fun k hk => h k (by omega) hk⟩, fun h q _ hq => h.2 q hq⟩
  · simp (disch := omega) only [fail_r, no_r, nob_r, fI_o, Nat.reduceLeDiff, ↓reduceIte, not_true_eq_false, not_false_eq_true, false_imp_iff, true_imp_iff, and_true, true_and, and_self, implies_true, false_or, or_false, true_or, or_true, d10, d01, d00, d11, g_tn, Tot_some, Tot_none, Tot_ite, Tot_bind, ob_some, onl_n, onl_s, nat32, Int.toNat_natCast, i_add, i_sub, i_mul, i_addl, i_addr, i_subl, i_subr, i_mulr, i_addn, i_gd, i_tn, i_w, i_ltlT, i_ltlF, i_ltrT, i_ltrF, i_lelT, i_lelF, i_lerT, i_lerF, i_eqlT, i_eqlF, i_eqrT, i_eqrF, i_ltnT, i_ltnF, i_lenT, i_lenF, i_eqnT, i_eqnF, i_ltT, i_ltF, i_leT, i_leF, i_eqT, i_eqF, j_ltlT, j_ltlF, j_ltrT, j_ltrF, j_lelT, j_lelF, j_lerT, j_lerF, j_eqlT, j_eqlF, j_ltT, j_ltF, j_leT, j_leF, j_eqT, j_eqF, i_mull, l_tn, l_lt0, l_ne0, nleF, tX11_isStockT, tX11_isStockF, tX11_isBinT, tX11_isBinF, tX11_isPlanT, tX11_isPlanF, tX11_isValveT, tX11_isValveF, tX11_isLaneT, tX11_isLaneF, tX11_isGridFormT, tX11_isGridFormF, tX11_isFormT, tX11_isFormF, tX11_isTrayFormT, tX11_isTrayFormF, tX11_isPlacesFormT, tX11_isPlacesFormF, tX11_isTableT, tX11_isTableF, tX11_isProbeT, tX11_isProbeF, tX11_isHouseT, tX11_isHouseF, tX11_isPestT, tX11_isPestF, tX11_isStageT, tX11_isStageF, tX11_isPartT, tX11_isPartF, tX12_isBinT, tX12_isBinF, tX12_isTableT, tX12_isTableF, tX12_inT, tX12_inF, tX12_innT, tX12_innF, tX12_ingT, tX12_ingF, tX12_isStageT, tX12_isStageF, tX1_isByteT, tX1_isByteF, a1, a2, a4, a6, b1, b2, b4, b6]
    exact Or.inr ⟨rfl, fun h => e h.1⟩
theorem mr0 {σ : Shp} {I : Nat → Nat → Int32} {J : Nat → Nat → Int64} {R : Nat → Nat → Option Nat} {x n : Nat} {y k : Int32} (hx : x < 4100) : gX12_areRowsAlike_l39 σ I J R (n + 1) (Int32.ofInt x) y 0 k = some 0 := by
  rw [gX12_areRowsAlike_l39, if_pos (g41 hx)]
  by_cases c : I 117 (Int32.toNatClampNeg (Int32.ofInt (x : Int))) ≤ k
  · rw [if_pos c, if_pos (Or.inl rfl)]
  · rw [if_neg c, if_pos rfl, if_pos (Or.inl rfl)]
theorem mrl {G : Nat → Nat → Nat} {C : Nat → Int64} {N : Nat → Nat → Int32} {σ : Shp} {I : Nat → Nat → Int32} {J : Nat → Nat → Int64} {R : Nat → Nat → Option Nat} {x y : Nat} (hm : TMo G C N I J) (hx : x < 4100) (hy : y < 4100) (hz : G 2 x ≤ 40) (bx : G 3 x + G 2 x ≤ 164000) (b_y : G 3 y + G 2 x ≤ 164000) : ∀ (w k n : Nat), w + 1 < n → k + w = G 2 x → Dec (gX12_areRowsAlike_l39 σ I J R n (Int32.ofInt x) (Int32.ofInt y) 1 (Int32.ofInt k)) (∀ q, k ≤ q → q < G 2 x → C (G 3 x + q) = C (G 3 y + q)) := by
  have m2 := (hm.2.2.1 x hx).2.1
  have m3 := (hm.2.2.1 x hx).2.2.1
  have m4 := (hm.2.2.1 y hy).2.2.1
  intro w
  induction w with
  | zero =>
    intro k n hn hk
    obtain ⟨n, rfl⟩ : ∃ m, n = m + 1 := ⟨n - 1, by omega⟩
    refine Or.inl ⟨?_, fun q h1 h2 => by omega⟩
    rw [gX12_areRowsAlike_l39, if_pos (g41 hx), t41 (by omega), m2, if_pos (by rw [i_le (by omega) (by omega)]; omega), if_pos (Or.inr rfl)]
  | succ w ih =>
    intro k n hn hk
    obtain ⟨n, rfl⟩ : ∃ m, n = m + 1 := ⟨n - 1, by omega⟩
    have e1 := hm.2.2.2.1 (G 3 x + k) (by omega)
    have e2 := hm.2.2.2.1 (G 3 y + k) (by omega)
    have ek : ((k : Int) + 1) = ((k + 1 : Nat) : Int) := by omega
    have t1 : ((G 3 x : Int) + (k : Int)).toNat = G 3 x + k := by omega
    have t2 : ((G 3 y : Int) + (k : Int)).toNat = G 3 y + k := by omega
    have u : gX12_areRowsAlike_l39 σ I J R (n + 1) (Int32.ofInt x) (Int32.ofInt y) 1 (Int32.ofInt k) = if C (G 3 x + k) = C (G 3 y + k) then gX12_areRowsAlike_l39 σ I J R n (Int32.ofInt x) (Int32.ofInt y) 1 (Int32.ofInt ((k + 1 : Nat) : Int)) else gX12_areRowsAlike_l39 σ I J R n (Int32.ofInt x) (Int32.ofInt y) 0 (Int32.ofInt ((k + 1 : Nat) : Int)) := by
      rw [gX12_areRowsAlike_l39]
      simp (disch := omega) only [fail_r, no_r, nob_r, fI_o, Nat.reduceLeDiff, ↓reduceIte, not_true_eq_false, not_false_eq_true, false_imp_iff, true_imp_iff, and_true, true_and, and_self, implies_true, false_or, or_false, true_or, or_true, d10, d01, d00, d11, g_tn, Tot_some, Tot_none, Tot_ite, Tot_bind, ob_some, onl_n, onl_s, nat32, Int.toNat_natCast, i_add, i_sub, i_mul, i_addl, i_addr, i_subl, i_subr, i_mulr, i_addn, i_gd, i_tn, i_w, i_ltlT, i_ltlF, i_ltrT, i_ltrF, i_lelT, i_lelF, i_lerT, i_lerF, i_eqlT, i_eqlF, i_eqrT, i_eqrF, i_ltnT, i_ltnF, i_lenT, i_lenF, i_eqnT, i_eqnF, i_ltT, i_ltF, i_leT, i_leF, i_eqT, i_eqF, j_ltlT, j_ltlF, j_ltrT, j_ltrF, j_lelT, j_lelF, j_lerT, j_lerF, j_eqlT, j_eqlF, j_ltT, j_ltF, j_leT, j_leF, j_eqT, j_eqF, i_mull, l_tn, l_lt0, l_ne0, nleF, tX11_isStockT, tX11_isStockF, tX11_isBinT, tX11_isBinF, tX11_isPlanT, tX11_isPlanF, tX11_isValveT, tX11_isValveF, tX11_isLaneT, tX11_isLaneF, tX11_isGridFormT, tX11_isGridFormF, tX11_isFormT, tX11_isFormF, tX11_isTrayFormT, tX11_isTrayFormF, tX11_isPlacesFormT, tX11_isPlacesFormF, tX11_isTableT, tX11_isTableF, tX11_isProbeT, tX11_isProbeF, tX11_isHouseT, tX11_isHouseF, tX11_isPestT, tX11_isPestF, tX11_isStageT, tX11_isStageF, tX11_isPartT, tX11_isPartF, tX12_isBinT, tX12_isBinF, tX12_isTableT, tX12_isTableF, tX12_inT, tX12_inF, tX12_innT, tX12_innF, tX12_ingT, tX12_ingF, tX12_isStageT, tX12_isStageF, tX1_isByteT, tX1_isByteF, m2, m3, m4, e1, e2, ek, t1, t2]
    rw [u]
    by_cases c : C (G 3 x + k) = C (G 3 y + k)
    · rw [if_pos c]
      refine (ih (k + 1) n (by omega) (by omega)).of ⟨fun h q h1 h2 => ?_, fun h q h1 h2 => h q (by omega) h2⟩
      by_cases d : q = k
      · rw [d]; exact c
      · exact h q (by omega) h2
    · rw [if_neg c]
      obtain ⟨n, rfl⟩ : ∃ m, n = m + 1 := ⟨n - 1, by omega⟩
      rw [mr0 hx]
      exact Or.inr ⟨rfl, fun h => c (h k (Nat.le_refl _) (by omega))⟩
theorem m_rows {G : Nat → Nat → Nat} {C : Nat → Int64} {N : Nat → Nat → Int32} {σ : Shp} {I : Nat → Nat → Int32} {J : Nat → Nat → Int64} {R : Nat → Nat → Option Nat} {x y : Nat} (hg : TSg G C N) (hm : TMo G C N I J) (x1 : 1 ≤ x) (x2 : x ≤ G 10 0) (y1 : 1 ≤ y) (y2 : y ≤ G 10 0) (fx : G 1 x ≤ 7) (fy : G 1 y ≤ 7) : Dec (gX12_areRowsAlike σ I J R (Int32.ofInt x) (Int32.ofInt y)) (G 1 x = G 1 y ∧ EC G C x y) := by
  have h0 := hg.1
  have zx := (hg.2.2.1 x x1 x2).2.2.2.1 fx
  have zy := (hg.2.2.1 y y1 y2).2.2.2.1 fy
  have nx : nC (G 1 x) (G 2 x) = G 2 x := if_pos fx
  have ny : nC (G 1 y) (G 2 y) = G 2 y := if_pos fy
  have sx := (hg.2.2.1 x x1 x2).2.2.2.2.2.2.2.1 (Or.inl fx)
  have sy := (hg.2.2.1 y y1 y2).2.2.2.2.2.2.2.1 (Or.inl fy)
  rw [nx] at sx
  rw [ny] at sy
  have m1 := (hm.2.2.1 x (by omega)).1
  have m2 := (hm.2.2.1 x (by omega)).2.1
  have p1 := (hm.2.2.1 y (by omega)).1
  have p2 := (hm.2.2.1 y (by omega)).2.1
  unfold gX12_areRowsAlike EC
  rw [nx, ny]
  rw [if_pos (g41 (by omega)), if_pos (g41 (by omega)), t41 (by omega), t41 (by omega), m1, p1, m2, p2]
  by_cases c : G 1 x = G 1 y
  · rw [if_pos (by rw [c]), if_pos (g41p (by omega)), if_pos (g41p (by omega))]
    by_cases d : G 2 x = G 2 y
    · rw [if_pos (by rw [d])]
      refine (mrl (σ := σ) (R := R) hm (show x < 4100 by omega) (show y < 4100 by omega) zx (by omega) (by omega) (G 2 x) 0 FUx (by rw [FUx_eq]; omega) (by omega)).of ⟨fun h => ⟨c, d, fun k hk => h k (by omega) hk⟩, fun h q _ hq => h.2.2 q hq⟩
    · rw [if_neg (by rw [i_eq (by omega) (by omega)]; omega)]
      rw [show FUx = 1999999 + 1 from rfl, mr0 (by omega)]
      exact Or.inr ⟨rfl, fun h => d h.2.1⟩
  · rw [if_neg (by rw [i_eq (by omega) (by omega)]; omega)]
    rw [show FUx = 1999999 + 1 from rfl, mr0 (by omega)]
    exact Or.inr ⟨rfl, fun h => c h.1⟩
