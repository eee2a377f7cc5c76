/-! ===== copies: the model ===== -/
def FM (I I' : Nat → Nat → Int32) (J J' : Nat → Nat → Int64) : Prop := Ag [(116, 119), (120, 121), (1000000, 1000001), (1000007, 1000008), (1000009, 1000010)] I I' ∧ Ag [(119, 120)] J J'
theorem FM.rf {I : Nat → Nat → Int32} {J : Nat → Nat → Int64} : FM I I J J := ⟨Ag.rf, Ag.rf⟩
theorem FM.tr {I I1 I2 : Nat → Nat → Int32} {J J1 J2 : Nat → Nat → Int64} (a : FM I I1 J J1) (b : FM I1 I2 J1 J2) : FM I I2 J J2 := ⟨a.1.tr b.1, a.2.tr b.2⟩
theorem g41 {t : Nat} (h : t < 4100) : ¬ (Int32.ofInt (t : Int) < 0 ∨ 4100 ≤ Int32.toNatClampNeg (Int32.ofInt (t : Int))) := by rw [i_gd (by omega)]; exact id
theorem g41p {t : Nat} (h : t < 4100) : ¬ (Int32.ofInt (t : Int) < 0 ∨ 4100 ≤ t) := by rw [i_ltl (by omega)]; omega
theorem t41 {t : Nat} (h : t < 2147483648) : Int32.toNatClampNeg (Int32.ofInt (t : Int)) = t := by rw [i_tn (by omega)]; exact Int.toNat_natCast t
theorem rowl_M {G : Nat → Nat → Nat} {C : Nat → Int64} {N : Nat → Nat → Int32} {σ : Shp} {I : Nat → Nat → Int32} {R : Nat → Nat → Option Nat} {x y : Nat} (hx : x < 4100) (hy : y < 4100) (hz : G 2 x ≤ 40) (hd : G 3 x + G 2 x ≤ G 3 y) (hb : G 3 y + G 2 x ≤ 164000) : ∀ (w k n : Nat) (J : Nat → Nat → Int64), w < n → k + w = G 2 x → TMo G (sft C (G 3 x) (G 3 y) k) N I J → ∃ J', gX12_rowCopy_l19 σ R n I J (Int32.ofInt x) (Int32.ofInt y) (Int32.ofInt k) = some (I, J', Int32.ofInt y) ∧ TMo G (sft C (G 3 x) (G 3 y) (G 2 x)) N I J' ∧ Ag [(119, 120)] J J' := by
  intro w
  induction w with
  | zero =>
    intro k n J hn hk hm
    obtain ⟨n, rfl⟩ : ∃ m, n = m + 1 := ⟨n - 1, by omega⟩
    have m2 := (hm.2.2.1 x hx).2.1
    obtain rfl : k = G 2 x := by omega
    refine ⟨J, ?_, hm, Ag.rf⟩
    rw [gX12_rowCopy_l19, if_pos (g41 hx), t41 (by omega), m2, if_pos (by rw [i_le (by omega) (by omega)]; omega)]
  | succ w ih =>
    intro k n J hn hk hm
    obtain ⟨n, rfl⟩ : ∃ m, n = m + 1 := ⟨n - 1, by omega⟩
    have m2 := (hm.2.2.1 x hx).2.1
    have m3 := (hm.2.2.1 x hx).2.2.1
    have m4 := (hm.2.2.1 y hy).2.2.1
    have m5 := hm.2.2.2.1 (G 3 x + k) (by omega)
    rw [sft_r (z := G 2 x) (by omega) (Or.inr hd)] at m5
    have k2 := hm.setC (k := G 3 y + k) (v := C (G 3 x + k))
    rw [sft_s] at k2
    obtain ⟨J', r1, r2, r3⟩ := ih (k + 1) n _ (by omega) (by omega) k2
    refine ⟨J', ?_, r2, Ag.tr (Ag.st Ag.rf rfl) r3⟩
    have e1 : ((G 3 x : Int) + (k : Int)).toNat = G 3 x + k := by omega
    have e2 : ((G 3 y : Int) + (k : Int)).toNat = G 3 y + k := by omega
    have ek : ((k : Int) + 1) = ((k + 1 : Nat) : Int) := by omega
    rw [← r1, gX12_rowCopy_l19]
    simp (disch := omega) only [fail_r, no_r, nob_r, fI_o, Nat.reduceLeDiff, ↓reduceIte, not_true_eq_false, not_false_eq_true, false_imp_iff, true_imp_iff, and_true, true_and, and_self, implies_true, false_or, or_false, true_or, or_true, d10, d01, d00, d11, g_tn, Tot_some, Tot_none, Tot_ite, Tot_bind, ob_some, onl_n, onl_s, nat32, Int.toNat_natCast, i_add, i_sub, i_mul, i_addl, i_addr, i_subl, i_subr, i_mulr, i_addn, i_gd, i_tn, i_w, i_ltlT, i_ltlF, i_ltrT, i_ltrF, i_lelT, i_lelF, i_lerT, i_lerF, i_eqlT, i_eqlF, i_eqrT, i_eqrF, i_ltnT, i_ltnF, i_lenT, i_lenF, i_eqnT, i_eqnF, i_ltT, i_ltF, i_leT, i_leF, i_eqT, i_eqF, j_ltlT, j_ltlF, j_ltrT, j_ltrF, j_lelT, j_lelF, j_lerT, j_lerF, j_eqlT, j_eqlF, j_ltT, j_ltF, j_leT, j_leF, j_eqT, j_eqF, i_mull, l_tn, l_lt0, l_ne0, nleF, tX11_isStockT, tX11_isStockF, tX11_isBinT, tX11_isBinF, tX11_isPlanT, tX11_isPlanF, tX11_isValveT, tX11_isValveF, tX11_isLaneT, tX11_isLaneF, tX11_isGridFormT, tX11_isGridFormF, tX11_isFormT, tX11_isFormF, tX11_isTrayFormT, tX11_isTrayFormF, tX11_isPlacesFormT, tX11_isPlacesFormF, tX11_isTableT, tX11_isTableF, tX11_isProbeT, tX11_isProbeF, tX11_isHouseT, tX11_isHouseF, tX11_isPestT, tX11_isPestF, tX11_isStageT, tX11_isStageF, tX11_isPartT, tX11_isPartF, tX12_isBinT, tX12_isBinF, tX12_isTableT, tX12_isTableF, tX12_inT, tX12_inF, tX12_innT, tX12_innF, tX12_ingT, tX12_ingF, tX12_isStageT, tX12_isStageF, tX1_isByteT, tX1_isByteF, m2, m3, m4, m5, e1, e2, ek]
theorem row_M {N : Nat → Nat → Int32} {s : GS} {σ : Shp} {I : Nat → Nat → Int32} {J : Nat → Nat → Int64} {R : Nat → Nat → Option Nat} {x : Nat} (hg : TSg s.1 s.2.1 N) (hm : TMo s.1 s.2.1 N I J) (x1 : 1 ≤ x) (x2 : x ≤ s.1 10 0) (f : s.1 1 x ≤ 7) (hb : s.1 10 0 + 1 ≤ 4050) : ∃ I' J', gX12_rowCopy σ I J R (Int32.ofInt x) = some (I', J', Int32.ofInt ((s.1 10 0 + 1 : Nat) : Int)) ∧ TMo (rowS x s).1 (rowS x s).2.1 N I' J' ∧ FM I I' J J' := by
  have h0 := hg.1
  have hz := (hg.2.2.1 x x1 x2).2.2.2.1 f
  have sx := (hg.2.2.1 x x1 x2).2.2.2.2.2.2.2.1 (Or.inl f)
  have en : nC (s.1 1 x) (s.1 2 x) = s.1 2 x := if_pos f
  rw [en] at sx
  have n1 := mrow_r (I := I) (m := s.1 10 0) (c := s.1 10 1) (f := s.1 1 x) (z := s.1 2 x) hm.1.1 hm.1.2.1 (by omega) (by omega) (by omega)
  have m1 := mo_row (a := s.2.2) (f := s.1 1 x) (z := s.1 2 x) hg hm (by omega) f
  have e : ∀ a, a ≠ 10 → gNew s.1 s.2.2 (s.1 1 x) (s.1 2 x) 0 0 0 0 a x = s.1 a x := fun a ha => gNo (by omega) ha
  have y3 : gNew s.1 s.2.2 (s.1 1 x) (s.1 2 x) 0 0 0 0 3 (s.1 10 0 + 1) = s.1 10 1 := by rw [gNs, if_neg (by omega), if_neg (by omega)]
  obtain ⟨J', r1, r2, r3⟩ := rowl_M (G := gNew s.1 s.2.2 (s.1 1 x) (s.1 2 x) 0 0 0 0) (C := s.2.1) (N := N) (σ := σ) (R := R) (x := x) (y := s.1 10 0 + 1) (by omega) (by omega) (by rw [e 2 (by omega)]; omega) (by rw [e 3 (by omega), e 2 (by omega), y3]; omega) (by rw [y3, e 2 (by omega)]; omega) (s.1 2 x) 0 FUx J (by rw [FUx_eq]; omega) (by rw [e 2 (by omega)]; omega) (by rw [sft_0]; exact m1)
  rw [e 3 (by omega), e 2 (by omega), y3] at r2
  have ei : ((s.1 10 0 : Int) + 1) = ((s.1 10 0 + 1 : Nat) : Int) := by omega
  refine ⟨moR I (s.1 10 0) (s.1 10 1) (s.1 1 x) (s.1 2 x), J', ?_, r2, ?_, r3⟩
  · obtain ⟨F, hF⟩ : ∃ F, FUx = F := ⟨_, rfl⟩
    rw [hF] at r1
    unfold gX12_rowCopy
    rw [hF, if_pos (g41 (by omega)), if_pos (g41 (by omega)), t41 (by omega), (hm.2.2.1 x (by omega)).1, (hm.2.2.1 x (by omega)).2.1, n1, ob_some, ei]
    exact r1
  · unfold moR
    exact Ag.st (Ag.st (Ag.st (Ag.st (Ag.st Ag.rf rfl) rfl) rfl) rfl) rfl
theorem gloop_M {N : Nat → Nat → Int32} {σ : Shp} {R : Nat → Nat → Option Nat} {F t u : Nat} (t1 : 1 ≤ t) (tu : t < u) (hF : 8 ≤ F ∧ F ≤ 10) : ∀ (w : Nat) (s : GS) (I : Nat → Nat → Int32) (J : Nat → Nat → Int64) (k n : Nat), w < n → TSg s.1 s.2.1 N → TMo s.1 s.2.1 N I J → s.1 10 0 + w ≤ 4050 → u ≤ s.1 10 0 → s.1 1 t = F → s.1 1 u = F → s.1 2 t = k + w → s.1 2 u = k + w → ∃ I' J', gX12_gridCopy_l19 σ R n I J (Int32.ofInt t) (Int32.ofInt u) (Int32.ofInt k) = some (I', J', Int32.ofInt u) ∧ TMo (loopS kidR t u w s k).1 (loopS kidR t u w s k).2.1 N I' J' ∧ FM I I' J J' := by
  intro w
  induction w with
  | zero =>
    intro s I J k n hn hg hm hb u2' ft fu zt zu
    obtain ⟨n, rfl⟩ : ∃ m, n = m + 1 := ⟨n - 1, by omega⟩
    have hst := (hg.2.2.1 u (by omega) u2').2.2.2.2.1 (by omega)
    have m2 := (hm.2.2.1 t (by omega)).2.1
    refine ⟨I, J, ?_, hm, FM.rf⟩
    rw [gX12_gridCopy_l19, if_pos (g41 (by omega)), t41 (by omega), m2, if_pos (by rw [i_le (by omega) (by omega)]; omega)]
  | succ w ih =>
    intro s I J k n hn hg hm hb u2' ft fu zt zu
    obtain ⟨n, rfl⟩ : ∃ m, n = m + 1 := ⟨n - 1, by omega⟩
    have h0 := hg.1
    have ht := hg.2.2.1 t t1 (by omega)
    have hu := hg.2.2.1 u (by omega) u2'
    have hst := hu.2.2.2.2.1 (by omega)
    have pt := ht.2.2.2.2.2.2.2.2.1 (by omega) (by omega)
    have pu := hu.2.2.2.2.2.2.2.2.1 (by omega) (by omega)
    have m2 := (hm.2.2.1 t (by omega)).2.1
    have m3 := (hm.2.2.1 t (by omega)).2.2.1
    have m4 := (hm.2.2.1 u (by omega)).2.2.1
    have m5 := hm.2.2.2.2 (s.1 3 t + k) (by omega)
    have e1 : ((s.1 3 t : Int) + (k : Int)).toNat = s.1 3 t + k := by omega
    have e2 : ((s.1 3 u : Int) + (k : Int)).toNat = s.1 3 u + k := by omega
    have ek : ((k : Int) + 1) = ((k + 1 : Nat) : Int) := by omega
    obtain ⟨v, q1, q2, v2, q3, q4⟩ := step_G (KG_R hF) hg (by omega) t1 tu u2' ft fu (by omega) (show k < s.1 2 t by omega) (show k < s.1 2 u by omega)
    have e := q4.2.2.2.2.2.1
    have hv := v.1
    have hp := v.2
    by_cases c : s.1 4 (s.1 3 t + k) = 0
    · have ke : kidR s (s.1 4 (s.1 3 t + k)) = (s, 0) := by unfold kidR; rw [if_pos c]
      rw [ke] at q3 q4 e
      have M2 : TMo (setS u k 0 s).1 (setS u k 0 s).2.1 N (u2 I 120 (s.1 3 u + k) 0) J := hm.setP
      obtain ⟨I', J', r1, r2, r3⟩ := ih _ _ J (k + 1) n (by omega) q3 M2 (by have := q4.2.1; omega) (by have := q4.1; omega) (by rw [e 1 t (by omega) (by omega) (by omega)]; exact ft) (by rw [e 1 u (by omega) (by omega) u2']; exact fu) (by rw [e 2 t (by omega) (by omega) (by omega)]; omega) (by rw [e 2 u (by omega) (by omega) u2']; omega)
      refine ⟨I', J', ?_, ?_, FM.tr ⟨Ag.st Ag.rf rfl, Ag.rf⟩ r3⟩
      · rw [c] at m5
        rw [← r1, gX12_gridCopy_l19]
        simp (disch := omega) only [fail_r, no_r, nob_r, fI_o, Nat.reduceLeDiff, ↓reduceIte, not_true_eq_false, not_false_eq_true, false_imp_iff, true_imp_iff, and_true, true_and, and_self, implies_true, false_or, or_false, true_or, or_true, d10, d01, d00, d11, g_tn, Tot_some, Tot_none, Tot_ite, Tot_bind, ob_some, onl_n, onl_s, nat32, Int.toNat_natCast, i_add, i_sub, i_mul, i_addl, i_addr, i_subl, i_subr, i_mulr, i_addn, i_gd, i_tn, i_w, i_ltlT, i_ltlF, i_ltrT, i_ltrF, i_lelT, i_lelF, i_lerT, i_lerF, i_eqlT, i_eqlF, i_eqrT, i_eqrF, i_ltnT, i_ltnF, i_lenT, i_lenF, i_eqnT, i_eqnF, i_ltT, i_ltF, i_leT, i_leF, i_eqT, i_eqF, j_ltlT, j_ltlF, j_ltrT, j_ltrF, j_lelT, j_lelF, j_lerT, j_lerF, j_eqlT, j_eqlF, j_ltT, j_ltF, j_leT, j_leF, j_eqT, j_eqF, i_mull, l_tn, l_lt0, l_ne0, nleF, tX11_isStockT, tX11_isStockF, tX11_isBinT, tX11_isBinF, tX11_isPlanT, tX11_isPlanF, tX11_isValveT, tX11_isValveF, tX11_isLaneT, tX11_isLaneF, tX11_isGridFormT, tX11_isGridFormF, tX11_isFormT, tX11_isFormF, tX11_isTrayFormT, tX11_isTrayFormF, tX11_isPlacesFormT, tX11_isPlacesFormF, tX11_isTableT, tX11_isTableF, tX11_isProbeT, tX11_isProbeF, tX11_isHouseT, tX11_isHouseF, tX11_isPestT, tX11_isPestF, tX11_isStageT, tX11_isStageF, tX11_isPartT, tX11_isPartF, tX12_isBinT, tX12_isBinF, tX12_isTableT, tX12_isTableF, tX12_inT, tX12_inF, tX12_innT, tX12_innF, tX12_ingT, tX12_ingF, tX12_isStageT, tX12_isStageF, tX1_isByteT, tX1_isByteF, m2, m3, m4, m5, e1, e2, ek, s16_0]
      · unfold loopS
        rw [ke]
        exact r2
    · have ke : kidR s (s.1 4 (s.1 3 t + k)) = (rowS (s.1 4 (s.1 3 t + k)) s, s.1 10 0 + 1) := by unfold kidR; rw [if_neg c]
      have hp := hp c
      have f7 : s.1 1 (s.1 4 (s.1 3 t + k)) ≤ 7 := by unfold plFor at hp; omega
      rw [ke] at q1 q2 q3 q4 e
      obtain ⟨I1, J1, a1, a2, a3⟩ := row_M (σ := σ) (R := R) hg hm (show 1 ≤ s.1 4 (s.1 3 t + k) by omega) hv f7 (by omega)
      have y3 : (rowS (s.1 4 (s.1 3 t + k)) s).1 3 u = s.1 3 u := q2.2.2.2.2.2.1 3 u (by omega) (by omega) u2'
      have M2 : TMo (setS u k (s.1 10 0 + 1) (rowS (s.1 4 (s.1 3 t + k)) s)).1 (setS u k (s.1 10 0 + 1) (rowS (s.1 4 (s.1 3 t + k)) s)).2.1 N (u2 I1 120 (s.1 3 u + k) (Int32.ofInt ((s.1 10 0 + 1 : Nat) : Int))) J1 := by
        have := a2.setP (k := (rowS (s.1 4 (s.1 3 t + k)) s).1 3 u + k) (x := s.1 10 0 + 1)
        unfold setS
        rw [y3] at this ⊢
        exact this
      obtain ⟨I', J', r1, r2, r3⟩ := ih _ _ J1 (k + 1) n (by omega) q3 M2 (by have := q4.2.1; omega) (by have := q4.1; omega) (by rw [e 1 t (by omega) (by omega) (by omega)]; exact ft) (by rw [e 1 u (by omega) (by omega) u2']; exact fu) (by rw [e 2 t (by omega) (by omega) (by omega)]; omega) (by rw [e 2 u (by omega) (by omega) u2']; omega)
      refine ⟨I', J', ?_, ?_, FM.tr (FM.tr a3 ⟨Ag.st Ag.rf rfl, Ag.rf⟩) r3⟩
      · have ss := s16 (t := ((s.1 10 0 + 1 : Nat) : Int)) (by omega)
        rw [← r1, gX12_gridCopy_l19]
        simp (disch := omega) only [fail_r, no_r, nob_r, fI_o, Nat.reduceLeDiff, ↓reduceIte, not_true_eq_false, not_false_eq_true, false_imp_iff, true_imp_iff, and_true, true_and, and_self, implies_true, false_or, or_false, true_or, or_true, d10, d01, d00, d11, g_tn, Tot_some, Tot_none, Tot_ite, Tot_bind, ob_some, onl_n, onl_s, nat32, Int.toNat_natCast, i_add, i_sub, i_mul, i_addl, i_addr, i_subl, i_subr, i_mulr, i_addn, i_gd, i_tn, i_w, i_ltlT, i_ltlF, i_ltrT, i_ltrF, i_lelT, i_lelF, i_lerT, i_lerF, i_eqlT, i_eqlF, i_eqrT, i_eqrF, i_ltnT, i_ltnF, i_lenT, i_lenF, i_eqnT, i_eqnF, i_ltT, i_ltF, i_leT, i_leF, i_eqT, i_eqF, j_ltlT, j_ltlF, j_ltrT, j_ltrF, j_lelT, j_lelF, j_lerT, j_lerF, j_eqlT, j_eqlF, j_ltT, j_ltF, j_leT, j_leF, j_eqT, j_eqF, i_mull, l_tn, l_lt0, l_ne0, nleF, tX11_isStockT, tX11_isStockF, tX11_isBinT, tX11_isBinF, tX11_isPlanT, tX11_isPlanF, tX11_isValveT, tX11_isValveF, tX11_isLaneT, tX11_isLaneF, tX11_isGridFormT, tX11_isGridFormF, tX11_isFormT, tX11_isFormF, tX11_isTrayFormT, tX11_isTrayFormF, tX11_isPlacesFormT, tX11_isPlacesFormF, tX11_isTableT, tX11_isTableF, tX11_isProbeT, tX11_isProbeF, tX11_isHouseT, tX11_isHouseF, tX11_isPestT, tX11_isPestF, tX11_isStageT, tX11_isStageF, tX11_isPartT, tX11_isPartF, tX12_isBinT, tX12_isBinF, tX12_isTableT, tX12_isTableF, tX12_inT, tX12_inF, tX12_innT, tX12_innF, tX12_ingT, tX12_ingF, tX12_isStageT, tX12_isStageF, tX1_isByteT, tX1_isByteF, m2, m3, m4, m5, e1, e2, ek, a1, ss]
      · unfold loopS
        rw [ke]
        exact r2
theorem grid_M2 {N : Nat → Nat → Int32} {s : GS} {σ : Shp} {I : Nat → Nat → Int32} {J : Nat → Nat → Int64} {R : Nat → Nat → Option Nat} {x : Nat} (hg : TSg s.1 s.2.1 N) (hm : TMo s.1 s.2.1 N I J) (x1 : 1 ≤ x) (x2 : x ≤ s.1 10 0) (f : 8 ≤ s.1 1 x ∧ s.1 1 x ≤ 10) (hb : s.1 10 0 + 11 ≤ 4050) : ∃ I' J', gX12_gridCopy σ I J R (Int32.ofInt x) = some (I', J', Int32.ofInt ((s.1 10 0 + 1 : Nat) : Int)) ∧ TMo (gridS x s).1 (gridS x s).2.1 N I' J' ∧ FM I I' J J' := by
  have h0 := hg.1
  have hz := (hg.2.2.1 x x1 x2).2.2.2.2.1 (by omega)
  obtain ⟨p1, p2, p3, p4, p5, p6, p7⟩ := pl_G (f := s.1 1 x) (z := s.1 2 x) hg (by omega) hz (by omega) (by omega)
  have e := p2.2.2.2.2.2.1
  have n1 := mpl_r (I := I) (m := s.1 10 0) (c := s.1 10 2) (f := s.1 1 x) (z := s.1 2 x) hm.1.1 hm.1.2.2 (by omega) (by omega) (by omega)
  have m1 := mo_pl (a := s.2.2) (f := s.1 1 x) (z := s.1 2 x) hg hm (by omega) (by omega)
  obtain ⟨I', J', r1, r2, r3⟩ := gloop_M (σ := σ) (R := R) (u := s.1 10 0 + 1) (F := s.1 1 x) x1 (by omega) f (s.1 2 x) (plS (s.1 1 x) (s.1 2 x) s) _ J 0 FUx (by rw [FUx_eq]; omega) p1 m1 (by omega) (by omega) (e 1 x (by omega) (by omega) x2) p4 (by rw [e 2 x (by omega) (by omega) x2]; omega) (by rw [p5]; omega)
  have ei : ((s.1 10 0 : Int) + 1) = ((s.1 10 0 + 1 : Nat) : Int) := by omega
  refine ⟨I', J', ?_, r2, FM.tr ⟨?_, Ag.rf⟩ r3⟩
  · obtain ⟨F, hF⟩ : ∃ F, FUx = F := ⟨_, rfl⟩
    rw [hF] at r1
    unfold gX12_gridCopy
    rw [hF, if_pos (g41 (by omega)), if_pos (g41 (by omega)), t41 (by omega), (hm.2.2.1 x (by omega)).1, (hm.2.2.1 x (by omega)).2.1, n1, ob_some, ei]
    exact r1
  · unfold moP
    exact Ag.st (Ag.st (Ag.st (Ag.st (Ag.st Ag.rf rfl) rfl) rfl) rfl) rfl
