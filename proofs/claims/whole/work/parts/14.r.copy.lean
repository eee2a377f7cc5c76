/-! ===== copy: the call ===== -/
theorem plx_G {N : Nat → Nat → Int32} {s : GS} {b t : Nat} {kid : GS → Nat → GS × Nat} (hG : KG N (s.1 1 t) b kid) (hg : TSg s.1 s.2.1 N) (t1 : 1 ≤ t) (t2 : t ≤ s.1 10 0) (hF : 8 ≤ s.1 1 t ∧ s.1 1 t ≤ 15) (hb : s.1 10 0 + 1 + b * s.1 2 t ≤ 4050) : TSg (loopS kid t (s.1 10 0 + 1) (s.1 2 t) (plS (s.1 1 t) (s.1 2 t) s) 0).1 (loopS kid t (s.1 10 0 + 1) (s.1 2 t) (plS (s.1 1 t) (s.1 2 t) s) 0).2.1 N ∧ ExtP s (loopS kid t (s.1 10 0 + 1) (s.1 2 t) (plS (s.1 1 t) (s.1 2 t) s) 0) (1 + b * s.1 2 t) (s.1 10 2) ∧ s.1 10 0 + 1 ≤ (loopS kid t (s.1 10 0 + 1) (s.1 2 t) (plS (s.1 1 t) (s.1 2 t) s) 0).1 10 0 ∧ (loopS kid t (s.1 10 0 + 1) (s.1 2 t) (plS (s.1 1 t) (s.1 2 t) s) 0).1 0 (s.1 10 0 + 1) = s.2.2 := by
  have hz := (hg.2.2.1 t t1 t2).2.2.2.2.1 (by omega)
  have hz3 := (hg.2.2.1 t t1 t2).2.2.2.2.2.1
  obtain ⟨p1, p2, p3, p4, p5, p6, p7⟩ := pl_G (f := s.1 1 t) (z := s.1 2 t) hg hF hz hz3 (by omega)
  have e := p2.2.2.2.2.2.1
  obtain ⟨q1, q2⟩ := loop_G (u := s.1 10 0 + 1) hG t1 (by omega) hF (s.1 2 t) (plS (s.1 1 t) (s.1 2 t) s) 0 p1 (by omega) (by omega) (e 1 t (by omega) (by omega) t2) p4 (by rw [e 2 t (by omega) (by omega) t2]; omega) (by rw [p5]; omega)
  rw [p6] at q2
  have e2 := q2.2.2.2.2.2.1
  have q3 := q2.1
  refine ⟨q1, p2.tr q2 (Nat.le_refl _), by omega, ?_⟩
  rw [e2 0 _ (by omega) (by omega) (by omega)]
  exact p7
theorem plx_M {N : Nat → Nat → Int32} {σ : Shp} {R : Nat → Nat → Option Nat} {I : Nat → Nat → Int32} {J : Nat → Nat → Int64} {s : GS} {x2 : Int32} {b t : Nat} {kid : GS → Nat → GS × Nat} (hG : KG N (s.1 1 t) b kid) (hK : KM N σ R x2 (s.1 1 t) b kid) (hq : x2 = 0 ∨ 11 ≤ s.1 1 t) (hg : TSg s.1 s.2.1 N) (hm : TMo s.1 s.2.1 N I J) (t1 : 1 ≤ t) (t2 : t ≤ s.1 10 0) (hF : 8 ≤ s.1 1 t ∧ s.1 1 t ≤ 15) (hb : s.1 10 0 + 1 + b * s.1 2 t ≤ 4050) : ∃ I' J', gX12_placesCopy σ I J R (Int32.ofInt t) x2 = some (I', J', Int32.ofInt ((s.1 10 0 + 1 : Nat) : Int)) ∧ TMo (loopS kid t (s.1 10 0 + 1) (s.1 2 t) (plS (s.1 1 t) (s.1 2 t) s) 0).1 (loopS kid t (s.1 10 0 + 1) (s.1 2 t) (plS (s.1 1 t) (s.1 2 t) s) 0).2.1 N I' J' ∧ FM I I' J J' := by
  have h0 := hg.1
  have hz := (hg.2.2.1 t t1 t2).2.2.2.2.1 (by omega)
  have hz3 := (hg.2.2.1 t t1 t2).2.2.2.2.2.1
  obtain ⟨p1, p2, p3, p4, p5, p6, p7⟩ := pl_G (f := s.1 1 t) (z := s.1 2 t) hg hF hz hz3 (by omega)
  have e := p2.2.2.2.2.2.1
  have n1 := mpl_r (I := I) (m := s.1 10 0) (c := s.1 10 2) (f := s.1 1 t) (z := s.1 2 t) hm.1.1 hm.1.2.2 (by omega) (by omega) (by omega)
  have m1 := mo_pl (a := s.2.2) (f := s.1 1 t) (z := s.1 2 t) hg hm (by omega) hF
  obtain ⟨I', J', r1, r2, r3⟩ := ploop_M (u := s.1 10 0 + 1) hG hK t1 (by omega) hF (s.1 2 t) (plS (s.1 1 t) (s.1 2 t) s) _ J 0 FUx (by rw [FUx_eq]; omega) p1 m1 (by omega) (by omega) (e 1 t (by omega) (by omega) t2) p4 (by rw [e 2 t (by omega) (by omega) t2]; omega) (by rw [p5]; omega)
  have ei : ((s.1 10 0 : Int) + 1) = ((s.1 10 0 + 1 : Nat) : Int) := by omega
  have m2 := (hm.2.2.1 t (by omega)).1
  have m3 := (hm.2.2.1 t (by omega)).2.1
  refine ⟨I', J', ?_, r2, FM.tr ⟨?_, Ag.rf⟩ r3⟩
  · obtain ⟨F, hF⟩ : ∃ F, FUx = F := ⟨_, rfl⟩
    rw [hF] at r1
    unfold gX12_placesCopy
    rw [hF]
    by_cases d : x2 = 0
    · rw [if_pos d, if_pos (g41 (by omega)), if_pos (g41 (by omega)), t41 (by omega), m2, m3, n1, ob_some, ei]
      exact r1
    · have h11 : (11 : Int32) ≤ Int32.ofInt (s.1 1 t : Int) := by
        rw [i_ler (by omega)]
        rcases hq with h | h
        · exact absurd h d
        · omega
      rw [if_neg d, if_pos (g41 (by omega)), t41 (by omega), m2, if_pos h11, if_pos (g41p (by omega)), m3, n1, ob_some, ei]
      exact r1
  · unfold moP
    exact Ag.st (Ag.st (Ag.st (Ag.st (Ag.st Ag.rf rfl) rfl) rfl) rfl) rfl
theorem cp_fin {N : Nat → Nat → Int32} {s : GS} {σ : Shp} {I I' I'' : Nat → Nat → Int32} {J J' J'' : Nat → Nat → Int64} {R R' : Nat → Nat → Option Nat} {b y : Nat} (hs : GScal I) (hn : nxx σ ≤ 900000) (ci : CI N s σ I' J' R') (fc : FC I I' J J' R R') (m : TMo s.1 s.2.1 N I'' J'') (fm : FM I' I'' J' J'') (y1 : 1 ≤ y) (y2 : y ≤ s.1 10 0) : TOut σ I (u2 I'' 115 b (Int32.ofInt y)) J J'' R (u2 R' 6 b (some (s.1 0 y))) := by
  obtain ⟨hS, hg, hc, -⟩ := ci
  have k2 := hc.setB (b := b) (t := y) hS.1
  rw [pn_1 y1] at k2
  refine out_gen hs ⟨hS.1, hn⟩ (hg.setB (b := b) y2) k2 m.setB (fc.1.mv rfl) (Ag.st (fm.1.mv rfl) rfl) ?_ fc.2.1 fm.2 (Ag.st (fc.2.2.mv rfl) rfl)
  rw [u2n (by omega), fm.1 114 19 rfl, fc.1 114 19 rfl, fc.1 4 16 rfl]
  exact hs.e4
theorem cp_cl {σ σ' : Shp} {I I' : Nat → Nat → Int32} {J J' : Nat → Nat → Int64} {R R' : Nat → Nat → Option Nat} {r : Option Nat} {i j : Int} {x3 : Int32} (c1 : 0 ≤ i ∧ i ≤ 15) (c2 : 0 ≤ j ∧ j ≤ 15) (f1 : gX11_isFull I = some 0) (h : gX11_copied 8 σ I J R (R 6 j.toNat) x3 0 = some (σ', I', J', R', r)) (hS : Skel σ' R') (ok : okR σ' 11 r = true) : gX11_copy σ I J R (Int32.ofInt i) (Int32.ofInt j) x3 = some (σ', I', J', u2 R' 6 i.toNat r, 1) := by
  have k6 : kdx σ' 6 = 26 := hS.k 6 26 (by decide) rfl
  have l6 : lnx σ' 6 = 16 := hS.l 6 16 (by decide) rfl
  unfold gX11_copy
  rw [tX11_isBinT c1, if_neg n10, tX11_isBinT c2, if_neg n10, f1, ob_some, if_pos rfl, if_pos (by rw [i_gd (by omega)]; exact id), i_tn (by omega), h, ob_some]
  unfold gX11_copy_b44
  simp (disch := omega) only [fail_r, no_r, nob_r, fI_o, Nat.reduceLeDiff, ↓reduceIte, not_true_eq_false, not_false_eq_true, false_imp_iff, true_imp_iff, and_true, true_and, and_self, implies_true, false_or, or_false, true_or, or_true, d10, d01, d00, d11, g_tn, Tot_some, Tot_none, Tot_ite, Tot_bind, ob_some, onl_n, onl_s, nat32, Int.toNat_natCast, i_add, i_sub, i_mul, i_addl, i_addr, i_subl, i_subr, i_mulr, i_addn, i_gd, i_tn, i_w, i_ltlT, i_ltlF, i_ltrT, i_ltrF, i_lelT, i_lelF, i_lerT, i_lerF, i_eqlT, i_eqlF, i_eqrT, i_eqrF, i_ltnT, i_ltnF, i_lenT, i_lenF, i_eqnT, i_eqnF, i_ltT, i_ltF, i_leT, i_leF, i_eqT, i_eqF, j_ltlT, j_ltlF, j_ltrT, j_ltrF, j_lelT, j_lelF, j_lerT, j_lerF, j_eqlT, j_eqlF, j_ltT, j_ltF, j_leT, j_leF, j_eqT, j_eqF, i_mull, l_tn, l_lt0, l_ne0, nleF, tX11_isStockT, tX11_isStockF, tX11_isBinT, tX11_isBinF, tX11_isPlanT, tX11_isPlanF, tX11_isValveT, tX11_isValveF, tX11_isLaneT, tX11_isLaneF, tX11_isGridFormT, tX11_isGridFormF, tX11_isFormT, tX11_isFormF, tX11_isTrayFormT, tX11_isTrayFormF, tX11_isPlacesFormT, tX11_isPlacesFormF, tX11_isTableT, tX11_isTableF, tX11_isProbeT, tX11_isProbeF, tX11_isHouseT, tX11_isHouseF, tX11_isPestT, tX11_isPestF, tX11_isStageT, tX11_isStageF, tX11_isPartT, tX11_isPartF, tX12_isBinT, tX12_isBinF, tX12_isTableT, tX12_isTableF, tX12_inT, tX12_inF, tX12_innT, tX12_innF, tX12_ingT, tX12_ingF, tX12_isStageT, tX12_isStageF, tX1_isByteT, tX1_isByteF, k6, l6, ok]
theorem c_copy {σ : Shp} {I : Nat → Nat → Int32} {J : Nat → Nat → Int64} {R : Nat → Nat → Option Nat} {x1 x2 x3 : Int32} (hS : Skel σ R) (hn : nxx σ + 200 ≤ 900000) (hs : GScal I) (hT : GThing σ I J R) : Tot (gX11_copy σ I J R x1 x2 x3) (fun t => Tot (gX12_copy t.1 t.2.1 t.2.2.1 t.2.2.2.1 x1 x2 x3) (fun t2 => t.2.2.2.2 = t2.2.2 ∧ TOut t.1 I t2.1 J t2.2.1 R t.2.2.2.1 ∧ Grow σ t.1)) := by
  obtain ⟨i, hi1, hi2, rfl⟩ := rep x1
  obtain ⟨j, hj1, hj2, rfl⟩ := rep x2
  obtain ⟨G, C, N, hg, hc, hm⟩ := id hT
  have hn' : nxx σ ≤ 900000 := by omega
  have h198 := hS.1
  have h40 := hg.1.1
  by_cases c1 : 0 ≤ i ∧ i ≤ 15
  case neg =>
    exact tt (σ, I, J, R, -2) (I, J, -2) (by unfold gX11_copy; simp (disch := omega) only [fail_r, no_r, nob_r, fI_o, Nat.reduceLeDiff, ↓reduceIte, not_true_eq_false, not_false_eq_true, false_imp_iff, true_imp_iff, and_true, true_and, and_self, implies_true, false_or, or_false, true_or, or_true, d10, d01, d00, d11, g_tn, Tot_some, Tot_none, Tot_ite, Tot_bind, ob_some, onl_n, onl_s, nat32, Int.toNat_natCast, i_add, i_sub, i_mul, i_addl, i_addr, i_subl, i_subr, i_mulr, i_addn, i_gd, i_tn, i_w, i_ltlT, i_ltlF, i_ltrT, i_ltrF, i_lelT, i_lelF, i_lerT, i_lerF, i_eqlT, i_eqlF, i_eqrT, i_eqrF, i_ltnT, i_ltnF, i_lenT, i_lenF, i_eqnT, i_eqnF, i_ltT, i_ltF, i_leT, i_leF, i_eqT, i_eqF, j_ltlT, j_ltlF, j_ltrT, j_ltrF, j_lelT, j_lelF, j_lerT, j_lerF, j_eqlT, j_eqlF, j_ltT, j_ltF, j_leT, j_leF, j_eqT, j_eqF, i_mull, l_tn, l_lt0, l_ne0, nleF, tX11_isStockT, tX11_isStockF, tX11_isBinT, tX11_isBinF, tX11_isPlanT, tX11_isPlanF, tX11_isValveT, tX11_isValveF, tX11_isLaneT, tX11_isLaneF, tX11_isGridFormT, tX11_isGridFormF, tX11_isFormT, tX11_isFormF, tX11_isTrayFormT, tX11_isTrayFormF, tX11_isPlacesFormT, tX11_isPlacesFormF, tX11_isTableT, tX11_isTableF, tX11_isProbeT, tX11_isProbeF, tX11_isHouseT, tX11_isHouseF, tX11_isPestT, tX11_isPestF, tX11_isStageT, tX11_isStageF, tX11_isPartT, tX11_isPartF, tX12_isBinT, tX12_isBinF, tX12_isTableT, tX12_isTableF, tX12_inT, tX12_inF, tX12_innT, tX12_innF, tX12_ingT, tX12_ingF, tX12_isStageT, tX12_isStageF, tX1_isByteT, tX1_isByteF]) (by unfold gX12_copy; simp (disch := omega) only [fail_r, no_r, nob_r, fI_o, Nat.reduceLeDiff, ↓reduceIte, not_true_eq_false, not_false_eq_true, false_imp_iff, true_imp_iff, and_true, true_and, and_self, implies_true, false_or, or_false, true_or, or_true, d10, d01, d00, d11, g_tn, Tot_some, Tot_none, Tot_ite, Tot_bind, ob_some, onl_n, onl_s, nat32, Int.toNat_natCast, i_add, i_sub, i_mul, i_addl, i_addr, i_subl, i_subr, i_mulr, i_addn, i_gd, i_tn, i_w, i_ltlT, i_ltlF, i_ltrT, i_ltrF, i_lelT, i_lelF, i_lerT, i_lerF, i_eqlT, i_eqlF, i_eqrT, i_eqrF, i_ltnT, i_ltnF, i_lenT, i_lenF, i_eqnT, i_eqnF, i_ltT, i_ltF, i_leT, i_leF, i_eqT, i_eqF, j_ltlT, j_ltlF, j_ltrT, j_ltrF, j_lelT, j_lelF, j_lerT, j_lerF, j_eqlT, j_eqlF, j_ltT, j_ltF, j_leT, j_leF, j_eqT, j_eqF, i_mull, l_tn, l_lt0, l_ne0, nleF, tX11_isStockT, tX11_isStockF, tX11_isBinT, tX11_isBinF, tX11_isPlanT, tX11_isPlanF, tX11_isValveT, tX11_isValveF, tX11_isLaneT, tX11_isLaneF, tX11_isGridFormT, tX11_isGridFormF, tX11_isFormT, tX11_isFormF, tX11_isTrayFormT, tX11_isTrayFormF, tX11_isPlacesFormT, tX11_isPlacesFormF, tX11_isTableT, tX11_isTableF, tX11_isProbeT, tX11_isProbeF, tX11_isHouseT, tX11_isHouseF, tX11_isPestT, tX11_isPestF, tX11_isStageT, tX11_isStageF, tX11_isPartT, tX11_isPartF, tX12_isBinT, tX12_isBinF, tX12_isTableT, tX12_isTableF, tX12_inT, tX12_inF, tX12_innT, tX12_innF, tX12_ingT, tX12_ingF, tX12_isStageT, tX12_isStageF, tX1_isByteT, tX1_isByteF]) ⟨rfl, ⟨tout_rf hs hT, Grow.rf⟩⟩
  by_cases c2 : 0 ≤ j ∧ j ≤ 15
  case neg =>
    exact tt (σ, I, J, R, -2) (I, J, -2) (by unfold gX11_copy; simp (disch := omega) only [fail_r, no_r, nob_r, fI_o, Nat.reduceLeDiff, ↓reduceIte, not_true_eq_false, not_false_eq_true, false_imp_iff, true_imp_iff, and_true, true_and, and_self, implies_true, false_or, or_false, true_or, or_true, d10, d01, d00, d11, g_tn, Tot_some, Tot_none, Tot_ite, Tot_bind, ob_some, onl_n, onl_s, nat32, Int.toNat_natCast, i_add, i_sub, i_mul, i_addl, i_addr, i_subl, i_subr, i_mulr, i_addn, i_gd, i_tn, i_w, i_ltlT, i_ltlF, i_ltrT, i_ltrF, i_lelT, i_lelF, i_lerT, i_lerF, i_eqlT, i_eqlF, i_eqrT, i_eqrF, i_ltnT, i_ltnF, i_lenT, i_lenF, i_eqnT, i_eqnF, i_ltT, i_ltF, i_leT, i_leF, i_eqT, i_eqF, j_ltlT, j_ltlF, j_ltrT, j_ltrF, j_lelT, j_lelF, j_lerT, j_lerF, j_eqlT, j_eqlF, j_ltT, j_ltF, j_leT, j_leF, j_eqT, j_eqF, i_mull, l_tn, l_lt0, l_ne0, nleF, tX11_isStockT, tX11_isStockF, tX11_isBinT, tX11_isBinF, tX11_isPlanT, tX11_isPlanF, tX11_isValveT, tX11_isValveF, tX11_isLaneT, tX11_isLaneF, tX11_isGridFormT, tX11_isGridFormF, tX11_isFormT, tX11_isFormF, tX11_isTrayFormT, tX11_isTrayFormF, tX11_isPlacesFormT, tX11_isPlacesFormF, tX11_isTableT, tX11_isTableF, tX11_isProbeT, tX11_isProbeF, tX11_isHouseT, tX11_isHouseF, tX11_isPestT, tX11_isPestF, tX11_isStageT, tX11_isStageF, tX11_isPartT, tX11_isPartF, tX12_isBinT, tX12_isBinF, tX12_isTableT, tX12_isTableF, tX12_inT, tX12_inF, tX12_innT, tX12_innF, tX12_ingT, tX12_ingF, tX12_isStageT, tX12_isStageF, tX1_isByteT, tX1_isByteF]) (by unfold gX12_copy; simp (disch := omega) only [fail_r, no_r, nob_r, fI_o, Nat.reduceLeDiff, ↓reduceIte, not_true_eq_false, not_false_eq_true, false_imp_iff, true_imp_iff, and_true, true_and, and_self, implies_true, false_or, or_false, true_or, or_true, d10, d01, d00, d11, g_tn, Tot_some, Tot_none, Tot_ite, Tot_bind, ob_some, onl_n, onl_s, nat32, Int.toNat_natCast, i_add, i_sub, i_mul, i_addl, i_addr, i_subl, i_subr, i_mulr, i_addn, i_gd, i_tn, i_w, i_ltlT, i_ltlF, i_ltrT, i_ltrF, i_lelT, i_lelF, i_lerT, i_lerF, i_eqlT, i_eqlF, i_eqrT, i_eqrF, i_ltnT, i_ltnF, i_lenT, i_lenF, i_eqnT, i_eqnF, i_ltT, i_ltF, i_leT, i_leF, i_eqT, i_eqF, j_ltlT, j_ltlF, j_ltrT, j_ltrF, j_lelT, j_lelF, j_lerT, j_lerF, j_eqlT, j_eqlF, j_ltT, j_ltF, j_leT, j_leF, j_eqT, j_eqF, i_mull, l_tn, l_lt0, l_ne0, nleF, tX11_isStockT, tX11_isStockF, tX11_isBinT, tX11_isBinF, tX11_isPlanT, tX11_isPlanF, tX11_isValveT, tX11_isValveF, tX11_isLaneT, tX11_isLaneF, tX11_isGridFormT, tX11_isGridFormF, tX11_isFormT, tX11_isFormF, tX11_isTrayFormT, tX11_isTrayFormF, tX11_isPlacesFormT, tX11_isPlacesFormF, tX11_isTableT, tX11_isTableF, tX11_isProbeT, tX11_isProbeF, tX11_isHouseT, tX11_isHouseF, tX11_isPestT, tX11_isPestF, tX11_isStageT, tX11_isStageF, tX11_isPartT, tX11_isPartF, tX12_isBinT, tX12_isBinF, tX12_isTableT, tX12_isTableF, tX12_inT, tX12_inF, tX12_innT, tX12_innF, tX12_ingT, tX12_ingF, tX12_isStageT, tX12_isStageF, tX1_isByteT, tX1_isByteF]) ⟨rfl, ⟨tout_rf hs hT, Grow.rf⟩⟩
  rcases full_eq hs hm.1.1 h40 with ⟨f1, f2⟩ | ⟨f1, f2, f3⟩
  · exact tt (σ, I, J, R, -4) (I, J, -4) (by unfold gX11_copy; simp (disch := omega) only [fail_r, no_r, nob_r, fI_o, Nat.reduceLeDiff, ↓reduceIte, not_true_eq_false, not_false_eq_true, false_imp_iff, true_imp_iff, and_true, true_and, and_self, implies_true, false_or, or_false, true_or, or_true, d10, d01, d00, d11, g_tn, Tot_some, Tot_none, Tot_ite, Tot_bind, ob_some, onl_n, onl_s, nat32, Int.toNat_natCast, i_add, i_sub, i_mul, i_addl, i_addr, i_subl, i_subr, i_mulr, i_addn, i_gd, i_tn, i_w, i_ltlT, i_ltlF, i_ltrT, i_ltrF, i_lelT, i_lelF, i_lerT, i_lerF, i_eqlT, i_eqlF, i_eqrT, i_eqrF, i_ltnT, i_ltnF, i_lenT, i_lenF, i_eqnT, i_eqnF, i_ltT, i_ltF, i_leT, i_leF, i_eqT, i_eqF, j_ltlT, j_ltlF, j_ltrT, j_ltrF, j_lelT, j_lelF, j_lerT, j_lerF, j_eqlT, j_eqlF, j_ltT, j_ltF, j_leT, j_leF, j_eqT, j_eqF, i_mull, l_tn, l_lt0, l_ne0, nleF, tX11_isStockT, tX11_isStockF, tX11_isBinT, tX11_isBinF, tX11_isPlanT, tX11_isPlanF, tX11_isValveT, tX11_isValveF, tX11_isLaneT, tX11_isLaneF, tX11_isGridFormT, tX11_isGridFormF, tX11_isFormT, tX11_isFormF, tX11_isTrayFormT, tX11_isTrayFormF, tX11_isPlacesFormT, tX11_isPlacesFormF, tX11_isTableT, tX11_isTableF, tX11_isProbeT, tX11_isProbeF, tX11_isHouseT, tX11_isHouseF, tX11_isPestT, tX11_isPestF, tX11_isStageT, tX11_isStageF, tX11_isPartT, tX11_isPartF, tX12_isBinT, tX12_isBinF, tX12_isTableT, tX12_isTableF, tX12_inT, tX12_inF, tX12_innT, tX12_innF, tX12_ingT, tX12_ingF, tX12_isStageT, tX12_isStageF, tX1_isByteT, tX1_isByteF, f1, f2]) (by unfold gX12_copy; simp (disch := omega) only [fail_r, no_r, nob_r, fI_o, Nat.reduceLeDiff, ↓reduceIte, not_true_eq_false, not_false_eq_true, false_imp_iff, true_imp_iff, and_true, true_and, and_self, implies_true, false_or, or_false, true_or, or_true, d10, d01, d00, d11, g_tn, Tot_some, Tot_none, Tot_ite, Tot_bind, ob_some, onl_n, onl_s, nat32, Int.toNat_natCast, i_add, i_sub, i_mul, i_addl, i_addr, i_subl, i_subr, i_mulr, i_addn, i_gd, i_tn, i_w, i_ltlT, i_ltlF, i_ltrT, i_ltrF, i_lelT, i_lelF, i_lerT, i_lerF, i_eqlT, i_eqlF, i_eqrT, i_eqrF, i_ltnT, i_ltnF, i_lenT, i_lenF, i_eqnT, i_eqnF, i_ltT, i_ltF, i_leT, i_leF, i_eqT, i_eqF, j_ltlT, j_ltlF, j_ltrT, j_ltrF, j_lelT, j_lelF, j_lerT, j_lerF, j_eqlT, j_eqlF, j_ltT, j_ltF, j_leT, j_leF, j_eqT, j_eqF, i_mull, l_tn, l_lt0, l_ne0, nleF, tX11_isStockT, tX11_isStockF, tX11_isBinT, tX11_isBinF, tX11_isPlanT, tX11_isPlanF, tX11_isValveT, tX11_isValveF, tX11_isLaneT, tX11_isLaneF, tX11_isGridFormT, tX11_isGridFormF, tX11_isFormT, tX11_isFormF, tX11_isTrayFormT, tX11_isTrayFormF, tX11_isPlacesFormT, tX11_isPlacesFormF, tX11_isTableT, tX11_isTableF, tX11_isProbeT, tX11_isProbeF, tX11_isHouseT, tX11_isHouseF, tX11_isPestT, tX11_isPestF, tX11_isStageT, tX11_isStageF, tX11_isPartT, tX11_isPartF, tX12_isBinT, tX12_isBinF, tX12_isTableT, tX12_isTableF, tX12_inT, tX12_inF, tX12_innT, tX12_innF, tX12_ingT, tX12_ingF, tX12_isStageT, tX12_isStageF, tX1_isByteT, tX1_isByteF, f1, f2]) ⟨rfl, ⟨tout_rf hs hT, Grow.rf⟩⟩
  have gj : ¬ (Int32.ofInt j < 0 ∨ 16 ≤ Int32.toNatClampNeg (Int32.ofInt j)) := by rw [i_gd (by omega)]; exact id
  have gi : ¬ (Int32.ofInt i < 0 ∨ 16 ≤ Int32.toNatClampNeg (Int32.ofInt i)) := by rw [i_gd (by omega)]; exact id
  rcases th_bin hg hc hm c2 with ⟨e0, e1, e2⟩ | ⟨x, x1, x2, x3', e0, e1, e2⟩
  · have cl := cp_cl (σ := σ) (J := J) (R := R) (x3 := x3) (σ' := σ) (I' := I) (J' := J) (R' := R) (r := none) c1 c2 f1 (by rw [e2, gX11_copied]; rfl) hS rfl
    refine tt _ (u2 I 115 i.toNat (Int32.ofInt ((0 : Nat) : Int)), J, 1) cl ?_ ⟨rfl, out_bin hS hn' hs hg hc hm (b := i.toNat) (t := 0) (by omega) (by omega), Grow.rf⟩
    show gX12_copy σ I J _ _ _ _ = _
    unfold gX12_copy
    simp (disch := omega) only [fail_r, no_r, nob_r, fI_o, Nat.reduceLeDiff, ↓reduceIte, not_true_eq_false, not_false_eq_true, false_imp_iff, true_imp_iff, and_true, true_and, and_self, implies_true, false_or, or_false, true_or, or_true, d10, d01, d00, d11, g_tn, Tot_some, Tot_none, Tot_ite, Tot_bind, ob_some, onl_n, onl_s, nat32, Int.toNat_natCast, i_add, i_sub, i_mul, i_addl, i_addr, i_subl, i_subr, i_mulr, i_addn, i_gd, i_tn, i_w, i_ltlT, i_ltlF, i_ltrT, i_ltrF, i_lelT, i_lelF, i_lerT, i_lerF, i_eqlT, i_eqlF, i_eqrT, i_eqrF, i_ltnT, i_ltnF, i_lenT, i_lenF, i_eqnT, i_eqnF, i_ltT, i_ltF, i_leT, i_leF, i_eqT, i_eqF, j_ltlT, j_ltlF, j_ltrT, j_ltrF, j_lelT, j_lelF, j_lerT, j_lerF, j_eqlT, j_eqlF, j_ltT, j_ltF, j_leT, j_leF, j_eqT, j_eqF, i_mull, l_tn, l_lt0, l_ne0, nleF, tX11_isStockT, tX11_isStockF, tX11_isBinT, tX11_isBinF, tX11_isPlanT, tX11_isPlanF, tX11_isValveT, tX11_isValveF, tX11_isLaneT, tX11_isLaneF, tX11_isGridFormT, tX11_isGridFormF, tX11_isFormT, tX11_isFormF, tX11_isTrayFormT, tX11_isTrayFormF, tX11_isPlacesFormT, tX11_isPlacesFormF, tX11_isTableT, tX11_isTableF, tX11_isProbeT, tX11_isProbeF, tX11_isHouseT, tX11_isHouseF, tX11_isPestT, tX11_isPestF, tX11_isStageT, tX11_isStageF, tX11_isPartT, tX11_isPartF, tX12_isBinT, tX12_isBinF, tX12_isTableT, tX12_isTableF, tX12_inT, tX12_inF, tX12_innT, tX12_innF, tX12_ingT, tX12_ingF, tX12_isStageT, tX12_isStageF, tX1_isByteT, tX1_isByteF, f2, e1]
    rfl
  obtain ⟨⟨a1, -⟩, ⟨b1, -⟩, -⟩ := hc.2.2.1 x x1 x2
  have m1 := (hm.2.2.1 x (by omega)).1
  have f17 := (hg.2.2.1 x x1 x2).1
  by_cases fp : G 1 x = 16
  · rw [fp] at b1 m1
    have b1' : I (G 0 x) 0 = 16 := b1
    have cl := cp_cl (σ := σ) (J := J) (R := R) (x3 := x3) (σ' := σ) (I' := I) (J' := J) (R' := R) (r := some (G 0 x)) c1 c2 f1 (by rw [e2, gX11_copied]; simp only [onl_s]; rw [if_pos a1, if_pos b1']) hS (by have := ok_pn hc x2; rw [pn_1 x1] at this; exact this)
    have o := out_bin hS hn' hs hg hc hm (b := i.toNat) (t := x) (by omega) x2
    rw [pn_1 x1] at o
    refine tt _ (u2 I 115 i.toNat (Int32.ofInt (x : Int)), J, 1) cl ?_ ⟨rfl, o, Grow.rf⟩
    show gX12_copy σ I J _ _ _ _ = _
    unfold gX12_copy
    simp (disch := omega) only [fail_r, no_r, nob_r, fI_o, Nat.reduceLeDiff, ↓reduceIte, not_true_eq_false, not_false_eq_true, false_imp_iff, true_imp_iff, and_true, true_and, and_self, implies_true, false_or, or_false, true_or, or_true, d10, d01, d00, d11, g_tn, Tot_some, Tot_none, Tot_ite, Tot_bind, ob_some, onl_n, onl_s, nat32, Int.toNat_natCast, i_add, i_sub, i_mul, i_addl, i_addr, i_subl, i_subr, i_mulr, i_addn, i_gd, i_tn, i_w, i_ltlT, i_ltlF, i_ltrT, i_ltrF, i_lelT, i_lelF, i_lerT, i_lerF, i_eqlT, i_eqlF, i_eqrT, i_eqrF, i_ltnT, i_ltnF, i_lenT, i_lenF, i_eqnT, i_eqnF, i_ltT, i_ltF, i_leT, i_leF, i_eqT, i_eqF, j_ltlT, j_ltlF, j_ltrT, j_ltrF, j_lelT, j_lelF, j_lerT, j_lerF, j_eqlT, j_eqlF, j_ltT, j_ltF, j_leT, j_leF, j_eqT, j_eqF, i_mull, l_tn, l_lt0, l_ne0, nleF, tX11_isStockT, tX11_isStockF, tX11_isBinT, tX11_isBinF, tX11_isPlanT, tX11_isPlanF, tX11_isValveT, tX11_isValveF, tX11_isLaneT, tX11_isLaneF, tX11_isGridFormT, tX11_isGridFormF, tX11_isFormT, tX11_isFormF, tX11_isTrayFormT, tX11_isTrayFormF, tX11_isPlacesFormT, tX11_isPlacesFormF, tX11_isTableT, tX11_isTableF, tX11_isProbeT, tX11_isProbeF, tX11_isHouseT, tX11_isHouseF, tX11_isPestT, tX11_isPestF, tX11_isStageT, tX11_isStageF, tX11_isPartT, tX11_isPartF, tX12_isBinT, tX12_isBinF, tX12_isTableT, tX12_isTableF, tX12_inT, tX12_inF, tX12_innT, tX12_innF, tX12_ingT, tX12_ingF, tX12_isStageT, tX12_isStageF, tX1_isByteT, tX1_isByteF, f2, e1, m1]
  have nf : ∀ (σ9 : Shp) (I9 : Nat → Nat → Int32) (J9 : Nat → Nat → Int64) (R9 : Nat → Nat → Option Nat), Ag [(202, 1000000), (2000012, 2000013), (2000016, 2000017)] I I9 → gX12_copy σ9 I9 J9 R9 (Int32.ofInt i) (Int32.ofInt j) x3 = (gX12_isRow I9 (Int32.ofInt x)).bind fun r8 => if r8 = 0 then (if Int32.ofInt (G 1 x) = (17 : Int32) then (gX12_cardCopy σ9 I9 J9 R9 (Int32.ofInt x)).bind fun r => some (u2 r.1 115 i.toNat r.2.2, r.2.1, 1) else (gX12_placesCopy σ9 I9 J9 R9 (Int32.ofInt x) x3).bind fun r => some (u2 r.1 115 i.toNat r.2.2, r.2.1, 1)) else (gX12_rowCopy σ9 I9 J9 R9 (Int32.ofInt x)).bind fun r => some (u2 r.1 115 i.toNat r.2.2, r.2.1, 1) := by
    intro σ9 I9 J9 R9 ag
    have f9 : gX12_isFull I9 = some 0 := by rw [← f2]; exact full_o (ag 114 1 rfl) (ag 114 0 rfl)
    have e9 : I9 115 j.toNat = Int32.ofInt x := by rw [ag 115 j.toNat rfl]; exact e1
    have m9 : I9 116 x = Int32.ofInt (G 1 x) := by rw [ag 116 x rfl]; exact m1
    unfold gX12_copy
    rw [tX12_isBinT c1, if_neg n10, tX12_isBinT c2, if_neg n10, f9, ob_some, if_pos rfl, if_pos gj, i_tn (i := j) (by omega), e9]
    dsimp only
    rw [if_neg (by rw [i_eql (by omega)]; omega), if_pos (g41 (by omega)), t41 (by omega), m9, if_neg (by rw [i_eql (by omega)]; omega)]
    have gi' : ¬ (Int32.ofInt i < 0 ∨ 16 ≤ i.toNat) := by rw [i_ltl (by omega)]; omega
    simp only [i_tn (i := i) (show -2147483648 ≤ i ∧ i < 2147483648 by omega), if_pos gi']
  have ir : ∀ I9, Ag [(202, 1000000), (2000012, 2000013), (2000016, 2000017)] I I9 → gX12_isRow I9 (Int32.ofInt x) = some (if G 1 x ≤ 7 then 1 else 0) := by
    intro I9 ag
    have m9 : I9 116 x = Int32.ofInt (G 1 x) := by rw [ag 116 x rfl]; exact m1
    unfold gX12_isRow
    rw [if_pos (g41 (by omega)), t41 (by omega), m9]
    by_cases w : G 1 x ≤ 7
    · rw [if_neg (by rw [i_ler (by omega)]; omega), if_pos w]
    · rw [if_pos (by rw [i_ler (by omega)]; omega), if_neg w]
  have ci : CI N (G, C, nxx σ + 4) σ I J R := ⟨hS, hg, hc, rfl⟩
  by_cases fr : G 1 x ≤ 7
  · obtain ⟨σ', I', J', R', r1, r2, r3, r4⟩ := row_C (s := (G, C, nxx σ + 4)) (n := 7) (d := x3) (x3 := 0) ci x1 x2 fr (by show G 10 0 + 1 ≤ 4050; omega) (by show nxx σ + 4 ≤ 899990; omega) (by decide)
    obtain ⟨-, -, g3, g4, g5, g6⟩ := row_G (s := (G, C, nxx σ + 4)) hg x1 x2 fr (by show G 10 0 + 1 ≤ 4050; omega)
    have y0 : (rowS x (G, C, nxx σ + 4)).1 0 (G 10 0 + 1) = nxx σ + 4 := g6
    have yc : (rowS x (G, C, nxx σ + 4)).1 10 0 = G 10 0 + 1 := g4
    have ok := ok_pn r2.2.2.1 (x := G 10 0 + 1) (by rw [yc]; omega)
    rw [pn_1 (by omega), y0] at ok
    have cl := cp_cl (σ := σ) (J := J) (R := R) (x3 := x3) c1 c2 f1 (by rw [e2]; exact r1) r2.1 ok
    have m0 : TMo G C N I' J' := hm.kp (r3.1.kp rfl) (r3.2.1.kp rfl)
    have ag : Ag [(202, 1000000), (2000012, 2000013), (2000016, 2000017)] I I' := r3.1.mv rfl
    obtain ⟨I'', J'', q1, q2, q3⟩ := row_M (s := (G, C, nxx σ + 4)) (σ := σ') (R := u2 R' 6 i.toNat (some (nxx σ + 4))) hg m0 x1 x2 fr (by show G 10 0 + 1 ≤ 4050; omega)
    have nx : nxx σ' = nxx σ + 3 := by have := r2.2.2.2; have : nxx σ' + 4 = nxx σ + 4 + 3 := this; omega
    have o := cp_fin (b := i.toNat) (y := G 10 0 + 1) hs (by omega) r2 r3 q2 q3 (by omega) (by rw [yc]; omega)
    rw [y0] at o
    refine tt _ (u2 I'' 115 i.toNat (Int32.ofInt ((G 10 0 + 1 : Nat) : Int)), J'', 1) cl ?_ ⟨rfl, o, ⟨by show nxx σ ≤ nxx σ'; omega, by show nxx σ' ≤ _; omega, by show slx σ' ≤ _; omega⟩⟩
    show gX12_copy σ' I' J' _ _ _ _ = _
    rw [nf _ _ _ _ ag, ir _ ag, if_pos fr, ob_some, if_neg n10]
    rw [q1, ob_some]
  by_cases fc : G 1 x = 17
  · obtain ⟨J', R', r1, r2, r3, r4, r5⟩ := card_C (n := 7) (d := x3) (x3 := 0) hS (by omega) hg hc x1 x2 fc (by omega) (by decide)
    obtain ⟨g1, g2⟩ := card_G (c := nxx σ + 4) (v := I 4 16) hg x1 x2 fc (by omega)
    have y0 : cardG G x (nxx σ + 4) 0 (G 10 0 + 1) = nxx σ + 4 := by unfold cardG; rw [u2n (by omega), u2n (by omega), gNa]
    have yc : cardG G x (nxx σ + 4) 10 0 = G 10 0 + 1 := by unfold cardG; rw [u2n (by omega), u2n (by omega)]; rfl
    have ok := ok_pn r3 (x := G 10 0 + 1) (by rw [yc]; omega)
    rw [pn_1 (by omega), y0] at ok
    have cl := cp_cl (σ := σ) (J := J) (R := R) (x3 := x3) c1 c2 f1 (by rw [e2]; exact r1) r2 ok
    have ag : Ag [(202, 1000000), (2000012, 2000013), (2000016, 2000017)] I (clC I (nxx σ + 4)) := Ag.st (Ag.st (Ag.st (Ag.st Ag.rf rfl) (far_in (by omega) (by omega) rfl)) (far_in (by omega) (by omega) rfl)) rfl
    have m0 : TMo G C N (clC I (nxx σ + 4)) J' := hm.kp (ag.kp rfl) (r4.kp rfl)
    obtain ⟨J'', q1, q2, q3⟩ := card_M (c := nxx σ + 4) (σ := shR σ 8 2) (R := u2 R' 6 i.toNat (some (nxx σ + 4))) hg m0 x1 x2 fc (by omega)
    have e19 : clC I (nxx σ + 4) 114 19 = I 4 16 := by rw [ag 114 19 rfl]; exact hs.e4.symm
    rw [e19] at q2
    have k2 := r3.setB (b := i.toNat) (t := G 10 0 + 1) r2.1
    rw [pn_1 (by omega), y0] at k2
    have a2 : Ag [(115, 122), (125, 127), (1000000, 1000001), (1000007, 1000008), (1000009, 1000010), (1000019, 1000020)] (clC I (nxx σ + 4)) (u2 (u2 (u2 (moC (clC I (nxx σ + 4)) (G 10 0) (G 10 1)) 125 (G 10 0 + 1) (Int32.ofInt (G 5 x))) 126 (G 10 0 + 1) (Int32.ofInt (G 6 x))) 115 i.toNat (Int32.ofInt ((G 10 0 + 1 : Nat) : Int))) := by
      unfold moC
      exact Ag.st (Ag.st (Ag.st (Ag.st (Ag.st (Ag.st (Ag.st (Ag.st (Ag.st (Ag.st Ag.rf rfl) rfl) rfl) rfl) rfl) rfl) rfl) rfl) rfl) rfl
    have e4 : clC I (nxx σ + 4) 4 16 = u2 (u2 (u2 (moC (clC I (nxx σ + 4)) (G 10 0) (G 10 1)) 125 (G 10 0 + 1) (Int32.ofInt (G 5 x))) 126 (G 10 0 + 1) (Int32.ofInt (G 6 x))) 115 i.toNat (Int32.ofInt ((G 10 0 + 1 : Nat) : Int)) 114 19 := by
      have : moC (clC I (nxx σ + 4)) (G 10 0) (G 10 1) 114 19 = clC I (nxx σ + 4) 114 19 + 1 := by unfold moC; simp (disch := omega) only [u2n, u2s]
      rw [u2n (by omega), u2n (by omega), u2n (by omega), this, e19]
      unfold clC
      simp (disch := omega) only [u2n, u2s]
    have o := out_gen hs ⟨r2.1, by rw [shR_n]; omega⟩ (g2.setB (b := i.toNat) (by rw [yc]; omega)) k2 q2.setB ag a2 e4 r4 q3 (Ag.st (r5.mv rfl) rfl)
    refine tt _ (u2 (u2 (u2 (moC (clC I (nxx σ + 4)) (G 10 0) (G 10 1)) 125 (G 10 0 + 1) (Int32.ofInt (G 5 x))) 126 (G 10 0 + 1) (Int32.ofInt (G 6 x))) 115 i.toNat (Int32.ofInt ((G 10 0 + 1 : Nat) : Int)), J'', 1) cl ?_ ⟨rfl, o, ⟨by show nxx σ ≤ nxx (shR σ 8 2); rw [shR_n]; omega, by show nxx (shR σ 8 2) ≤ _; rw [shR_n]; omega, by show slx (shR σ 8 2) ≤ _; rw [shR_s]; omega⟩⟩
    show gX12_copy (shR σ 8 2) (clC I (nxx σ + 4)) J' _ _ _ _ = _
    rw [nf _ _ _ _ ag, ir _ ag, if_neg fr, ob_some, if_pos rfl, fc, if_pos (by decide)]
    rw [q1, ob_some]
  have hF : 8 ≤ G 1 x ∧ G 1 x ≤ 15 := by omega
  have hz := (hg.2.2.1 x x1 x2).2.2.2.2.1 (by omega)
  have hz3 := (hg.2.2.1 x x1 x2).2.2.2.2.2.1
  have fin : ∀ (b : Nat) (kid : GS → Nat → GS × Nat), KG N (G 1 x) b kid → KC N (gX11_copied 7) x3 0 (G 1 x) b kid → b * G 2 x ≤ 44 → (∀ (σ9 : Shp) (I9 : Nat → Nat → Int32) (J9 : Nat → Nat → Int64) (R9 : Nat → Nat → Option Nat), TMo G C N I9 J9 → ∃ I' J', gX12_placesCopy σ9 I9 J9 R9 (Int32.ofInt x) x3 = some (I', J', Int32.ofInt ((G 10 0 + 1 : Nat) : Int)) ∧ TMo (loopS kid x (G 10 0 + 1) (G 2 x) (plS (G 1 x) (G 2 x) (G, C, nxx σ + 4)) 0).1 (loopS kid x (G 10 0 + 1) (G 2 x) (plS (G 1 x) (G 2 x) (G, C, nxx σ + 4)) 0).2.1 N I' J' ∧ FM I9 I' J9 J') → Tot (gX11_copy σ I J R (Int32.ofInt i) (Int32.ofInt j) x3) (fun t => Tot (gX12_copy t.1 t.2.1 t.2.2.1 t.2.2.2.1 (Int32.ofInt i) (Int32.ofInt j) x3) (fun t2 => t.2.2.2.2 = t2.2.2 ∧ TOut t.1 I t2.1 J t2.2.1 R t.2.2.2.1 ∧ Grow σ t.1)) := by
    intro b kid hG hK hb hM
    obtain ⟨σ', I', J', R', r1, r2, r3, r4⟩ := pl_C (s := (G, C, nxx σ + 4)) (t := x) (n := 7) hG hK ci x1 x2 hF (by show G 10 0 + 1 + b * G 2 x ≤ 4050; omega) (by show nxx σ + 4 + 3 + 3 * (b * G 2 x) ≤ 899990; omega) (by decide)
    obtain ⟨-, g3, g4, g5⟩ := plx_G (s := (G, C, nxx σ + 4)) (t := x) hG hg x1 x2 hF (by show G 10 0 + 1 + b * G 2 x ≤ 4050; omega)
    have ok := ok_pn r2.2.2.1 (x := G 10 0 + 1) g4
    rw [pn_1 (by omega), g5] at ok
    have cl := cp_cl (σ := σ) (J := J) (R := R) (x3 := x3) c1 c2 f1 (by rw [e2]; exact r1) r2.1 ok
    have m0 : TMo G C N I' J' := hm.kp (r3.1.kp rfl) (r3.2.1.kp rfl)
    have ag : Ag [(202, 1000000), (2000012, 2000013), (2000016, 2000017)] I I' := r3.1.mv rfl
    obtain ⟨I'', J'', q1, q2, q3⟩ := hM σ' I' J' (u2 R' 6 i.toNat (some (nxx σ + 4))) m0
    have nx := r2.2.2.2
    have nx1 : nxx σ + 4 ≤ _ := g3.2.2.1
    have nx2 : _ ≤ nxx σ + 4 + 3 * (1 + b * G 2 x) := g3.2.2.2.1
    have o := cp_fin (b := i.toNat) (y := G 10 0 + 1) hs (by omega) r2 r3 q2 q3 (by omega) g4
    rw [g5] at o
    have r4' : slx σ' ≤ slx σ + 60 + 60 * (b * G 2 x) := r4
    refine tt _ (u2 I'' 115 i.toNat (Int32.ofInt ((G 10 0 + 1 : Nat) : Int)), J'', 1) cl ?_ ⟨rfl, o, ⟨by show nxx σ ≤ nxx σ'; omega, by show nxx σ' ≤ _; omega, by show slx σ' ≤ _; omega⟩⟩
    show gX12_copy σ' I' J' _ _ _ _ = _
    rw [nf _ _ _ _ ag, ir _ ag, if_neg fr, ob_some, if_pos rfl, if_neg (by rw [i_eql (by omega)]; omega)]
    have q1' : gX12_placesCopy σ' I' J' (u2 R' 6 i.toNat (some (nxx σ + 4))) (Int32.ofInt x) x3 = some (I'', J'', Int32.ofInt ((G 10 0 + 1 : Nat) : Int)) := q1
    show ((gX12_placesCopy σ' I' J' (u2 R' 6 i.toNat (some (nxx σ + 4))) (Int32.ofInt x) x3).bind _) = _
    rw [q1', ob_some]
  by_cases d : x3 = 0
  · subst d
    exact fin 0 kid0 KG_0 KC_0 (by omega) (fun σ9 I9 J9 R9 m9 => plx_M (s := (G, C, nxx σ + 4)) (b := 0) KG_0 (Or.inl ⟨Or.inl rfl, rfl⟩) (Or.inl rfl) hg m9 x1 x2 hF (by show G 10 0 + 1 + 0 * G 2 x ≤ 4050; omega))
  by_cases f8 : G 1 x ≤ 10
  · refine fin 1 kidR (KG_R (by omega)) (KC_R (n := 6) (by omega) d (by decide)) (by omega) (fun σ9 I9 J9 R9 m9 => ?_)
    obtain ⟨I', J', q1, q2, q3⟩ := grid_M2 (s := (G, C, nxx σ + 4)) (σ := σ9) (R := R9) hg m9 x1 x2 ⟨hF.1, f8⟩ (by show G 10 0 + 11 ≤ 4050; omega)
    have q1' : gX12_gridCopy σ9 I9 J9 R9 (Int32.ofInt x) = some (I', J', Int32.ofInt ((G 10 0 + 1 : Nat) : Int)) := q1
    refine ⟨I', J', ?_, q2, q3⟩
    have mm := (m9.2.2.1 x (by omega)).1
    unfold gX12_placesCopy
    rw [if_neg d, if_pos (g41 (by omega)), t41 (by omega), mm, if_neg (by rw [i_ler (by omega)]; omega), q1', ob_some]
  by_cases f11 : G 1 x = 11
  · have hz4 := hz3 f11
    exact fin 11 kidG (by rw [f11]; exact KG_G) (by rw [f11]; exact KC_G (n := 5) d (by decide) (by decide)) (by omega) (fun σ9 I9 J9 R9 m9 => plx_M (s := (G, C, nxx σ + 4)) (b := 11) (kid := kidG) (by show KG N (G 1 x) 11 kidG; rw [f11]; exact KG_G) (Or.inr ⟨d, f11, rfl, rfl⟩) (Or.inr (by show 11 ≤ G 1 x; omega)) hg m9 x1 x2 hF (by show G 10 0 + 1 + 11 * G 2 x ≤ 4050; omega))
  · exact fin 0 kid0 KG_0 (KC_T (n := 6) (by omega) d) (by omega) (fun σ9 I9 J9 R9 m9 => plx_M (s := (G, C, nxx σ + 4)) (b := 0) KG_0 (Or.inl ⟨Or.inr f11, rfl⟩) (Or.inr (by show 11 ≤ G 1 x; omega)) hg m9 x1 x2 hF (by show G 10 0 + 1 + 0 * G 2 x ≤ 4050; omega))
