/-! ===== copies: the model's places ===== -/
def KM (N : Nat → Nat → Int32) (σ : Shp) (R : Nat → Nat → Option Nat) (x2 : Int32) (F b : Nat) (kid : GS → Nat → GS × Nat) : Prop := ((x2 = 0 ∨ F ≠ 11) ∧ kid = kid0) ∨ (x2 ≠ 0 ∧ F = 11 ∧ b = 11 ∧ kid = kidG)
theorem ploop_M {N : Nat → Nat → Int32} {σ : Shp} {R : Nat → Nat → Option Nat} {x2 : Int32} {F b t u : Nat} {kid : GS → Nat → GS × Nat} (hG : KG N F b kid) (hK : KM N σ R x2 F b kid) (t1 : 1 ≤ t) (tu : t < u) (hF : 8 ≤ F ∧ F ≤ 15) : ∀ (w : Nat) (s : GS) (I : Nat → Nat → Int32) (J : Nat → Nat → Int64) (k n : Nat), w < n → TSg s.1 s.2.1 N → TMo s.1 s.2.1 N I J → s.1 10 0 + b * w ≤ 4050 → u ≤ s.1 10 0 → s.1 1 t = F → s.1 1 u = F → s.1 2 t = k + w → s.1 2 u = k + w → ∃ I' J', gX12_placesCopy_l41 σ R n I J (Int32.ofInt t) x2 (Int32.ofInt u) (Int32.ofInt k) = some (I', J', Int32.ofInt u) ∧ TMo (loopS kid t u w s k).1 (loopS kid t u w s k).2.1 N I' J' ∧ FM I I' J J' := by
  intro w
  induction w with
  | zero =>
    intro s I J k n hn hg hm hb u2' ft fu zt zu
    obtain ⟨n, rfl⟩ : ∃ m, n = m + 1 := ⟨n - 1, by omega⟩
    have h0 := hg.1
    have hst := (hg.2.2.1 u (by omega) u2').2.2.2.2.1 (by omega)
    have m2 := (hm.2.2.1 t (by omega)).2.1
    refine ⟨I, J, ?_, hm, FM.rf⟩
    rw [gX12_placesCopy_l41, if_pos (g41 (by omega)), t41 (by omega), m2, if_pos (by rw [i_le (by omega) (by omega)]; omega)]
  | succ w ih =>
    intro s I J k n hn hg hm hb u2' ft fu zt zu
    obtain ⟨n, rfl⟩ : ∃ m, n = m + 1 := ⟨n - 1, by omega⟩
    rw [Nat.mul_succ] at hb
    have h0 := hg.1
    have ht := hg.2.2.1 t t1 (by omega)
    have hu := hg.2.2.1 u (by omega) u2'
    have hst := hu.2.2.2.2.1 (by omega)
    have pt := ht.2.2.2.2.2.2.2.2.1 (by omega) (by omega)
    have pu := hu.2.2.2.2.2.2.2.2.1 (by omega) (by omega)
    have m1 := (hm.2.2.1 t (by omega)).1
    have m2 := (hm.2.2.1 t (by omega)).2.1
    have m3 := (hm.2.2.1 t (by omega)).2.2.1
    have m4 := (hm.2.2.1 u (by omega)).2.2.1
    have m5 := hm.2.2.2.2 (s.1 3 t + k) (by omega)
    rw [ft] at m1
    have e1 : ((s.1 3 t : Int) + (k : Int)).toNat = s.1 3 t + k := by omega
    have e2 : ((s.1 3 u : Int) + (k : Int)).toNat = s.1 3 u + k := by omega
    have ek : ((k : Int) + 1) = ((k + 1 : Nat) : Int) := by omega
    obtain ⟨v, q1, q2, v2, q3, q4⟩ := step_G hG hg (by omega) t1 tu u2' ft fu (by omega) (show k < s.1 2 t by omega) (show k < s.1 2 u by omega)
    have e := q4.2.2.2.2.2.1
    have hv := v.1
    have hp := v.2
    have sx := s16 (t := ((s.1 4 (s.1 3 t + k) : Nat) : Int)) (by omega)
    by_cases c : kid s (s.1 4 (s.1 3 t + k)) = (s, s.1 4 (s.1 3 t + k))
    · have M2 : TMo (setS u k (s.1 4 (s.1 3 t + k)) s).1 (setS u k (s.1 4 (s.1 3 t + k)) s).2.1 N (u2 I 120 (s.1 3 u + k) (Int32.ofInt (s.1 4 (s.1 3 t + k) : Nat))) J := hm.setP
      rw [c] at q3 q4 e
      obtain ⟨I', J', r1, r2, r3⟩ := ih _ _ J (k + 1) n (by omega) q3 M2 (by have := q4.2.1; show s.1 10 0 + _ ≤ _; omega) (by have := q4.1; omega) (by rw [e 1 t (by omega) (by omega) (by omega)]; exact ft) (by rw [e 1 u (by omega) (by omega) u2']; exact fu) (by rw [e 2 t (by omega) (by omega) (by omega)]; omega) (by rw [e 2 u (by omega) (by omega) u2']; omega)
      refine ⟨I', J', ?_, ?_, FM.tr ⟨Ag.st Ag.rf rfl, Ag.rf⟩ r3⟩
      · have b93 : gX12_placesCopy_b93 (gX12_placesCopy_l41 σ R n) σ R I J (Int32.ofInt t) x2 (Int32.ofInt u) (Int32.ofInt k) (Int32.ofInt (s.1 4 (s.1 3 t + k) : Nat)) 0 = gX12_placesCopy_l41 σ R n (u2 I 120 (s.1 3 u + k) (Int32.ofInt (s.1 4 (s.1 3 t + k) : Nat))) J (Int32.ofInt t) x2 (Int32.ofInt u) (Int32.ofInt ((k + 1 : Nat) : Int)) := by
          unfold gX12_placesCopy_b93
          simp (disch := omega) only [fail_r, no_r, nob_r, fI_o, Nat.reduceLeDiff, ↓reduceIte, not_true_eq_false, not_false_eq_true, false_imp_iff, true_imp_iff, and_true, true_and, and_self, implies_true, false_or, or_false, true_or, or_true, d10, d01, d00, d11, g_tn, Tot_some, Tot_none, Tot_ite, Tot_bind, ob_some, onl_n, onl_s, nat32, Int.toNat_natCast, i_add, i_sub, i_mul, i_addl, i_addr, i_subl, i_subr, i_mulr, i_addn, i_gd, i_tn, i_w, i_ltlT, i_ltlF, i_ltrT, i_ltrF, i_lelT, i_lelF, i_lerT, i_lerF, i_eqlT, i_eqlF, i_eqrT, i_eqrF, i_ltnT, i_ltnF, i_lenT, i_lenF, i_eqnT, i_eqnF, i_ltT, i_ltF, i_leT, i_leF, i_eqT, i_eqF, j_ltlT, j_ltlF, j_ltrT, j_ltrF, j_lelT, j_lelF, j_lerT, j_lerF, j_eqlT, j_eqlF, j_ltT, j_ltF, j_leT, j_leF, j_eqT, j_eqF, i_mull, l_tn, l_lt0, l_ne0, nleF, tX11_isStockT, tX11_isStockF, tX11_isBinT, tX11_isBinF, tX11_isPlanT, tX11_isPlanF, tX11_isValveT, tX11_isValveF, tX11_isLaneT, tX11_isLaneF, tX11_isGridFormT, tX11_isGridFormF, tX11_isFormT, tX11_isFormF, tX11_isTrayFormT, tX11_isTrayFormF, tX11_isPlacesFormT, tX11_isPlacesFormF, tX11_isTableT, tX11_isTableF, tX11_isProbeT, tX11_isProbeF, tX11_isHouseT, tX11_isHouseF, tX11_isPestT, tX11_isPestF, tX11_isStageT, tX11_isStageF, tX11_isPartT, tX11_isPartF, tX12_isBinT, tX12_isBinF, tX12_isTableT, tX12_isTableF, tX12_inT, tX12_inF, tX12_innT, tX12_innF, tX12_ingT, tX12_ingF, tX12_isStageT, tX12_isStageF, tX1_isByteT, tX1_isByteF, m4, e2, ek, sx]
        rw [← r1, gX12_placesCopy_l41]
        by_cases d : x2 = 0
        · subst d
          simp (disch := omega) only [fail_r, no_r, nob_r, fI_o, Nat.reduceLeDiff, ↓reduceIte, not_true_eq_false, not_false_eq_true, false_imp_iff, true_imp_iff, and_true, true_and, and_self, implies_true, false_or, or_false, true_or, or_true, d10, d01, d00, d11, g_tn, Tot_some, Tot_none, Tot_ite, Tot_bind, ob_some, onl_n, onl_s, nat32, Int.toNat_natCast, i_add, i_sub, i_mul, i_addl, i_addr, i_subl, i_subr, i_mulr, i_addn, i_gd, i_tn, i_w, i_ltlT, i_ltlF, i_ltrT, i_ltrF, i_lelT, i_lelF, i_lerT, i_lerF, i_eqlT, i_eqlF, i_eqrT, i_eqrF, i_ltnT, i_ltnF, i_lenT, i_lenF, i_eqnT, i_eqnF, i_ltT, i_ltF, i_leT, i_leF, i_eqT, i_eqF, j_ltlT, j_ltlF, j_ltrT, j_ltrF, j_lelT, j_lelF, j_lerT, j_lerF, j_eqlT, j_eqlF, j_ltT, j_ltF, j_leT, j_leF, j_eqT, j_eqF, i_mull, l_tn, l_lt0, l_ne0, nleF, tX11_isStockT, tX11_isStockF, tX11_isBinT, tX11_isBinF, tX11_isPlanT, tX11_isPlanF, tX11_isValveT, tX11_isValveF, tX11_isLaneT, tX11_isLaneF, tX11_isGridFormT, tX11_isGridFormF, tX11_isFormT, tX11_isFormF, tX11_isTrayFormT, tX11_isTrayFormF, tX11_isPlacesFormT, tX11_isPlacesFormF, tX11_isTableT, tX11_isTableF, tX11_isProbeT, tX11_isProbeF, tX11_isHouseT, tX11_isHouseF, tX11_isPestT, tX11_isPestF, tX11_isStageT, tX11_isStageF, tX11_isPartT, tX11_isPartF, tX12_isBinT, tX12_isBinF, tX12_isTableT, tX12_isTableF, tX12_inT, tX12_inF, tX12_innT, tX12_innF, tX12_ingT, tX12_ingF, tX12_isStageT, tX12_isStageF, tX1_isByteT, tX1_isByteF, m2, m3, m5, e1, b93]
        · have d' : (x2 = 0) = False := eq_false d
          by_cases d2 : F = 11
          · have z : s.1 4 (s.1 3 t + k) = 0 := by
              rcases hK with ⟨h1 | h1, -⟩ | ⟨-, -, -, h1⟩
              · exact absurd h1 d
              · exact absurd d2 h1
              · rw [h1] at c
                unfold kidG at c
                by_cases y : s.1 4 (s.1 3 t + k) = 0
                · exact y
                · rw [if_neg y] at c
                  have := congrArg (fun a => a.2) c
                  simp only at this
                  omega
            rw [z] at m5 b93
            rw [z]
            simp (disch := omega) only [fail_r, no_r, nob_r, fI_o, Nat.reduceLeDiff, ↓reduceIte, not_true_eq_false, not_false_eq_true, false_imp_iff, true_imp_iff, and_true, true_and, and_self, implies_true, false_or, or_false, true_or, or_true, d10, d01, d00, d11, g_tn, Tot_some, Tot_none, Tot_ite, Tot_bind, ob_some, onl_n, onl_s, nat32, Int.toNat_natCast, i_add, i_sub, i_mul, i_addl, i_addr, i_subl, i_subr, i_mulr, i_addn, i_gd, i_tn, i_w, i_ltlT, i_ltlF, i_ltrT, i_ltrF, i_lelT, i_lelF, i_lerT, i_lerF, i_eqlT, i_eqlF, i_eqrT, i_eqrF, i_ltnT, i_ltnF, i_lenT, i_lenF, i_eqnT, i_eqnF, i_ltT, i_ltF, i_leT, i_leF, i_eqT, i_eqF, j_ltlT, j_ltlF, j_ltrT, j_ltrF, j_lelT, j_lelF, j_lerT, j_lerF, j_eqlT, j_eqlF, j_ltT, j_ltF, j_leT, j_leF, j_eqT, j_eqF, i_mull, l_tn, l_lt0, l_ne0, nleF, tX11_isStockT, tX11_isStockF, tX11_isBinT, tX11_isBinF, tX11_isPlanT, tX11_isPlanF, tX11_isValveT, tX11_isValveF, tX11_isLaneT, tX11_isLaneF, tX11_isGridFormT, tX11_isGridFormF, tX11_isFormT, tX11_isFormF, tX11_isTrayFormT, tX11_isTrayFormF, tX11_isPlacesFormT, tX11_isPlacesFormF, tX11_isTableT, tX11_isTableF, tX11_isProbeT, tX11_isProbeF, tX11_isHouseT, tX11_isHouseF, tX11_isPestT, tX11_isPestF, tX11_isStageT, tX11_isStageF, tX11_isPartT, tX11_isPartF, tX12_isBinT, tX12_isBinF, tX12_isTableT, tX12_isTableF, tX12_inT, tX12_inF, tX12_innT, tX12_innF, tX12_ingT, tX12_ingF, tX12_isStageT, tX12_isStageF, tX1_isByteT, tX1_isByteF, m1, m2, m3, m5, e1, b93, d']
          · simp (disch := omega) only [fail_r, no_r, nob_r, fI_o, Nat.reduceLeDiff, ↓reduceIte, not_true_eq_false, not_false_eq_true, false_imp_iff, true_imp_iff, and_true, true_and, and_self, implies_true, false_or, or_false, true_or, or_true, d10, d01, d00, d11, g_tn, Tot_some, Tot_none, Tot_ite, Tot_bind, ob_some, onl_n, onl_s, nat32, Int.toNat_natCast, i_add, i_sub, i_mul, i_addl, i_addr, i_subl, i_subr, i_mulr, i_addn, i_gd, i_tn, i_w, i_ltlT, i_ltlF, i_ltrT, i_ltrF, i_lelT, i_lelF, i_lerT, i_lerF, i_eqlT, i_eqlF, i_eqrT, i_eqrF, i_ltnT, i_ltnF, i_lenT, i_lenF, i_eqnT, i_eqnF, i_ltT, i_ltF, i_leT, i_leF, i_eqT, i_eqF, j_ltlT, j_ltlF, j_ltrT, j_ltrF, j_lelT, j_lelF, j_lerT, j_lerF, j_eqlT, j_eqlF, j_ltT, j_ltF, j_leT, j_leF, j_eqT, j_eqF, i_mull, l_tn, l_lt0, l_ne0, nleF, tX11_isStockT, tX11_isStockF, tX11_isBinT, tX11_isBinF, tX11_isPlanT, tX11_isPlanF, tX11_isValveT, tX11_isValveF, tX11_isLaneT, tX11_isLaneF, tX11_isGridFormT, tX11_isGridFormF, tX11_isFormT, tX11_isFormF, tX11_isTrayFormT, tX11_isTrayFormF, tX11_isPlacesFormT, tX11_isPlacesFormF, tX11_isTableT, tX11_isTableF, tX11_isProbeT, tX11_isProbeF, tX11_isHouseT, tX11_isHouseF, tX11_isPestT, tX11_isPestF, tX11_isStageT, tX11_isStageF, tX11_isPartT, tX11_isPartF, tX12_isBinT, tX12_isBinF, tX12_isTableT, tX12_isTableF, tX12_inT, tX12_inF, tX12_innT, tX12_innF, tX12_ingT, tX12_ingF, tX12_isStageT, tX12_isStageF, tX1_isByteT, tX1_isByteF, m1, m2, m3, m5, e1, b93, d']
      · unfold loopS
        rw [c]
        exact r2
    · have hk : x2 ≠ 0 ∧ F = 11 ∧ b = 11 ∧ kid = kidG := by
        rcases hK with ⟨-, h1⟩ | h1
        · rw [h1] at c
          exact absurd rfl c
        · exact h1
      obtain ⟨d, rfl, rfl, rfl⟩ := hk
      have d' : (x2 = 0) = False := eq_false d
      have cz : s.1 4 (s.1 3 t + k) ≠ 0 := fun y => c (by unfold kidG; rw [if_pos y, y])
      have ke : kidG s (s.1 4 (s.1 3 t + k)) = (gridS (s.1 4 (s.1 3 t + k)) s, s.1 10 0 + 1) := by unfold kidG; rw [if_neg cz]
      have hp := hp cz
      have f9 : s.1 1 (s.1 4 (s.1 3 t + k)) = 9 := by unfold plFor at hp; omega
      rw [ke] at q1 q2 q3 q4 e
      obtain ⟨I1, J1, a1, a2, a3⟩ := grid_M2 (σ := σ) (R := R) hg hm (show 1 ≤ s.1 4 (s.1 3 t + k) by omega) hv (by omega) (by omega)
      have y3 : (gridS (s.1 4 (s.1 3 t + k)) s).1 3 u = s.1 3 u := q2.2.2.2.2.2.1 3 u (by omega) (by omega) u2'
      have M2 : TMo (setS u k (s.1 10 0 + 1) (gridS (s.1 4 (s.1 3 t + k)) s)).1 (setS u k (s.1 10 0 + 1) (gridS (s.1 4 (s.1 3 t + k)) s)).2.1 N (u2 I1 120 (s.1 3 u + k) (Int32.ofInt ((s.1 10 0 + 1 : Nat) : Int))) J1 := by
        have := a2.setP (k := (gridS (s.1 4 (s.1 3 t + k)) s).1 3 u + k) (x := s.1 10 0 + 1)
        unfold setS
        rw [y3] at this ⊢
        exact this
      obtain ⟨I', J', r1, r2, r3⟩ := ih _ _ J1 (k + 1) n (by omega) q3 M2 (by have := q4.2.1; omega) (by have := q4.1; omega) (by rw [e 1 t (by omega) (by omega) (by omega)]; exact ft) (by rw [e 1 u (by omega) (by omega) u2']; exact fu) (by rw [e 2 t (by omega) (by omega) (by omega)]; omega) (by rw [e 2 u (by omega) (by omega) u2']; omega)
      refine ⟨I', J', ?_, ?_, FM.tr (FM.tr a3 ⟨Ag.st Ag.rf rfl, Ag.rf⟩) r3⟩
      · have ss := s16 (t := ((s.1 10 0 + 1 : Nat) : Int)) (by omega)
        have b93 : gX12_placesCopy_b93 (gX12_placesCopy_l41 σ R n) σ R I J (Int32.ofInt t) x2 (Int32.ofInt u) (Int32.ofInt k) (Int32.ofInt (s.1 4 (s.1 3 t + k) : Nat)) 1 = gX12_placesCopy_l41 σ R n (u2 I1 120 (s.1 3 u + k) (Int32.ofInt ((s.1 10 0 + 1 : Nat) : Int))) J1 (Int32.ofInt t) x2 (Int32.ofInt u) (Int32.ofInt ((k + 1 : Nat) : Int)) := by
          unfold gX12_placesCopy_b93
          simp (disch := omega) only [fail_r, no_r, nob_r, fI_o, Nat.reduceLeDiff, ↓reduceIte, not_true_eq_false, not_false_eq_true, false_imp_iff, true_imp_iff, and_true, true_and, and_self, implies_true, false_or, or_false, true_or, or_true, d10, d01, d00, d11, g_tn, Tot_some, Tot_none, Tot_ite, Tot_bind, ob_some, onl_n, onl_s, nat32, Int.toNat_natCast, i_add, i_sub, i_mul, i_addl, i_addr, i_subl, i_subr, i_mulr, i_addn, i_gd, i_tn, i_w, i_ltlT, i_ltlF, i_ltrT, i_ltrF, i_lelT, i_lelF, i_lerT, i_lerF, i_eqlT, i_eqlF, i_eqrT, i_eqrF, i_ltnT, i_ltnF, i_lenT, i_lenF, i_eqnT, i_eqnF, i_ltT, i_ltF, i_leT, i_leF, i_eqT, i_eqF, j_ltlT, j_ltlF, j_ltrT, j_ltrF, j_lelT, j_lelF, j_lerT, j_lerF, j_eqlT, j_eqlF, j_ltT, j_ltF, j_leT, j_leF, j_eqT, j_eqF, i_mull, l_tn, l_lt0, l_ne0, nleF, tX11_isStockT, tX11_isStockF, tX11_isBinT, tX11_isBinF, tX11_isPlanT, tX11_isPlanF, tX11_isValveT, tX11_isValveF, tX11_isLaneT, tX11_isLaneF, tX11_isGridFormT, tX11_isGridFormF, tX11_isFormT, tX11_isFormF, tX11_isTrayFormT, tX11_isTrayFormF, tX11_isPlacesFormT, tX11_isPlacesFormF, tX11_isTableT, tX11_isTableF, tX11_isProbeT, tX11_isProbeF, tX11_isHouseT, tX11_isHouseF, tX11_isPestT, tX11_isPestF, tX11_isStageT, tX11_isStageF, tX11_isPartT, tX11_isPartF, tX12_isBinT, tX12_isBinF, tX12_isTableT, tX12_isTableF, tX12_inT, tX12_inF, tX12_innT, tX12_innF, tX12_ingT, tX12_ingF, tX12_isStageT, tX12_isStageF, tX1_isByteT, tX1_isByteF, m4, e2, ek, ss, a1]
        rw [← r1, gX12_placesCopy_l41]
        simp (disch := omega) only [fail_r, no_r, nob_r, fI_o, Nat.reduceLeDiff, ↓reduceIte, not_true_eq_false, not_false_eq_true, false_imp_iff, true_imp_iff, and_true, true_and, and_self, implies_true, false_or, or_false, true_or, or_true, d10, d01, d00, d11, g_tn, Tot_some, Tot_none, Tot_ite, Tot_bind, ob_some, onl_n, onl_s, nat32, Int.toNat_natCast, i_add, i_sub, i_mul, i_addl, i_addr, i_subl, i_subr, i_mulr, i_addn, i_gd, i_tn, i_w, i_ltlT, i_ltlF, i_ltrT, i_ltrF, i_lelT, i_lelF, i_lerT, i_lerF, i_eqlT, i_eqlF, i_eqrT, i_eqrF, i_ltnT, i_ltnF, i_lenT, i_lenF, i_eqnT, i_eqnF, i_ltT, i_ltF, i_leT, i_leF, i_eqT, i_eqF, j_ltlT, j_ltlF, j_ltrT, j_ltrF, j_lelT, j_lelF, j_lerT, j_lerF, j_eqlT, j_eqlF, j_ltT, j_ltF, j_leT, j_leF, j_eqT, j_eqF, i_mull, l_tn, l_lt0, l_ne0, nleF, tX11_isStockT, tX11_isStockF, tX11_isBinT, tX11_isBinF, tX11_isPlanT, tX11_isPlanF, tX11_isValveT, tX11_isValveF, tX11_isLaneT, tX11_isLaneF, tX11_isGridFormT, tX11_isGridFormF, tX11_isFormT, tX11_isFormF, tX11_isTrayFormT, tX11_isTrayFormF, tX11_isPlacesFormT, tX11_isPlacesFormF, tX11_isTableT, tX11_isTableF, tX11_isProbeT, tX11_isProbeF, tX11_isHouseT, tX11_isHouseF, tX11_isPestT, tX11_isPestF, tX11_isStageT, tX11_isStageF, tX11_isPartT, tX11_isPartF, tX12_isBinT, tX12_isBinF, tX12_isTableT, tX12_isTableF, tX12_inT, tX12_inF, tX12_innT, tX12_innF, tX12_ingT, tX12_ingF, tX12_isStageT, tX12_isStageF, tX1_isByteT, tX1_isByteF, m1, m2, m3, m5, e1, b93, d']
      · unfold loopS
        rw [ke]
        exact r2
