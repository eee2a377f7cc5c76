/-! ===== outcomes of new rows and places ===== -/
theorem out_row {G : Nat → Nat → Nat} {C : Nat → Int64} {N : Nat → Nat → Int32} {σ : Shp} {I : Nat → Nat → Int32} {J : Nat → Nat → Int64} {R : Nat → Nat → Option Nat} {b f z : Nat} (hS : Skel σ R) (hn : nxx σ + 3 ≤ 900000) (hs : GScal I) (hg : TSg G C N) (hc : TCl G C N σ I J R) (hm : TMo G C N I J) (hb : b < 16) (h4 : G 10 0 < 4000) (hf : f ≤ 7) (hz : z ≤ 40) (hz3 : f = 11 → z ≤ 4) : TOut (shR σ z 0) I (u2 (moR (u2 (u2 I 4 12 (I 4 12 + 1)) (nxx σ + 4) 0 (Int32.ofInt f)) (G 10 0) (G 10 1) f z) 115 b (Int32.ofInt ((G 10 0 : Int) + 1))) J J R (u2 (u2 (u2 R (nxx σ + 4) 1 (some (nxx σ + 4 + 1))) (nxx σ + 4) 2 (some (nxx σ + 4 + 2))) 6 b (some (nxx σ + 4))) := by
  have h198 := hS.1
  have k := cl_row (z := z) hS hn hg hc hf
  have a1 : Ag [(202, 1000000), (2000012, 2000013)] I (u2 (u2 I 4 12 (I 4 12 + 1)) (nxx σ + 4) 0 (Int32.ofInt f)) := Ag.st (Ag.st Ag.rf rfl) (far_in (by omega) (by omega) rfl)
  have m := mo_row (a := nxx σ + 4) (f := f) (z := z) hg (hm.kp (a1.kp rfl) Kp.rf) (by omega) hf
  have g := hg.new (N' := N) (a := nxx σ + 4) (f := f) (z := z) (k := 0) (d := 0) (l := 0) (q := 0) (fun _ _ _ => rfl) (by omega) (by omega) (by omega) (by omega) (by omega) (by omega) hz3 (by omega) (by omega) (by omega) (fun _ => ⟨rfl, rfl⟩) (fun _ r => by omega)
  have pe : pn (gNew G (nxx σ + 4) f z 0 0 0 0) (G 10 0 + 1) = some (nxx σ + 4) := by rw [pn_1 (by omega), gNa]
  have k2 := k.setB (b := b) (t := G 10 0 + 1) (by rw [shR_n]; omega)
  rw [pe] at k2
  have m2 := m.setB (b := b) (t := G 10 0 + 1)
  have ei : ((G 10 0 + 1 : Nat) : Int) = (G 10 0 : Int) + 1 := by omega
  rw [ei] at m2
  have a2 : Ag [(115, 116), (116, 117), (117, 118), (118, 119), (1000000, 1000001), (1000007, 1000008)] (u2 (u2 I 4 12 (I 4 12 + 1)) (nxx σ + 4) 0 (Int32.ofInt f)) (u2 (moR (u2 (u2 I 4 12 (I 4 12 + 1)) (nxx σ + 4) 0 (Int32.ofInt f)) (G 10 0) (G 10 1) f z) 115 b (Int32.ofInt ((G 10 0 : Int) + 1))) := Ag.st (Ag.st (Ag.st (Ag.st (Ag.st (Ag.st Ag.rf rfl) rfl) rfl) rfl) rfl) rfl
  refine ⟨?_, ⟨_, C, N, g.setB (by rw [gN0]; omega), k2.ag ⟨by rw [shR_n]; omega, by rw [shR_n]; omega⟩ a2 Ag.rf Ag.rf rfl, m2⟩, ?_, Ag.rf, ?_⟩
  · unfold moR
    have h12 := hc.1
    refine ⟨?_, ?_, ?_, ?_, ?_, ?_, ?_, ?_⟩
    · simp (disch := omega) only [u2n, u2s]; rw [h12, i_addl]
    · simp (disch := omega) only [u2n, u2s]; exact hs.e1
    · simp (disch := omega) only [u2n, u2s]; exact hs.e2
    · simp (disch := omega) only [u2n, u2s]; exact hs.e3
    · simp (disch := omega) only [u2n, u2s]; exact hs.e4
    · simp (disch := omega) only [u2n, u2s]; exact hs.e5
    · simp (disch := omega) only [u2n, u2s]; exact hs.e6
    · simp (disch := omega) only [u2n, u2s]; exact hs.e7
  · unfold moR
    exact Ag.st (Ag.st (Ag.st (Ag.st (Ag.st (Ag.st (Ag.st (Ag.st Ag.rf rfl) (far_in (by omega) (by omega) rfl)) rfl) rfl) rfl) rfl) rfl) rfl
  · exact Ag.st (Ag.st (Ag.st Ag.rf (far_in (by omega) (by omega) rfl)) (far_in (by omega) (by omega) rfl)) rfl
theorem out_pl {G : Nat → Nat → Nat} {C : Nat → Int64} {N : Nat → Nat → Int32} {σ : Shp} {I : Nat → Nat → Int32} {J : Nat → Nat → Int64} {R : Nat → Nat → Option Nat} {b f z : Nat} (hS : Skel σ R) (hn : nxx σ + 3 ≤ 900000) (hs : GScal I) (hg : TSg G C N) (hc : TCl G C N σ I J R) (hm : TMo G C N I J) (hb : b < 16) (h4 : G 10 0 < 4000) (hf : 8 ≤ f ∧ f ≤ 15) (hz : z ≤ 10) (hz3 : f = 11 → z ≤ 4) : TOut (shP σ z) I (u2 (moP (u2 (u2 I 4 12 (I 4 12 + 1)) (nxx σ + 4) 0 (Int32.ofInt f)) (G 10 0) (G 10 2) f z) 115 b (Int32.ofInt ((G 10 0 : Int) + 1))) J J R (u2 (u2 (u2 R (nxx σ + 4) 1 (some 0)) (nxx σ + 4) 2 (some (nxx σ + 4 + 1))) 6 b (some (nxx σ + 4))) := by
  have h198 := hS.1
  have k := cl_pl (z := z) hS hn hg hc hf
  have a1 : Ag [(202, 1000000), (2000012, 2000013)] I (u2 (u2 I 4 12 (I 4 12 + 1)) (nxx σ + 4) 0 (Int32.ofInt f)) := Ag.st (Ag.st Ag.rf rfl) (far_in (by omega) (by omega) rfl)
  have m := mo_pl (a := nxx σ + 4) (f := f) (z := z) hg (hm.kp (a1.kp rfl) Kp.rf) (by omega) hf
  have g := hg.new (N' := N) (a := nxx σ + 4) (f := f) (z := z) (k := 0) (d := 0) (l := 0) (q := 0) (fun _ _ _ => rfl) (by omega) (by omega) (by omega) (by omega) (by omega) (by omega) hz3 (by omega) (by omega) (by omega) (fun _ => ⟨rfl, rfl⟩) (fun _ r => by omega)
  have pe : pn (gNew G (nxx σ + 4) f z 0 0 0 0) (G 10 0 + 1) = some (nxx σ + 4) := by rw [pn_1 (by omega), gNa]
  have k2 := k.setB (b := b) (t := G 10 0 + 1) (by rw [shP_n]; omega)
  rw [pe] at k2
  have m2 := m.setB (b := b) (t := G 10 0 + 1)
  have ei : ((G 10 0 + 1 : Nat) : Int) = (G 10 0 : Int) + 1 := by omega
  rw [ei] at m2
  have a2 : Ag [(115, 116), (116, 117), (117, 118), (118, 119), (1000000, 1000001), (1000009, 1000010)] (u2 (u2 I 4 12 (I 4 12 + 1)) (nxx σ + 4) 0 (Int32.ofInt f)) (u2 (moP (u2 (u2 I 4 12 (I 4 12 + 1)) (nxx σ + 4) 0 (Int32.ofInt f)) (G 10 0) (G 10 2) f z) 115 b (Int32.ofInt ((G 10 0 : Int) + 1))) := Ag.st (Ag.st (Ag.st (Ag.st (Ag.st (Ag.st Ag.rf rfl) rfl) rfl) rfl) rfl) rfl
  refine ⟨?_, ⟨_, C, N, g.setB (by rw [gN0]; omega), k2.ag ⟨by rw [shP_n]; omega, by rw [shP_n]; omega⟩ a2 Ag.rf Ag.rf rfl, m2⟩, ?_, Ag.rf, ?_⟩
  · unfold moP
    have h12 := hc.1
    refine ⟨?_, ?_, ?_, ?_, ?_, ?_, ?_, ?_⟩
    · simp (disch := omega) only [u2n, u2s]; rw [h12, i_addl]
    · simp (disch := omega) only [u2n, u2s]; exact hs.e1
    · simp (disch := omega) only [u2n, u2s]; exact hs.e2
    · simp (disch := omega) only [u2n, u2s]; exact hs.e3
    · simp (disch := omega) only [u2n, u2s]; exact hs.e4
    · simp (disch := omega) only [u2n, u2s]; exact hs.e5
    · simp (disch := omega) only [u2n, u2s]; exact hs.e6
    · simp (disch := omega) only [u2n, u2s]; exact hs.e7
  · unfold moP
    exact Ag.st (Ag.st (Ag.st (Ag.st (Ag.st (Ag.st (Ag.st (Ag.st Ag.rf rfl) (far_in (by omega) (by omega) rfl)) rfl) rfl) rfl) rfl) rfl) rfl
  · exact Ag.st (Ag.st (Ag.st Ag.rf (far_in (by omega) (by omega) rfl)) (far_in (by omega) (by omega) rfl)) rfl
theorem full_eq {I : Nat → Nat → Int32} {m : Nat} (hs : GScal I) (h0 : I 114 0 = Int32.ofInt m) (hm : m ≤ 4050) : (gX11_isFull I = some 1 ∧ gX12_isFull I = some 1) ∨ (gX11_isFull I = some 0 ∧ gX12_isFull I = some 0 ∧ m < 4000) := by
  have e0 := hs.e0
  have e1 := hs.e1
  rw [h0] at e0
  obtain ⟨v, hv1, hv2, ev⟩ := rep (I 114 1)
  rw [ev] at e1
  unfold gX11_isFull gX12_isFull
  by_cases c1 : 3000 ≤ v
  · left
    simp (disch := omega) only [fail_r, no_r, nob_r, fI_o, Nat.reduceLeDiff, ↓reduceIte, not_true_eq_false, not_false_eq_true, false_imp_iff, true_imp_iff, and_true, true_and, and_self, implies_true, false_or, or_false, true_or, or_true, d10, d01, d00, d11, g_tn, Tot_some, Tot_none, Tot_ite, Tot_bind, ob_some, onl_n, onl_s, nat32, Int.toNat_natCast, i_add, i_sub, i_mul, i_addl, i_addr, i_subl, i_subr, i_mulr, i_addn, i_gd, i_tn, i_w, i_ltlT, i_ltlF, i_ltrT, i_ltrF, i_lelT, i_lelF, i_lerT, i_lerF, i_eqlT, i_eqlF, i_eqrT, i_eqrF, i_ltnT, i_ltnF, i_lenT, i_lenF, i_eqnT, i_eqnF, i_ltT, i_ltF, i_leT, i_leF, i_eqT, i_eqF, j_ltlT, j_ltlF, j_ltrT, j_ltrF, j_lelT, j_lelF, j_lerT, j_lerF, j_eqlT, j_eqlF, j_ltT, j_ltF, j_leT, j_leF, j_eqT, j_eqF, i_mull, l_tn, l_lt0, l_ne0, nleF, tX11_isStockT, tX11_isStockF, tX11_isBinT, tX11_isBinF, tX11_isPlanT, tX11_isPlanF, tX11_isValveT, tX11_isValveF, tX11_isLaneT, tX11_isLaneF, tX11_isGridFormT, tX11_isGridFormF, tX11_isFormT, tX11_isFormF, tX11_isTrayFormT, tX11_isTrayFormF, tX11_isPlacesFormT, tX11_isPlacesFormF, tX11_isTableT, tX11_isTableF, tX11_isProbeT, tX11_isProbeF, tX11_isHouseT, tX11_isHouseF, tX11_isPestT, tX11_isPestF, tX11_isStageT, tX11_isStageF, tX11_isPartT, tX11_isPartF, tX12_isBinT, tX12_isBinF, tX12_isTableT, tX12_isTableF, tX12_inT, tX12_inF, tX12_innT, tX12_innF, tX12_ingT, tX12_ingF, tX12_isStageT, tX12_isStageF, tX1_isByteT, tX1_isByteF, e0, e1, h0, ev]
  · by_cases c2 : m < 4000
    · right
      simp (disch := omega) only [fail_r, no_r, nob_r, fI_o, Nat.reduceLeDiff, ↓reduceIte, not_true_eq_false, not_false_eq_true, false_imp_iff, true_imp_iff, and_true, true_and, and_self, implies_true, false_or, or_false, true_or, or_true, d10, d01, d00, d11, g_tn, Tot_some, Tot_none, Tot_ite, Tot_bind, ob_some, onl_n, onl_s, nat32, Int.toNat_natCast, i_add, i_sub, i_mul, i_addl, i_addr, i_subl, i_subr, i_mulr, i_addn, i_gd, i_tn, i_w, i_ltlT, i_ltlF, i_ltrT, i_ltrF, i_lelT, i_lelF, i_lerT, i_lerF, i_eqlT, i_eqlF, i_eqrT, i_eqrF, i_ltnT, i_ltnF, i_lenT, i_lenF, i_eqnT, i_eqnF, i_ltT, i_ltF, i_leT, i_leF, i_eqT, i_eqF, j_ltlT, j_ltlF, j_ltrT, j_ltrF, j_lelT, j_lelF, j_lerT, j_lerF, j_eqlT, j_eqlF, j_ltT, j_ltF, j_leT, j_leF, j_eqT, j_eqF, i_mull, l_tn, l_lt0, l_ne0, nleF, tX11_isStockT, tX11_isStockF, tX11_isBinT, tX11_isBinF, tX11_isPlanT, tX11_isPlanF, tX11_isValveT, tX11_isValveF, tX11_isLaneT, tX11_isLaneF, tX11_isGridFormT, tX11_isGridFormF, tX11_isFormT, tX11_isFormF, tX11_isTrayFormT, tX11_isTrayFormF, tX11_isPlacesFormT, tX11_isPlacesFormF, tX11_isTableT, tX11_isTableF, tX11_isProbeT, tX11_isProbeF, tX11_isHouseT, tX11_isHouseF, tX11_isPestT, tX11_isPestF, tX11_isStageT, tX11_isStageF, tX11_isPartT, tX11_isPartF, tX12_isBinT, tX12_isBinF, tX12_isTableT, tX12_isTableF, tX12_inT, tX12_inF, tX12_innT, tX12_innF, tX12_ingT, tX12_ingF, tX12_isStageT, tX12_isStageF, tX1_isByteT, tX1_isByteF, e0, e1, h0, ev]
      exact c2
    · left
      simp (disch := omega) only [fail_r, no_r, nob_r, fI_o, Nat.reduceLeDiff, ↓reduceIte, not_true_eq_false, not_false_eq_true, false_imp_iff, true_imp_iff, and_true, true_and, and_self, implies_true, false_or, or_false, true_or, or_true, d10, d01, d00, d11, g_tn, Tot_some, Tot_none, Tot_ite, Tot_bind, ob_some, onl_n, onl_s, nat32, Int.toNat_natCast, i_add, i_sub, i_mul, i_addl, i_addr, i_subl, i_subr, i_mulr, i_addn, i_gd, i_tn, i_w, i_ltlT, i_ltlF, i_ltrT, i_ltrF, i_lelT, i_lelF, i_lerT, i_lerF, i_eqlT, i_eqlF, i_eqrT, i_eqrF, i_ltnT, i_ltnF, i_lenT, i_lenF, i_eqnT, i_eqnF, i_ltT, i_ltF, i_leT, i_leF, i_eqT, i_eqF, j_ltlT, j_ltlF, j_ltrT, j_ltrF, j_lelT, j_lelF, j_lerT, j_lerF, j_eqlT, j_eqlF, j_ltT, j_ltF, j_leT, j_leF, j_eqT, j_eqF, i_mull, l_tn, l_lt0, l_ne0, nleF, tX11_isStockT, tX11_isStockF, tX11_isBinT, tX11_isBinF, tX11_isPlanT, tX11_isPlanF, tX11_isValveT, tX11_isValveF, tX11_isLaneT, tX11_isLaneF, tX11_isGridFormT, tX11_isGridFormF, tX11_isFormT, tX11_isFormF, tX11_isTrayFormT, tX11_isTrayFormF, tX11_isPlacesFormT, tX11_isPlacesFormF, tX11_isTableT, tX11_isTableF, tX11_isProbeT, tX11_isProbeF, tX11_isHouseT, tX11_isHouseF, tX11_isPestT, tX11_isPestF, tX11_isStageT, tX11_isStageF, tX11_isPartT, tX11_isPartF, tX12_isBinT, tX12_isBinF, tX12_isTableT, tX12_isTableF, tX12_inT, tX12_inF, tX12_innT, tX12_innF, tX12_ingT, tX12_ingF, tX12_isStageT, tX12_isStageF, tX1_isByteT, tX1_isByteF, e0, e1, h0, ev]
theorem full_o {I I' : Nat → Nat → Int32} (h1 : I' 114 1 = I 114 1) (h0 : I' 114 0 = I 114 0) : gX12_isFull I' = gX12_isFull I := by
  unfold gX12_isFull; rw [h1, h0]
