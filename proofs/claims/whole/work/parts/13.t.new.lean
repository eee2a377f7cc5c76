/-! ===== new rows and places: the model; row, storeys, tray ===== -/
def moR (I : Nat → Nat → Int32) (m c f z : Nat) : Nat → Nat → Int32 := u2 (u2 (u2 (u2 (u2 I 114 0 (Int32.ofInt ((m : Int) + 1))) 116 (m + 1) (Int32.ofInt f)) 117 (m + 1) (Int32.ofInt z)) 118 (m + 1) (Int32.ofInt c)) 114 7 (Int32.ofInt ((c : Int) + z))
def moP (I : Nat → Nat → Int32) (m c f z : Nat) : Nat → Nat → Int32 := u2 (u2 (u2 (u2 (u2 I 114 0 (Int32.ofInt ((m : Int) + 1))) 116 (m + 1) (Int32.ofInt f)) 117 (m + 1) (Int32.ofInt z)) 118 (m + 1) (Int32.ofInt c)) 114 9 (Int32.ofInt ((c : Int) + z))
theorem mrow_r {I : Nat → Nat → Int32} {m c f z : Nat} (h0 : I 114 0 = Int32.ofInt m) (h7 : I 114 7 = Int32.ofInt c) (hm : m < 4099) (hf : f ≤ 17) (hz : z ≤ 40) : gX12_newRow I (Int32.ofInt f) (Int32.ofInt z) = some (moR I m c f z, Int32.ofInt ((m : Int) + 1)) := by
  have s1 := s8 (t := (f : Int)) (by omega)
  have s2 := s8 (t := (z : Int)) (by omega)
  have e : ((m : Int) + 1).toNat = m + 1 := by omega
  unfold gX12_newRow gX12_thing
  simp (disch := omega) only [fail_r, no_r, nob_r, fI_o, Nat.reduceLeDiff, ↓reduceIte, not_true_eq_false, not_false_eq_true, false_imp_iff, true_imp_iff, and_true, true_and, and_self, implies_true, false_or, or_false, true_or, or_true, d10, d01, d00, d11, g_tn, Tot_some, Tot_none, Tot_ite, Tot_bind, ob_some, onl_n, onl_s, nat32, Int.toNat_natCast, i_add, i_sub, i_mul, i_addl, i_addr, i_subl, i_subr, i_mulr, i_addn, i_gd, i_tn, i_w, i_ltlT, i_ltlF, i_ltrT, i_ltrF, i_lelT, i_lelF, i_lerT, i_lerF, i_eqlT, i_eqlF, i_eqrT, i_eqrF, i_ltnT, i_ltnF, i_lenT, i_lenF, i_eqnT, i_eqnF, i_ltT, i_ltF, i_leT, i_leF, i_eqT, i_eqF, j_ltlT, j_ltlF, j_ltrT, j_ltrF, j_lelT, j_lelF, j_lerT, j_lerF, j_eqlT, j_eqlF, j_ltT, j_ltF, j_leT, j_leF, j_eqT, j_eqF, i_mull, l_tn, l_lt0, l_ne0, nleF, tX11_isStockT, tX11_isStockF, tX11_isBinT, tX11_isBinF, tX11_isPlanT, tX11_isPlanF, tX11_isValveT, tX11_isValveF, tX11_isLaneT, tX11_isLaneF, tX11_isGridFormT, tX11_isGridFormF, tX11_isFormT, tX11_isFormF, tX11_isTrayFormT, tX11_isTrayFormF, tX11_isPlacesFormT, tX11_isPlacesFormF, tX11_isTableT, tX11_isTableF, tX11_isProbeT, tX11_isProbeF, tX11_isHouseT, tX11_isHouseF, tX11_isPestT, tX11_isPestF, tX11_isStageT, tX11_isStageF, tX11_isPartT, tX11_isPartF, tX12_isBinT, tX12_isBinF, tX12_isTableT, tX12_isTableF, tX12_inT, tX12_inF, tX12_innT, tX12_innF, tX12_ingT, tX12_ingF, tX12_isStageT, tX12_isStageF, tX1_isByteT, tX1_isByteF, h0, h7, s1, s2, u2n, u2s, e]
  rfl
theorem mpl_r {I : Nat → Nat → Int32} {m c f z : Nat} (h0 : I 114 0 = Int32.ofInt m) (h9 : I 114 9 = Int32.ofInt c) (hm : m < 4099) (hf : f ≤ 17) (hz : z ≤ 40) : gX12_newPlaces I (Int32.ofInt f) (Int32.ofInt z) = some (moP I m c f z, Int32.ofInt ((m : Int) + 1)) := by
  have s1 := s8 (t := (f : Int)) (by omega)
  have s2 := s8 (t := (z : Int)) (by omega)
  have e : ((m : Int) + 1).toNat = m + 1 := by omega
  unfold gX12_newPlaces gX12_thing
  simp (disch := omega) only [fail_r, no_r, nob_r, fI_o, Nat.reduceLeDiff, ↓reduceIte, not_true_eq_false, not_false_eq_true, false_imp_iff, true_imp_iff, and_true, true_and, and_self, implies_true, false_or, or_false, true_or, or_true, d10, d01, d00, d11, g_tn, Tot_some, Tot_none, Tot_ite, Tot_bind, ob_some, onl_n, onl_s, nat32, Int.toNat_natCast, i_add, i_sub, i_mul, i_addl, i_addr, i_subl, i_subr, i_mulr, i_addn, i_gd, i_tn, i_w, i_ltlT, i_ltlF, i_ltrT, i_ltrF, i_lelT, i_lelF, i_lerT, i_lerF, i_eqlT, i_eqlF, i_eqrT, i_eqrF, i_ltnT, i_ltnF, i_lenT, i_lenF, i_eqnT, i_eqnF, i_ltT, i_ltF, i_leT, i_leF, i_eqT, i_eqF, j_ltlT, j_ltlF, j_ltrT, j_ltrF, j_lelT, j_lelF, j_lerT, j_lerF, j_eqlT, j_eqlF, j_ltT, j_ltF, j_leT, j_leF, j_eqT, j_eqF, i_mull, l_tn, l_lt0, l_ne0, nleF, tX11_isStockT, tX11_isStockF, tX11_isBinT, tX11_isBinF, tX11_isPlanT, tX11_isPlanF, tX11_isValveT, tX11_isValveF, tX11_isLaneT, tX11_isLaneF, tX11_isGridFormT, tX11_isGridFormF, tX11_isFormT, tX11_isFormF, tX11_isTrayFormT, tX11_isTrayFormF, tX11_isPlacesFormT, tX11_isPlacesFormF, tX11_isTableT, tX11_isTableF, tX11_isProbeT, tX11_isProbeF, tX11_isHouseT, tX11_isHouseF, tX11_isPestT, tX11_isPestF, tX11_isStageT, tX11_isStageF, tX11_isPartT, tX11_isPartF, tX12_isBinT, tX12_isBinF, tX12_isTableT, tX12_isTableF, tX12_inT, tX12_inF, tX12_innT, tX12_innF, tX12_ingT, tX12_ingF, tX12_isStageT, tX12_isStageF, tX1_isByteT, tX1_isByteF, h0, h9, s1, s2, u2n, u2s, e]
  rfl
theorem mo_row {G : Nat → Nat → Nat} {C : Nat → Int64} {N : Nat → Nat → Int32} {I : Nat → Nat → Int32} {J : Nat → Nat → Int64} {a f z : Nat} (hg : TSg G C N) (h : TMo G C N I J) (hm : G 10 0 < 4099) (hf : f ≤ 7) : TMo (gNew G a f z 0 0 0 0) C N (moR I (G 10 0) (G 10 1) f z) J := by
  have en : nC f z = z := if_pos hf
  have e2 : (if 8 ≤ f ∧ f ≤ 15 then z else 0) = 0 := if_neg (by omega)
  have e3 : (if f = 16 then G 3 (G 10 0 + 1) else if 8 ≤ f ∧ f ≤ 15 then G 10 2 else G 10 1) = G 10 1 := by rw [if_neg (by omega), if_neg (by omega)]
  have zN := hg.2.2.2.2.1 (G 10 0 + 1) (Or.inr (by omega))
  obtain ⟨n1, n2, n3, n4, n5, n6, n7, n8, n9, n10, n11⟩ := h.2.2.1 (G 10 0 + 1) (by omega)
  obtain ⟨z5, z6, z7, z8, z4, zb, zc, zd⟩ := zN
  unfold moR
  refine h.new (fun _ _ _ => rfl) ⟨?_, ?_, ?_⟩ (fun b => ?_) (fun b => ?_) (fun t ht hh => ?_) ⟨?_, ?_, ?_, ?_, ?_, ?_, ?_, ?_, ?_, ?_, ?_⟩
  · simp (disch := omega) only [u2n, u2s]; rfl
  · rw [en]; simp (disch := omega) only [u2n, u2s]; rfl
  · rw [e2]; simp (disch := omega) only [u2n, u2s]; exact h.1.2.2
  · simp (disch := omega) only [u2n, u2s]
  · simp (disch := omega) only [u2n, u2s]
  · unfold TMt at hh ⊢
    simp (disch := omega) only [u2n, u2s]; exact hh
  · simp (disch := omega) only [u2n, u2s]
  · simp (disch := omega) only [u2n, u2s]
  · rw [e3]; simp (disch := omega) only [u2n, u2s]
  · simp (disch := omega) only [u2n, u2s]; exact n4
  · simp (disch := omega) only [u2n, u2s]; rw [n5, z7]
  · simp (disch := omega) only [u2n, u2s]; exact n6
  · simp (disch := omega) only [u2n, u2s]; exact n7
  · simp (disch := omega) only [u2n, u2s]; rw [n8, z5]
  · simp (disch := omega) only [u2n, u2s]; rw [n9, z6]
  · simp (disch := omega) only [u2n, u2s]; rw [n10, z8]
  · simp (disch := omega) only [u2n, u2s]; exact n11
theorem mo_pl {G : Nat → Nat → Nat} {C : Nat → Int64} {N : Nat → Nat → Int32} {I : Nat → Nat → Int32} {J : Nat → Nat → Int64} {a f z : Nat} (hg : TSg G C N) (h : TMo G C N I J) (hm : G 10 0 < 4099) (hf : 8 ≤ f ∧ f ≤ 15) : TMo (gNew G a f z 0 0 0 0) C N (moP I (G 10 0) (G 10 2) f z) J := by
  have en : nC f z = 0 := by unfold nC; rw [if_neg (by omega), if_neg (by omega)]
  have e2 : (if 8 ≤ f ∧ f ≤ 15 then z else 0) = z := if_pos hf
  have e3 : (if f = 16 then G 3 (G 10 0 + 1) else if 8 ≤ f ∧ f ≤ 15 then G 10 2 else G 10 1) = G 10 2 := by rw [if_neg (by omega), if_pos hf]
  have zN := hg.2.2.2.2.1 (G 10 0 + 1) (Or.inr (by omega))
  obtain ⟨n1, n2, n3, n4, n5, n6, n7, n8, n9, n10, n11⟩ := h.2.2.1 (G 10 0 + 1) (by omega)
  obtain ⟨z5, z6, z7, z8, z4, zb, zc, zd⟩ := zN
  unfold moP
  refine h.new (fun _ _ _ => rfl) ⟨?_, ?_, ?_⟩ (fun b => ?_) (fun b => ?_) (fun t ht hh => ?_) ⟨?_, ?_, ?_, ?_, ?_, ?_, ?_, ?_, ?_, ?_, ?_⟩
  · simp (disch := omega) only [u2n, u2s]; rfl
  · rw [en]; simp (disch := omega) only [u2n, u2s]; exact h.1.2.1
  · rw [e2]; simp (disch := omega) only [u2n, u2s]; rfl
  · simp (disch := omega) only [u2n, u2s]
  · simp (disch := omega) only [u2n, u2s]
  · unfold TMt at hh ⊢
    simp (disch := omega) only [u2n, u2s]; exact hh
  · simp (disch := omega) only [u2n, u2s]
  · simp (disch := omega) only [u2n, u2s]
  · rw [e3]; simp (disch := omega) only [u2n, u2s]
  · simp (disch := omega) only [u2n, u2s]; exact n4
  · simp (disch := omega) only [u2n, u2s]; rw [n5, z7]
  · simp (disch := omega) only [u2n, u2s]; exact n6
  · simp (disch := omega) only [u2n, u2s]; exact n7
  · simp (disch := omega) only [u2n, u2s]; rw [n8, z5]
  · simp (disch := omega) only [u2n, u2s]; rw [n9, z6]
  · simp (disch := omega) only [u2n, u2s]; rw [n10, z8]
  · simp (disch := omega) only [u2n, u2s]; exact n11
