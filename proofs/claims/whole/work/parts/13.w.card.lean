/-! ===== card ===== -/
def clC (I : Nat → Nat → Int32) (a : Nat) : Nat → Nat → Int32 := u2 (u2 (u2 (u2 I 4 12 (I 4 12 + 1)) a 0 17) a 4 (I 4 16)) 4 16 (I 4 16 + 1)
def moC (I : Nat → Nat → Int32) (m c : Nat) : Nat → Nat → Int32 := u2 (u2 (u2 (u2 (u2 (u2 (u2 I 114 0 (Int32.ofInt ((m : Int) + 1))) 116 (m + 1) 17) 117 (m + 1) 0) 118 (m + 1) (Int32.ofInt c)) 114 7 (Int32.ofInt ((c : Int) + 8))) 121 (m + 1) (I 114 19)) 114 19 (I 114 19 + 1)
theorem newCard_r {σ : Shp} {I : Nat → Nat → Int32} {R : Nat → Nat → Option Nat} (h198 : 198 ≤ nxx σ) : gX11_newCard σ I R = some (shR σ 8 2, clC I (nxx σ + 4), u2 (u2 R (nxx σ + 4) 1 (some (nxx σ + 4 + 1))) (nxx σ + 4) 2 (some (nxx σ + 4 + 2)), some (nxx σ + 4)) := by
  have h2 : kdx (mkA (mkA (mkO σ 11 9) 21 8) 26 2) (nxx σ + 4) = 11 := by
    show kdx (shR σ 8 2) (nxx σ + 4) = 11
    rw [shR_k, if_neg (by omega), if_neg (by omega), if_pos rfl]
  unfold gX11_newCard gX11_newCard_b13 gX11_newCard_b20 gX11_newCard_b24 gX10_init
  simp (disch := omega) only [fail_r, no_r, nob_r, fI_o, Nat.reduceLeDiff, ↓reduceIte, not_true_eq_false, not_false_eq_true, false_imp_iff, true_imp_iff, and_true, true_and, and_self, implies_true, false_or, or_false, true_or, or_true, d10, d01, d00, d11, g_tn, Tot_some, Tot_none, Tot_ite, Tot_bind, ob_some, onl_n, onl_s, nat32, Int.toNat_natCast, i_add, i_sub, i_mul, i_addl, i_addr, i_subl, i_subr, i_mulr, i_addn, i_gd, i_tn, i_w, i_ltlT, i_ltlF, i_ltrT, i_ltrF, i_lelT, i_lelF, i_lerT, i_lerF, i_eqlT, i_eqlF, i_eqrT, i_eqrF, i_ltnT, i_ltnF, i_lenT, i_lenF, i_eqnT, i_eqnF, i_ltT, i_ltF, i_leT, i_leF, i_eqT, i_eqF, j_ltlT, j_ltlF, j_ltrT, j_ltrF, j_lelT, j_lelF, j_lerT, j_lerF, j_eqlT, j_eqlF, j_ltT, j_ltF, j_leT, j_leF, j_eqT, j_eqF, i_mull, l_tn, l_lt0, l_ne0, nleF, tX11_isStockT, tX11_isStockF, tX11_isBinT, tX11_isBinF, tX11_isPlanT, tX11_isPlanF, tX11_isValveT, tX11_isValveF, tX11_isLaneT, tX11_isLaneF, tX11_isGridFormT, tX11_isGridFormF, tX11_isFormT, tX11_isFormF, tX11_isTrayFormT, tX11_isTrayFormF, tX11_isPlacesFormT, tX11_isPlacesFormF, tX11_isTableT, tX11_isTableF, tX11_isProbeT, tX11_isProbeF, tX11_isHouseT, tX11_isHouseF, tX11_isPestT, tX11_isPestF, tX11_isStageT, tX11_isStageF, tX11_isPartT, tX11_isPartF, tX12_isBinT, tX12_isBinF, tX12_isTableT, tX12_isTableF, tX12_inT, tX12_inF, tX12_innT, tX12_innF, tX12_ingT, tX12_ingF, tX12_isStageT, tX12_isStageF, tX1_isByteT, tX1_isByteF, h2, q_nA, q_nO, u2n]
  rfl
theorem mcard_r {I : Nat → Nat → Int32} {m c : Nat} (h0 : I 114 0 = Int32.ofInt m) (h7 : I 114 7 = Int32.ofInt c) (hm : m < 4099) : gX12_newCard I = some (moC I m c, Int32.ofInt ((m : Int) + 1)) := by
  have s1 : (Int32.toInt8 ((Int32.toInt8 17).toInt32)).toInt32 = 17 := by decide
  have s2 : (Int32.toInt8 ((Int32.toInt8 0).toInt32)).toInt32 = 0 := by decide
  have e : ((m : Int) + 1).toNat = m + 1 := by omega
  unfold gX12_newCard gX12_thing
  simp (disch := omega) only [fail_r, no_r, nob_r, fI_o, Nat.reduceLeDiff, ↓reduceIte, not_true_eq_false, not_false_eq_true, false_imp_iff, true_imp_iff, and_true, true_and, and_self, implies_true, false_or, or_false, true_or, or_true, d10, d01, d00, d11, g_tn, Tot_some, Tot_none, Tot_ite, Tot_bind, ob_some, onl_n, onl_s, nat32, Int.toNat_natCast, i_add, i_sub, i_mul, i_addl, i_addr, i_subl, i_subr, i_mulr, i_addn, i_gd, i_tn, i_w, i_ltlT, i_ltlF, i_ltrT, i_ltrF, i_lelT, i_lelF, i_lerT, i_lerF, i_eqlT, i_eqlF, i_eqrT, i_eqrF, i_ltnT, i_ltnF, i_lenT, i_lenF, i_eqnT, i_eqnF, i_ltT, i_ltF, i_leT, i_leF, i_eqT, i_eqF, j_ltlT, j_ltlF, j_ltrT, j_ltrF, j_lelT, j_lelF, j_lerT, j_lerF, j_eqlT, j_eqlF, j_ltT, j_ltF, j_leT, j_leF, j_eqT, j_eqF, i_mull, l_tn, l_lt0, l_ne0, nleF, tX11_isStockT, tX11_isStockF, tX11_isBinT, tX11_isBinF, tX11_isPlanT, tX11_isPlanF, tX11_isValveT, tX11_isValveF, tX11_isLaneT, tX11_isLaneF, tX11_isGridFormT, tX11_isGridFormF, tX11_isFormT, tX11_isFormF, tX11_isTrayFormT, tX11_isTrayFormF, tX11_isPlacesFormT, tX11_isPlacesFormF, tX11_isTableT, tX11_isTableF, tX11_isProbeT, tX11_isProbeF, tX11_isHouseT, tX11_isHouseF, tX11_isPestT, tX11_isPestF, tX11_isStageT, tX11_isStageF, tX11_isPartT, tX11_isPartF, tX12_isBinT, tX12_isBinF, tX12_isTableT, tX12_isTableF, tX12_inT, tX12_inF, tX12_innT, tX12_innF, tX12_ingT, tX12_ingF, tX12_isStageT, tX12_isStageF, tX1_isByteT, tX1_isByteF, h0, h7, s1, s2, u2n, u2s, e]
  rfl
theorem cl_card {G : Nat → Nat → Nat} {C : Nat → Int64} {N : Nat → Nat → Int32} {σ : Shp} {I : Nat → Nat → Int32} {J : Nat → Nat → Int64} {R : Nat → Nat → Option Nat} (hS : Skel σ R) (hn : nxx σ + 3 ≤ 900000) (hg : TSg G C N) (hc : TCl G C N σ I J R) : TCl (gNew G (nxx σ + 4) 17 0 0 0 0 0) C (u2 N 4 (G 10 0 + 1) (I 4 16)) (shR σ 8 2) (clC I (nxx σ + 4)) J (u2 (u2 R (nxx σ + 4) 1 (some (nxx σ + 4 + 1))) (nxx σ + 4) 2 (some (nxx σ + 4 + 2))) := by
  have eC : cC 17 (nxx σ + 4) = nxx σ + 4 + 1 := rfl
  have eP : cP 17 (nxx σ + 4) = nxx σ + 4 + 2 := rfl
  have eW : cW 17 = 3 := rfl
  have en : nC 17 0 = 8 := rfl
  have ep : nP 17 0 0 = 2 := rfl
  have h198 := hS.1
  have fr := hc.2.2.2.2
  have fa := fr (nxx σ + 4) (by omega) (by omega)
  have zN := hg.2.2.2.2.1 (G 10 0 + 1) (Or.inr (by omega))
  unfold clC
  refine TCl.new hg hc (fun x t ht => u2n (by omega)) ⟨h198, ?_⟩ ?_ (fun b hb => ?_) ?_ ?_ ?_ (fun b hb1 hb2 => ?_) ?_ (fun b h1 h2 h3 => ?_) ?_ ?_ (fun b h1 h2 h3 h4 => ?_) ?_ (fun r => ?_) (fun r1 r2 => by omega) (by omega) (by omega)
  · rw [shR_n]; omega
  · rw [shR_n, eW]
  · rw [shR_k, shR_l, if_neg (by omega), if_neg (by omega), if_neg (by omega), if_neg (by omega), if_neg (by omega)]
    exact ⟨rfl, rfl⟩
  · rw [shR_k, if_neg (by omega), if_neg (by omega), if_pos rfl]
  · rw [eC, en, shR_k, shR_l, if_neg (by omega), if_pos (by omega), if_neg (by omega), if_pos (by omega)]
    exact ⟨rfl, rfl⟩
  · rw [eP, ep, shR_k, shR_l, if_pos (by omega), if_pos (by omega)]
    exact ⟨rfl, rfl⟩
  · rw [shR_n] at hb1
    rw [shR_k, if_neg (by omega), if_neg (by omega), if_neg (by omega)]
    exact (fr b (by omega) hb2).1
  · simp (disch := omega) only [u2n, u2s]; rw [hc.1, i_addl]; rfl
  · funext j
    simp (disch := omega) only [u2n, u2s]
  · obtain ⟨z5, z6, z7, z8, z4, zb, zc, zd⟩ := zN
    have zd := zd (by omega)
    refine ⟨?_, ?_, ?_, ?_, ?_, ?_, ?_⟩
    · simp (disch := omega) only [u2n, u2s]; rfl
    · simp (disch := omega) only [u2n, u2s]; exact (fa.2 3).1
    · simp (disch := omega) only [u2n, u2s]
    · simp (disch := omega) only [u2n, u2s]; rw [zb]; exact (fa.2 5).1
    · simp (disch := omega) only [u2n, u2s]; rw [zc]; exact (fa.2 6).1
    · simp (disch := omega) only [u2n, u2s]; exact (fa.2 7).1
    · simp (disch := omega) only [u2n, u2s]; rw [zd]; exact (fa.2 8).1
  · funext j
    simp (disch := omega) only [u2n, u2s]
  · funext j
    simp (disch := omega) only [u2n, u2s]
  · rw [eC, eP]
    refine ⟨?_, ?_⟩
    · simp (disch := omega) only [u2n, u2s]
    · simp (disch := omega) only [u2n, u2s]
  · rw [eP]
    have fb := fr (nxx σ + 4 + 2) (by omega) (by omega)
    refine ⟨?_, ?_⟩
    · simp (disch := omega) only [u2n, u2s]; exact (fb.2 0).2.2
    · simp (disch := omega) only [u2n, u2s]; exact (fb.2 1).2.2
theorem mo_card {G : Nat → Nat → Nat} {C : Nat → Int64} {N : Nat → Nat → Int32} {I : Nat → Nat → Int32} {J : Nat → Nat → Int64} {a : Nat} (hg : TSg G C N) (h : TMo G C N I J) (hm : G 10 0 < 4099) : TMo (gNew G a 17 0 0 0 0 0) C (u2 N 4 (G 10 0 + 1) (I 114 19)) (moC I (G 10 0) (G 10 1)) J := by
  have zN := hg.2.2.2.2.1 (G 10 0 + 1) (Or.inr (by omega))
  obtain ⟨n1, n2, n3, n4, n5, n6, n7, n8, n9, n10, n11⟩ := h.2.2.1 (G 10 0 + 1) (by omega)
  obtain ⟨z5, z6, z7, z8, z4, zb, zc, zd⟩ := zN
  unfold moC
  refine h.new (fun x t ht => u2n (by omega)) ⟨?_, ?_, ?_⟩ (fun b => ?_) (fun b => ?_) (fun t ht hh => ?_) ⟨?_, ?_, ?_, ?_, ?_, ?_, ?_, ?_, ?_, ?_, ?_⟩
  · simp (disch := omega) only [u2n, u2s]; rfl
  · simp (disch := omega) only [u2n, u2s]; rfl
  · simp (disch := omega) only [u2n, u2s]; exact h.1.2.2
  · simp (disch := omega) only [u2n, u2s]
  · simp (disch := omega) only [u2n, u2s]
  · unfold TMt at hh ⊢
    simp (disch := omega) only [u2n, u2s]; exact hh
  · simp (disch := omega) only [u2n, u2s]; rfl
  · simp (disch := omega) only [u2n, u2s]; rfl
  · simp (disch := omega) only [u2n, u2s]; rfl
  · simp (disch := omega) only [u2n, u2s]
  · simp (disch := omega) only [u2n, u2s]; rw [n5, z7]
  · simp (disch := omega) only [u2n, u2s]; exact n6
  · simp (disch := omega) only [u2n, u2s]; exact n7
  · simp (disch := omega) only [u2n, u2s]; rw [n8, z5]
  · simp (disch := omega) only [u2n, u2s]; rw [n9, z6]
  · simp (disch := omega) only [u2n, u2s]; rw [n10, z8]
  · simp (disch := omega) only [u2n, u2s]; exact n11
