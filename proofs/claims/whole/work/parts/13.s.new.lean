/-! ===== new rows, places, cards ===== -/
theorem q_kO {σ : Shp} {t n b : Nat} : kdx (mkO σ t n) b = if b = nxx σ + 4 then t else kdx σ b := rfl
theorem q_kA {σ : Shp} {t n b : Nat} : kdx (mkA σ t n) b = if b = nxx σ + 4 then t else kdx σ b := rfl
theorem q_lO {σ : Shp} {t n b : Nat} : lnx (mkO σ t n) b = lnx σ b := rfl
theorem q_lA {σ : Shp} {t n b : Nat} : lnx (mkA σ t n) b = if b = nxx σ + 4 then n else lnx σ b := rfl
theorem q_nO {σ : Shp} {t n : Nat} : nxx (mkO σ t n) = nxx σ + 1 := rfl
theorem q_nA {σ : Shp} {t n : Nat} : nxx (mkA σ t n) = nxx σ + 1 := rfl
theorem q_sO {σ : Shp} {t n : Nat} : slx (mkO σ t n) = slx σ + n := rfl
theorem q_sA {σ : Shp} {t n : Nat} : slx (mkA σ t n) = slx σ + n := rfl
/-- the shapes -/
def shR (σ : Shp) (z w : Nat) : Shp := mkA (mkA (mkO σ 11 9) 21 z) 26 w
def shP (σ : Shp) (z : Nat) : Shp := mkA (mkO σ 11 9) 26 z
theorem shR_k {σ : Shp} {z w b : Nat} : kdx (shR σ z w) b = if b = nxx σ + 6 then 26 else if b = nxx σ + 5 then 21 else if b = nxx σ + 4 then 11 else kdx σ b := rfl
theorem shR_l {σ : Shp} {z w b : Nat} : lnx (shR σ z w) b = if b = nxx σ + 6 then w else if b = nxx σ + 5 then z else lnx σ b := rfl
theorem shP_k {σ : Shp} {z b : Nat} : kdx (shP σ z) b = if b = nxx σ + 5 then 26 else if b = nxx σ + 4 then 11 else kdx σ b := rfl
theorem shP_l {σ : Shp} {z b : Nat} : lnx (shP σ z) b = if b = nxx σ + 5 then z else lnx σ b := rfl
theorem shR_n {σ : Shp} {z w : Nat} : nxx (shR σ z w) = nxx σ + 3 := rfl
theorem shP_n {σ : Shp} {z : Nat} : nxx (shP σ z) = nxx σ + 2 := rfl
theorem shR_s {σ : Shp} {z w : Nat} : slx (shR σ z w) = slx σ + 9 + z + w := rfl
theorem shP_s {σ : Shp} {z : Nat} : slx (shP σ z) = slx σ + 9 + z := rfl
theorem newRow_r {σ : Shp} {I : Nat → Nat → Int32} {R : Nat → Nat → Option Nat} {x : Int32} {z : Nat} (hz : z ≤ 40) : gX11_newRow σ I R x (Int32.ofInt z) = some (shR σ z 0, u2 (u2 I 4 12 (I 4 12 + 1)) (nxx σ + 4) 0 x, u2 (u2 R (nxx σ + 4) 1 (some (nxx σ + 4 + 1))) (nxx σ + 4) 2 (some (nxx σ + 4 + 2)), some (nxx σ + 4)) := by
  have h1 : z ≤ 1000000 := by omega
  have h2 : kdx (mkA (mkA (mkO σ 11 9) 21 z) 26 0) (nxx σ + 4) = 11 := by
    show kdx (shR σ z 0) (nxx σ + 4) = 11
    rw [shR_k, if_neg (by omega), if_neg (by omega), if_pos rfl]
  unfold gX11_newRow gX11_newRow_b13 gX11_newRow_b26 gX11_newRow_b30 gX10_init
  simp (disch := omega) only [fail_r, no_r, nob_r, fI_o, Nat.reduceLeDiff, ↓reduceIte, not_true_eq_false, not_false_eq_true, false_imp_iff, true_imp_iff, and_true, true_and, and_self, implies_true, false_or, or_false, true_or, or_true, d10, d01, d00, d11, g_tn, Tot_some, Tot_none, Tot_ite, Tot_bind, ob_some, onl_n, onl_s, nat32, Int.toNat_natCast, i_add, i_sub, i_mul, i_addl, i_addr, i_subl, i_subr, i_mulr, i_addn, i_gd, i_tn, i_w, i_ltlT, i_ltlF, i_ltrT, i_ltrF, i_lelT, i_lelF, i_lerT, i_lerF, i_eqlT, i_eqlF, i_eqrT, i_eqrF, i_ltnT, i_ltnF, i_lenT, i_lenF, i_eqnT, i_eqnF, i_ltT, i_ltF, i_leT, i_leF, i_eqT, i_eqF, j_ltlT, j_ltlF, j_ltrT, j_ltrF, j_lelT, j_lelF, j_lerT, j_lerF, j_eqlT, j_eqlF, j_ltT, j_ltF, j_leT, j_leF, j_eqT, j_eqF, i_mull, l_tn, l_lt0, l_ne0, nleF, tX11_isStockT, tX11_isStockF, tX11_isBinT, tX11_isBinF, tX11_isPlanT, tX11_isPlanF, tX11_isValveT, tX11_isValveF, tX11_isLaneT, tX11_isLaneF, tX11_isGridFormT, tX11_isGridFormF, tX11_isFormT, tX11_isFormF, tX11_isTrayFormT, tX11_isTrayFormF, tX11_isPlacesFormT, tX11_isPlacesFormF, tX11_isTableT, tX11_isTableF, tX11_isProbeT, tX11_isProbeF, tX11_isHouseT, tX11_isHouseF, tX11_isPestT, tX11_isPestF, tX11_isStageT, tX11_isStageF, tX11_isPartT, tX11_isPartF, tX12_isBinT, tX12_isBinF, tX12_isTableT, tX12_isTableF, tX12_inT, tX12_inF, tX12_innT, tX12_innF, tX12_ingT, tX12_ingF, tX12_isStageT, tX12_isStageF, tX1_isByteT, tX1_isByteF, eq_true h1, h2, q_nA, q_nO]
  rfl
theorem newPl_r {σ : Shp} {I : Nat → Nat → Int32} {R : Nat → Nat → Option Nat} {x : Int32} {z : Nat} (hz : z ≤ 40) : gX11_newPlaces σ I R x (Int32.ofInt z) = some (shP σ z, u2 (u2 I 4 12 (I 4 12 + 1)) (nxx σ + 4) 0 x, u2 (u2 R (nxx σ + 4) 1 (some 0)) (nxx σ + 4) 2 (some (nxx σ + 4 + 1)), some (nxx σ + 4)) := by
  have h1 : z ≤ 1000000 := by omega
  have h2 : kdx (mkA (mkO σ 11 9) 26 z) (nxx σ + 4) = 11 := by
    show kdx (shP σ z) (nxx σ + 4) = 11
    rw [shP_k, if_neg (by omega), if_pos rfl]
  unfold gX11_newPlaces gX11_newPlaces_b13 gX11_newPlaces_b30 gX10_init
  simp (disch := omega) only [fail_r, no_r, nob_r, fI_o, Nat.reduceLeDiff, ↓reduceIte, not_true_eq_false, not_false_eq_true, false_imp_iff, true_imp_iff, and_true, true_and, and_self, implies_true, false_or, or_false, true_or, or_true, d10, d01, d00, d11, g_tn, Tot_some, Tot_none, Tot_ite, Tot_bind, ob_some, onl_n, onl_s, nat32, Int.toNat_natCast, i_add, i_sub, i_mul, i_addl, i_addr, i_subl, i_subr, i_mulr, i_addn, i_gd, i_tn, i_w, i_ltlT, i_ltlF, i_ltrT, i_ltrF, i_lelT, i_lelF, i_lerT, i_lerF, i_eqlT, i_eqlF, i_eqrT, i_eqrF, i_ltnT, i_ltnF, i_lenT, i_lenF, i_eqnT, i_eqnF, i_ltT, i_ltF, i_leT, i_leF, i_eqT, i_eqF, j_ltlT, j_ltlF, j_ltrT, j_ltrF, j_lelT, j_lelF, j_lerT, j_lerF, j_eqlT, j_eqlF, j_ltT, j_ltF, j_leT, j_leF, j_eqT, j_eqF, i_mull, l_tn, l_lt0, l_ne0, nleF, tX11_isStockT, tX11_isStockF, tX11_isBinT, tX11_isBinF, tX11_isPlanT, tX11_isPlanF, tX11_isValveT, tX11_isValveF, tX11_isLaneT, tX11_isLaneF, tX11_isGridFormT, tX11_isGridFormF, tX11_isFormT, tX11_isFormF, tX11_isTrayFormT, tX11_isTrayFormF, tX11_isPlacesFormT, tX11_isPlacesFormF, tX11_isTableT, tX11_isTableF, tX11_isProbeT, tX11_isProbeF, tX11_isHouseT, tX11_isHouseF, tX11_isPestT, tX11_isPestF, tX11_isStageT, tX11_isStageF, tX11_isPartT, tX11_isPartF, tX12_isBinT, tX12_isBinF, tX12_isTableT, tX12_isTableF, tX12_inT, tX12_inF, tX12_innT, tX12_innF, tX12_ingT, tX12_ingF, tX12_isStageT, tX12_isStageF, tX1_isByteT, tX1_isByteF, eq_true h1, h2, q_nA, q_nO]
  rfl
theorem cl_row {G : Nat → Nat → Nat} {C : Nat → Int64} {N : Nat → Nat → Int32} {σ : Shp} {I : Nat → Nat → Int32} {J : Nat → Nat → Int64} {R : Nat → Nat → Option Nat} {f z : Nat} (hS : Skel σ R) (hn : nxx σ + 3 ≤ 900000) (hg : TSg G C N) (hc : TCl G C N σ I J R) (hf : f ≤ 7) : TCl (gNew G (nxx σ + 4) f z 0 0 0 0) C N (shR σ z 0) (u2 (u2 I 4 12 (I 4 12 + 1)) (nxx σ + 4) 0 (Int32.ofInt f)) J (u2 (u2 R (nxx σ + 4) 1 (some (nxx σ + 4 + 1))) (nxx σ + 4) 2 (some (nxx σ + 4 + 2))) := by
  have eC : cC f (nxx σ + 4) = nxx σ + 4 + 1 := if_pos (Or.inl hf)
  have eP : cP f (nxx σ + 4) = nxx σ + 4 + 2 := if_pos (Or.inl hf)
  have eW : cW f = 3 := if_pos (Or.inl hf)
  have en : nC f z = z := if_pos hf
  have ep : nP f z 0 = 0 := if_pos hf
  have h198 := hS.1
  have fr := hc.2.2.2.2
  have fa := fr (nxx σ + 4) (by omega) (by omega)
  have zN := hg.2.2.2.2.1 (G 10 0 + 1) (Or.inr (by omega))
  refine TCl.new hg hc (fun _ _ _ => rfl) ⟨h198, ?_⟩ ?_ (fun b hb => ?_) ?_ ?_ ?_ (fun b hb1 hb2 => ?_) ?_ (fun b h1 h2 h3 => ?_) ?_ ?_ (fun b h1 h2 h3 h4 => ?_) ?_ (fun r => by omega) (fun r1 r2 => by omega) (by omega) (by omega)
  · rw [shR_n]; omega
  · rw [shR_n, eW]
  · rw [shR_k, shR_l, if_neg (by omega), if_neg (by omega), if_neg (by omega), if_neg (by omega), if_neg (by omega)]
    exact ⟨rfl, rfl⟩
  · rw [shR_k, if_neg (by omega), if_neg (by omega), if_pos rfl]
  · rw [eC, en, shR_k, shR_l, if_neg (by omega), if_pos (by omega), if_neg (by omega), if_pos (by omega)]
    exact ⟨rfl, rfl⟩
  · rw [eP, ep, shR_k, shR_l, if_pos (by omega), if_pos (by omega)]
    exact ⟨rfl, rfl⟩
  · rw [shR_n] at hb1
    rw [shR_k, if_neg (by omega), if_neg (by omega), if_neg (by omega)]
    exact (fr b (by omega) hb2).1
  · rw [u2n (by omega), u2_self, hc.1, i_addl]
    rfl
  · funext j
    rw [u2n (by omega), u2n (by omega)]
  · obtain ⟨z5, z6, z7, z8, z4, zb, zc, zd⟩ := zN
    have zd := zd (by omega)
    refine ⟨u2_self _ _ _ _, ?_, ?_, ?_, ?_, ?_, ?_⟩
    · rw [u2n (by omega), u2n (by omega)]; exact (fa.2 3).1
    · rw [u2n (by omega), u2n (by omega), z4]; exact (fa.2 4).1
    · rw [u2n (by omega), u2n (by omega), zb]; exact (fa.2 5).1
    · rw [u2n (by omega), u2n (by omega), zc]; exact (fa.2 6).1
    · rw [u2n (by omega), u2n (by omega)]; exact (fa.2 7).1
    · rw [u2n (by omega), u2n (by omega), zd]; exact (fa.2 8).1
  · funext j
    rw [u2n (by omega), u2n (by omega)]
  · funext j
    rw [u2n (by omega), u2n (by omega)]
  · rw [eC, eP]
    refine ⟨?_, u2_self _ _ _ _⟩
    rw [u2n (by omega), u2_self]
theorem cl_pl {G : Nat → Nat → Nat} {C : Nat → Int64} {N : Nat → Nat → Int32} {σ : Shp} {I : Nat → Nat → Int32} {J : Nat → Nat → Int64} {R : Nat → Nat → Option Nat} {f z : Nat} (hS : Skel σ R) (hn : nxx σ + 3 ≤ 900000) (hg : TSg G C N) (hc : TCl G C N σ I J R) (hf : 8 ≤ f ∧ f ≤ 15) : TCl (gNew G (nxx σ + 4) f z 0 0 0 0) C N (shP σ z) (u2 (u2 I 4 12 (I 4 12 + 1)) (nxx σ + 4) 0 (Int32.ofInt f)) J (u2 (u2 R (nxx σ + 4) 1 (some 0)) (nxx σ + 4) 2 (some (nxx σ + 4 + 1))) := by
  have eC : cC f (nxx σ + 4) = 0 := if_neg (by omega)
  have eP : cP f (nxx σ + 4) = nxx σ + 4 + 1 := if_neg (by omega)
  have eW : cW f = 2 := if_neg (by omega)
  have en : nC f z = 0 := by unfold nC; rw [if_neg (by omega), if_neg (by omega)]
  have ep : nP f z 0 = z := by unfold nP; rw [if_neg (by omega), if_pos hf.2]
  have h198 := hS.1
  have fr := hc.2.2.2.2
  have fa := fr (nxx σ + 4) (by omega) (by omega)
  have zN := hg.2.2.2.2.1 (G 10 0 + 1) (Or.inr (by omega))
  have k0 : kdx σ 0 = 21 := hS.k 0 21 (by decide) rfl
  have l0 : lnx σ 0 = 0 := hS.l 0 0 (by decide) rfl
  refine TCl.new hg hc (fun _ _ _ => rfl) ⟨h198, ?_⟩ ?_ (fun b hb => ?_) ?_ ?_ ?_ (fun b hb1 hb2 => ?_) ?_ (fun b h1 h2 h3 => ?_) ?_ ?_ (fun b h1 h2 h3 h4 => ?_) ?_ (fun r => by omega) (fun r1 r2 => ?_) (by omega) (by omega)
  · rw [shP_n]; omega
  · rw [shP_n, eW]
  · rw [shP_k, shP_l, if_neg (by omega), if_neg (by omega), if_neg (by omega)]
    exact ⟨rfl, rfl⟩
  · rw [shP_k, if_neg (by omega), if_pos rfl]
  · rw [eC, en, shP_k, shP_l, if_neg (by omega), if_neg (by omega), if_neg (by omega)]
    exact ⟨k0, l0⟩
  · rw [eP, ep, shP_k, shP_l, if_pos (by omega), if_pos (by omega)]
    exact ⟨rfl, rfl⟩
  · rw [shP_n] at hb1
    rw [shP_k, if_neg (by omega), if_neg (by omega)]
    exact (fr b (by omega) hb2).1
  · rw [u2n (by omega), u2_self, hc.1, i_addl]
    rfl
  · funext j
    rw [u2n (by omega), u2n (by omega)]
  · obtain ⟨z5, z6, z7, z8, z4, zb, zc, zd⟩ := zN
    have zd := zd (by omega)
    refine ⟨u2_self _ _ _ _, ?_, ?_, ?_, ?_, ?_, ?_⟩
    · rw [u2n (by omega), u2n (by omega)]; exact (fa.2 3).1
    · rw [u2n (by omega), u2n (by omega), z4]; exact (fa.2 4).1
    · rw [u2n (by omega), u2n (by omega), zb]; exact (fa.2 5).1
    · rw [u2n (by omega), u2n (by omega), zc]; exact (fa.2 6).1
    · rw [u2n (by omega), u2n (by omega)]; exact (fa.2 7).1
    · rw [u2n (by omega), u2n (by omega), zd]; exact (fa.2 8).1
  · funext j
    rw [u2n (by omega), u2n (by omega)]
  · funext j
    rw [u2n (by omega), u2n (by omega)]
  · rw [eC, eP]
    refine ⟨?_, u2_self _ _ _ _⟩
    rw [u2n (by omega), u2_self]
  · rw [eP]
    funext j
    rw [u2n (by omega), u2n (by omega)]
