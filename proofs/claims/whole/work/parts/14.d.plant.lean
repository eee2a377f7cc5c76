/-! ===== plant: the model ===== -/
def moPl (I : Nat → Nat → Int32) (m k d l q b : Nat) (x3 x4 : Int32) : Nat → Nat → Int32 :=
  u2 (u2 (u2 (u2 (u2 (u2 (u2 (u2 (u2 (u2 (u2 (u2 I 114 0 (Int32.ofInt ((m : Int) + 1))) 116 (m + 1) 16) 117 (m + 1) 0) 122 (m + 1) (Int32.ofInt k)) 123 (m + 1) x3) 124 (m + 1) x4) 125 (m + 1) (Int32.ofInt l)) 126 (m + 1) (Int32.ofInt q)) 127 (m + 1) (Int32.ofInt d)) 121 (m + 1) (I 114 18)) 114 18 (I 114 18 + 1)) 115 b (Int32.ofInt ((m : Int) + 1))
theorem s16_0 : (Int32.toInt16 ((Int32.toInt16 0).toInt32)).toInt32 = 0 := by decide
theorem mplant_0 {σ : Shp} {R : Nat → Nat → Option Nat} {I : Nat → Nat → Int32} {m k : Nat} {i : Int} {x3 x4 x5 x6 : Int32} (h0 : I 114 0 = Int32.ofInt m) (hm : m < 4099) (hk : k ≤ 5 ∧ k ≠ 2) (hi : 0 ≤ i ∧ i ≤ 15) (k1 : kdx σ 125 = 23 ∧ lnx σ 125 = 4100) (k2 : kdx σ 126 = 23 ∧ lnx σ 126 = 4100) : gX12_plant_b163 σ R I (Int32.ofInt i) (Int32.ofInt k) x3 x4 x5 x6 (Int32.ofInt 0) = some (moPl I m k 0 0 0 i.toNat x3 x4, I 114 18) := by
  have s1 : (Int32.toInt8 ((Int32.toInt8 16).toInt32)).toInt32 = 16 := by decide
  have s2 : (Int32.toInt8 ((Int32.toInt8 0).toInt32)).toInt32 = 0 := by decide
  have s3 := s8 (t := (k : Int)) (by omega)
  have s4 := s8 (t := (0 : Int)) (by omega)
  have e : ((m : Int) + 1).toNat = m + 1 := by omega
  unfold gX12_plant_b163 gX12_thing gX12_plant_b220 gX12_plant_b244
  simp (disch := omega) only [fail_r, no_r, nob_r, fI_o, Nat.reduceLeDiff, ↓reduceIte, not_true_eq_false, not_false_eq_true, false_imp_iff, true_imp_iff, and_true, true_and, and_self, implies_true, false_or, or_false, true_or, or_true, d10, d01, d00, d11, g_tn, Tot_some, Tot_none, Tot_ite, Tot_bind, ob_some, onl_n, onl_s, nat32, Int.toNat_natCast, i_add, i_sub, i_mul, i_addl, i_addr, i_subl, i_subr, i_mulr, i_addn, i_gd, i_tn, i_w, i_ltlT, i_ltlF, i_ltrT, i_ltrF, i_lelT, i_lelF, i_lerT, i_lerF, i_eqlT, i_eqlF, i_eqrT, i_eqrF, i_ltnT, i_ltnF, i_lenT, i_lenF, i_eqnT, i_eqnF, i_ltT, i_ltF, i_leT, i_leF, i_eqT, i_eqF, j_ltlT, j_ltlF, j_ltrT, j_ltrF, j_lelT, j_lelF, j_lerT, j_lerF, j_eqlT, j_eqlF, j_ltT, j_ltF, j_leT, j_leF, j_eqT, j_eqF, i_mull, l_tn, l_lt0, l_ne0, nleF, tX11_isStockT, tX11_isStockF, tX11_isBinT, tX11_isBinF, tX11_isPlanT, tX11_isPlanF, tX11_isValveT, tX11_isValveF, tX11_isLaneT, tX11_isLaneF, tX11_isGridFormT, tX11_isGridFormF, tX11_isFormT, tX11_isFormF, tX11_isTrayFormT, tX11_isTrayFormF, tX11_isPlacesFormT, tX11_isPlacesFormF, tX11_isTableT, tX11_isTableF, tX11_isProbeT, tX11_isProbeF, tX11_isHouseT, tX11_isHouseF, tX11_isPestT, tX11_isPestF, tX11_isStageT, tX11_isStageF, tX11_isPartT, tX11_isPartF, tX12_isBinT, tX12_isBinF, tX12_isTableT, tX12_isTableF, tX12_inT, tX12_inF, tX12_innT, tX12_innF, tX12_ingT, tX12_ingF, tX12_isStageT, tX12_isStageF, tX1_isByteT, tX1_isByteF, h0, s1, s2, s3, s4, u2n, u2s, e, k1.1, k1.2, k2.1, k2.2, s16_0]
  rfl
theorem mplant_2 {σ : Shp} {R : Nat → Nat → Option Nat} {I : Nat → Nat → Int32} {m d l q : Nat} {i p r : Int} {x3 x4 : Int32} (h0 : I 114 0 = Int32.ofInt m) (hm : m < 4099) (hd : d ≤ 4) (hi : 0 ≤ i ∧ i ≤ 15) (hp : 0 ≤ p ∧ p ≤ 15) (hr : 0 ≤ r ∧ r ≤ 15) (e1 : I 115 p.toNat = Int32.ofInt l) (e2 : I 115 r.toNat = Int32.ofInt q) (hl : l ≤ 4050) (hq : q ≤ 4050) (k1 : kdx σ 125 = 23 ∧ lnx σ 125 = 4100) (k2 : kdx σ 126 = 23 ∧ lnx σ 126 = 4100) : gX12_plant_b163 σ R I (Int32.ofInt i) 2 x3 x4 (Int32.ofInt p) (Int32.ofInt r) (Int32.ofInt d) = some (moPl I m 2 d l q i.toNat x3 x4, I 114 18) := by
  have s1 : (Int32.toInt8 ((Int32.toInt8 16).toInt32)).toInt32 = 16 := by decide
  have s2 : (Int32.toInt8 ((Int32.toInt8 0).toInt32)).toInt32 = 0 := by decide
  have s3 : (Int32.toInt8 ((Int32.toInt8 2).toInt32)).toInt32 = 2 := by decide
  have s4 := s8 (t := (d : Int)) (by omega)
  have s5 := s16 (t := (l : Int)) (by omega)
  have s6 := s16 (t := (q : Int)) (by omega)
  have e : ((m : Int) + 1).toNat = m + 1 := by omega
  unfold gX12_plant_b163 gX12_thing gX12_plant_b220 gX12_plant_b244
  simp (disch := omega) only [fail_r, no_r, nob_r, fI_o, Nat.reduceLeDiff, ↓reduceIte, not_true_eq_false, not_false_eq_true, false_imp_iff, true_imp_iff, and_true, true_and, and_self, implies_true, false_or, or_false, true_or, or_true, d10, d01, d00, d11, g_tn, Tot_some, Tot_none, Tot_ite, Tot_bind, ob_some, onl_n, onl_s, nat32, Int.toNat_natCast, i_add, i_sub, i_mul, i_addl, i_addr, i_subl, i_subr, i_mulr, i_addn, i_gd, i_tn, i_w, i_ltlT, i_ltlF, i_ltrT, i_ltrF, i_lelT, i_lelF, i_lerT, i_lerF, i_eqlT, i_eqlF, i_eqrT, i_eqrF, i_ltnT, i_ltnF, i_lenT, i_lenF, i_eqnT, i_eqnF, i_ltT, i_ltF, i_leT, i_leF, i_eqT, i_eqF, j_ltlT, j_ltlF, j_ltrT, j_ltrF, j_lelT, j_lelF, j_lerT, j_lerF, j_eqlT, j_eqlF, j_ltT, j_ltF, j_leT, j_leF, j_eqT, j_eqF, i_mull, l_tn, l_lt0, l_ne0, nleF, tX11_isStockT, tX11_isStockF, tX11_isBinT, tX11_isBinF, tX11_isPlanT, tX11_isPlanF, tX11_isValveT, tX11_isValveF, tX11_isLaneT, tX11_isLaneF, tX11_isGridFormT, tX11_isGridFormF, tX11_isFormT, tX11_isFormF, tX11_isTrayFormT, tX11_isTrayFormF, tX11_isPlacesFormT, tX11_isPlacesFormF, tX11_isTableT, tX11_isTableF, tX11_isProbeT, tX11_isProbeF, tX11_isHouseT, tX11_isHouseF, tX11_isPestT, tX11_isPestF, tX11_isStageT, tX11_isStageF, tX11_isPartT, tX11_isPartF, tX12_isBinT, tX12_isBinF, tX12_isTableT, tX12_isTableF, tX12_inT, tX12_inF, tX12_innT, tX12_innF, tX12_ingT, tX12_ingF, tX12_isStageT, tX12_isStageF, tX1_isByteT, tX1_isByteF, h0, s1, s2, s3, s4, s5, s6, u2n, u2s, e, e1, e2, k1.1, k1.2, k2.1, k2.2]
  rfl
theorem mo_plant {G : Nat → Nat → Nat} {C : Nat → Int64} {N : Nat → Nat → Int32} {I : Nat → Nat → Int32} {J : Nat → Nat → Int64} {a k d l q b : Nat} {x3 x4 : Int32} (hg : TSg G C N) (h : TMo G C N I J) (hm : G 10 0 < 4099) : TMo (u2 (gNew G a 16 0 k d l q) 9 b (G 10 0 + 1)) C (u2 (u2 (u2 N 4 (G 10 0 + 1) (I 114 18)) 5 (G 10 0 + 1) x3) 6 (G 10 0 + 1) x4) (moPl I (G 10 0) k d l q b x3 x4) J := by
  obtain ⟨n1, n2, n3, n4, n5, n6, n7, n8, n9, n10, n11⟩ := h.2.2.1 (G 10 0 + 1) (by omega)
  have ei : (G 10 0 : Int) + 1 = ((G 10 0 + 1 : Nat) : Int) := by omega
  unfold moPl
  rw [ei]
  refine TMo.setB ?_
  refine h.new (fun x t ht => by rw [u2n (by omega), u2n (by omega), u2n (by omega)]) ⟨?_, ?_, ?_⟩ (fun b => ?_) (fun b => ?_) (fun t ht hh => ?_) ⟨?_, ?_, ?_, ?_, ?_, ?_, ?_, ?_, ?_, ?_, ?_⟩
  · simp (disch := omega) only [u2n, u2s]
  · simp (disch := omega) only [u2n, u2s]; exact h.1.2.1
  · simp (disch := omega) only [u2n, u2s]; exact h.1.2.2
  · simp (disch := omega) only [u2n, u2s]
  · simp (disch := omega) only [u2n, u2s]
  · unfold TMt at hh ⊢
    simp (disch := omega) only [u2n, u2s]; exact hh
  · simp (disch := omega) only [u2n, u2s]; rfl
  · simp (disch := omega) only [u2n, u2s]; rfl
  · simp (disch := omega) only [u2n, u2s]; exact n3
  · simp (disch := omega) only [u2n, u2s]
  · simp (disch := omega) only [u2n, u2s]
  · simp (disch := omega) only [u2n, u2s]
  · simp (disch := omega) only [u2n, u2s]
  · simp (disch := omega) only [u2n, u2s]
  · simp (disch := omega) only [u2n, u2s]
  · simp (disch := omega) only [u2n, u2s]
  · simp (disch := omega) only [u2n, u2s]; exact n11
