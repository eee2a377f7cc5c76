/-! ===== plant: the class, kinds without parts ===== -/
def clP (I : Nat → Nat → Int32) (a : Nat) (k x3 x4 : Int32) : Nat → Nat → Int32 := u2 (u2 (u2 (u2 (u2 (u2 (u2 I a 0 16) a 3 k) a 5 x3) a 6 x4) a 4 (I 4 15)) 4 15 (I 4 15 + 1)) 4 12 (I 4 12 + 1)
theorem cplant_0 {σ : Shp} {R : Nat → Nat → Option Nat} {I : Nat → Nat → Int32} {k : Nat} {i : Int} {x3 x4 x5 x6 : Int32} (h198 : 198 ≤ nxx σ) (hk : k ≤ 5 ∧ k ≠ 2) (hi : 0 ≤ i ∧ i ≤ 15) : gX11_plant_b56 (mkO σ 11 9) I R (Int32.ofInt i) (Int32.ofInt k) x3 x4 x5 x6 (nxx σ + 4) = some (shP σ 0, clP I (nxx σ + 4) (Int32.ofInt k) x3 x4, u2 (u2 (u2 R (nxx σ + 4) 1 (some 0)) (nxx σ + 4) 2 (some (nxx σ + 4 + 1))) 6 i.toNat (some (nxx σ + 4)), I 4 15) := by
  have h2 : kdx (mkA (mkO σ 11 9) 26 0) (nxx σ + 4) = 11 := by
    show kdx (shP σ 0) (nxx σ + 4) = 11
    rw [shP_k, if_neg (by omega), if_pos rfl]
  unfold gX11_plant_b56 gX11_plant_b75 gX11_plant_b207 gX10_init
  simp (disch := omega) only [fail_r, no_r, nob_r, fI_o, Nat.reduceLeDiff, ↓reduceIte, not_true_eq_false, not_false_eq_true, false_imp_iff, true_imp_iff, and_true, true_and, and_self, implies_true, false_or, or_false, true_or, or_true, d10, d01, d00, d11, g_tn, Tot_some, Tot_none, Tot_ite, Tot_bind, ob_some, onl_n, onl_s, nat32, Int.toNat_natCast, i_add, i_sub, i_mul, i_addl, i_addr, i_subl, i_subr, i_mulr, i_addn, i_gd, i_tn, i_w, i_ltlT, i_ltlF, i_ltrT, i_ltrF, i_lelT, i_lelF, i_lerT, i_lerF, i_eqlT, i_eqlF, i_eqrT, i_eqrF, i_ltnT, i_ltnF, i_lenT, i_lenF, i_eqnT, i_eqnF, i_ltT, i_ltF, i_leT, i_leF, i_eqT, i_eqF, j_ltlT, j_ltlF, j_ltrT, j_ltrF, j_lelT, j_lelF, j_lerT, j_lerF, j_eqlT, j_eqlF, j_ltT, j_ltF, j_leT, j_leF, j_eqT, j_eqF, i_mull, l_tn, l_lt0, l_ne0, nleF, tX11_isStockT, tX11_isStockF, tX11_isBinT, tX11_isBinF, tX11_isPlanT, tX11_isPlanF, tX11_isValveT, tX11_isValveF, tX11_isLaneT, tX11_isLaneF, tX11_isGridFormT, tX11_isGridFormF, tX11_isFormT, tX11_isFormF, tX11_isTrayFormT, tX11_isTrayFormF, tX11_isPlacesFormT, tX11_isPlacesFormF, tX11_isTableT, tX11_isTableF, tX11_isProbeT, tX11_isProbeF, tX11_isHouseT, tX11_isHouseF, tX11_isPestT, tX11_isPestF, tX11_isStageT, tX11_isStageF, tX11_isPartT, tX11_isPartF, tX12_isBinT, tX12_isBinF, tX12_isTableT, tX12_isTableF, tX12_inT, tX12_inF, tX12_innT, tX12_innF, tX12_ingT, tX12_ingF, tX12_isStageT, tX12_isStageF, tX1_isByteT, tX1_isByteF, h2, q_nA, q_nO, u2n, u2s]
  rfl
theorem cl_plant0 {G : Nat → Nat → Nat} {C : Nat → Int64} {N : Nat → Nat → Int32} {σ : Shp} {I : Nat → Nat → Int32} {J : Nat → Nat → Int64} {R : Nat → Nat → Option Nat} {k : Nat} {x3 x4 : Int32} (hS : Skel σ R) (hn : nxx σ + 3 ≤ 900000) (hg : TSg G C N) (hc : TCl G C N σ I J R) (hk : k ≤ 5 ∧ k ≠ 2) : TCl (gNew G (nxx σ + 4) 16 0 k 0 0 0) C (u2 (u2 (u2 N 4 (G 10 0 + 1) (I 4 15)) 5 (G 10 0 + 1) x3) 6 (G 10 0 + 1) x4) (shP σ 0) (clP I (nxx σ + 4) (Int32.ofInt k) x3 x4) J (u2 (u2 R (nxx σ + 4) 1 (some 0)) (nxx σ + 4) 2 (some (nxx σ + 4 + 1))) := by
  have eC : cC 16 (nxx σ + 4) = 0 := rfl
  have eP : cP 16 (nxx σ + 4) = nxx σ + 4 + 1 := rfl
  have eW : cW 16 = 2 := rfl
  have en : nC 16 0 = 0 := rfl
  have ep : nP 16 0 k = 0 := by unfold nP; rw [if_neg (by omega), if_neg (by omega), if_neg (by omega), if_neg hk.2]
  have h198 := hS.1
  have fr := hc.2.2.2.2
  have fa := fr (nxx σ + 4) (by omega) (by omega)
  have zN := hg.2.2.2.2.1 (G 10 0 + 1) (Or.inr (by omega))
  have k0 : kdx σ 0 = 21 := hS.k 0 21 (by decide) rfl
  have l0 : lnx σ 0 = 0 := hS.l 0 0 (by decide) rfl
  unfold clP
  refine TCl.new hg hc (fun x t ht => by rw [u2n (by omega), u2n (by omega), u2n (by omega)]) ⟨h198, ?_⟩ ?_ (fun b hb => ?_) ?_ ?_ ?_ (fun b hb1 hb2 => ?_) ?_ (fun b h1 h2 h3 => ?_) ?_ ?_ (fun b h1 h2 h3 h4 => ?_) ?_ (fun r => ?_) (fun r1 r2 => by omega) (by omega) (by omega)
  · rw [shP_n]; omega
  · rw [shP_n, eW]
  · rw [shP_k, shP_l, if_neg (by omega), if_neg (by omega), if_neg (by omega)]
    exact ⟨rfl, rfl⟩
  · rw [shP_k, if_neg (by omega), if_pos rfl]
  · rw [eC, en, shP_k, shP_l, if_neg (by omega), if_neg (by omega), if_neg (by omega)]
    exact ⟨k0, l0⟩
  · rw [eP, ep, shP_k, shP_l, if_pos (by omega), if_pos (by omega)]
    exact ⟨rfl, rfl⟩
  · rw [shP_n] at hb1
    rw [shP_k, if_neg (by omega), if_neg (by omega)]
    exact (fr b (by omega) hb2).1
  · simp (disch := omega) only [u2n, u2s]; rw [hc.1, i_addl]; rfl
  · funext j
    simp (disch := omega) only [u2n, u2s]
  · obtain ⟨z5, z6, z7, z8, z4, zb, zc, zd⟩ := zN
    have zd := zd (by omega)
    refine ⟨?_, ?_, ?_, ?_, ?_, ?_, ?_⟩
    · simp (disch := omega) only [u2n, u2s]; rfl
    · simp (disch := omega) only [u2n, u2s]
    · simp (disch := omega) only [u2n, u2s]
    · simp (disch := omega) only [u2n, u2s]
    · simp (disch := omega) only [u2n, u2s]
    · simp (disch := omega) only [u2n, u2s]; exact (fa.2 7).1
    · simp (disch := omega) only [u2n, u2s]; rw [zd]; exact (fa.2 8).1
  · funext j
    simp (disch := omega) only [u2n, u2s]
  · funext j
    simp (disch := omega) only [u2n, u2s]
  · rw [eC, eP]
    refine ⟨?_, ?_⟩
    · simp (disch := omega) only [u2n, u2s]
    · simp (disch := omega) only [u2n, u2s]
  · exfalso
    omega
