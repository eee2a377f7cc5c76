/-! ===== grid: loops of class and model ===== -/
def gl (f : Nat) : Nat := if f = 8 then 3 else if f = 9 then 4 else 7
theorem gl_le (f : Nat) : gl f ≤ 7 := by unfold gl; split; omega; split <;> omega
theorem gl_C {f : Nat} (h : 8 ≤ f ∧ f ≤ 10) : fX11_laneOfGrid (Int32.ofInt f) = Int32.ofInt (gl f) ∧ fX12_laneOf (Int32.ofInt f) = Int32.ofInt (gl f) ∧ plFor f (gl f) := by
  rcases (show f = 8 ∨ f = 9 ∨ f = 10 by omega) with rfl | rfl | rfl
  · exact ⟨by decide +kernel, by decide +kernel, by unfold plFor gl; decide⟩
  · exact ⟨by decide +kernel, by decide +kernel, by unfold plFor gl; decide⟩
  · exact ⟨by decide +kernel, by decide +kernel, by unfold plFor gl; decide⟩
/-- a thing with places, class's part alone -/
theorem cth_pl {G : Nat → Nat → Nat} {C : Nat → Int64} {N : Nat → Nat → Int32} {σ : Shp} {I : Nat → Nat → Int32} {J : Nat → Nat → Int64} {R : Nat → Nat → Option Nat} (hc : TCl G C N σ I J R) {t : Nat} (t1 : 1 ≤ t) (t2 : t ≤ G 10 0) (q : 8 ≤ G 1 t ∧ G 1 t ≤ 15) : kdx σ (G 0 t) = 11 ∧ R (G 0 t) 2 = some (G 0 t + 1) ∧ kdx σ (G 0 t + 1) = 26 ∧ lnx σ (G 0 t + 1) = G 2 t ∧ (∀ k, k < G 2 t → R (G 0 t + 1) k = pn G (G 4 (G 3 t + k))) ∧ I (G 0 t) 0 = Int32.ofInt (G 1 t) := by
  obtain ⟨⟨a1, a2, a3, a4, a5, a6, a7⟩, ⟨b1, -⟩, -, d, -⟩ := hc.2.2.1 t t1 t2
  have ep : cP (G 1 t) (G 0 t) = G 0 t + 1 := by unfold cP; rw [if_neg (by omega)]
  have en : nP (G 1 t) (G 2 t) (G 7 t) = G 2 t := by unfold nP; rw [if_neg (by omega), if_pos (by omega)]
  have d := d q.1 q.2
  rw [ep] at a3 a5 a7 d
  rw [en] at a7
  exact ⟨a1, a3, a5, a7, d, b1⟩
def gg (f z t : Nat) : Nat → (Nat → Nat → Nat) → Nat → Nat → (Nat → Nat → Nat)
  | 0, G, _, _ => G
  | w + 1, G, c, k => gg f z t w (u2 (gNew G c (gl f) z 0 0 0 0) 4 (G 3 t + k) (G 10 0 + 1)) (c + 3) (k + 1)
/-- what a step does to the ghosts -/
theorem gg_st {G : Nat → Nat → Nat} {C : Nat → Int64} {N : Nat → Nat → Int32} {f z t c k : Nat} (hf : 8 ≤ f ∧ f ≤ 10) (hz : z ≤ 40) (hg : TSg G C N) (hm : G 10 0 + 1 ≤ 4050) (t1 : 1 ≤ t) (t2 : t ≤ G 10 0) (f1 : G 1 t = f) (hk : k < G 2 t) : TSg (gNew G c (gl f) z 0 0 0 0) C N ∧ TSg (u2 (gNew G c (gl f) z 0 0 0 0) 4 (G 3 t + k) (G 10 0 + 1)) C N ∧ (∀ x, x ≠ 4 → x ≠ 10 → u2 (gNew G c (gl f) z 0 0 0 0) 4 (G 3 t + k) (G 10 0 + 1) x t = G x t) ∧ u2 (gNew G c (gl f) z 0 0 0 0) 4 (G 3 t + k) (G 10 0 + 1) 10 0 = G 10 0 + 1 := by
  have gf := gl_le f
  have g := hg.new (N' := N) (a := c) (f := gl f) (z := z) (k := 0) (d := 0) (l := 0) (q := 0) (fun _ _ _ => rfl) hm (by omega) (by omega) (by omega) (by omega) (by omega) (by omega) (by omega) (by omega) (by omega) (fun _ => ⟨rfl, rfl⟩) (fun _ r => by omega)
  have e : ∀ x, x ≠ 10 → gNew G c (gl f) z 0 0 0 0 x t = G x t := fun x hx => gNo (by omega) hx
  have p := g.setP (t := t) (k := k) (x := G 10 0 + 1) t1 (by rw [gN0]; omega) (by rw [e 1 (by omega)]; omega) (by rw [e 2 (by omega)]; exact hk) (by rw [gN0]; omega) (fun _ => by rw [e 1 (by omega), gNf, f1]; exact (gl_C hf).2.2)
  rw [e 3 (by omega)] at p
  exact ⟨g, p, fun x h1 h2 => by rw [u2n (by omega)]; exact e x h2, by rw [u2n (by omega)]; rfl⟩
theorem grid_C {C : Nat → Int64} {N : Nat → Nat → Int32} {J : Nat → Nat → Int64} {f z t : Nat} {i : Int} (hi : 0 ≤ i ∧ i ≤ 15) (hf : 8 ≤ f ∧ f ≤ 10) (hz : z ≤ 40) : ∀ (w : Nat) (G : Nat → Nat → Nat) (σ : Shp) (I : Nat → Nat → Int32) (R : Nat → Nat → Option Nat) (k n : Nat), w < n → Skel σ R → TSg G C N → TCl G C N σ I J R → nxx σ + 3 * w ≤ 899990 → G 10 0 + w ≤ 4050 → 1 ≤ t → t ≤ G 10 0 → G 1 t = f → G 2 t = k + w →
    ∃ (σ' : Shp) (I' : Nat → Nat → Int32) (R' : Nat → Nat → Option Nat), gX11_grid_l76 n σ I R (Int32.ofInt i) (Int32.ofInt f) (Int32.ofInt z) (some (G 0 t)) (Int32.ofInt k) = some (σ', I', u2 R' 6 i.toNat (some (G 0 t)), 1) ∧ TSg (gg f z t w G (nxx σ + 4) k) C N ∧ TCl (gg f z t w G (nxx σ + 4) k) C N σ' I' J R' ∧ nxx σ' = nxx σ + 3 * w ∧ slx σ' ≤ slx σ + 60 * w ∧ Ag [(202, 1000000), (2000012, 2000013)] I I' ∧ Ag [(202, 1000000)] R R' ∧ (gg f z t w G (nxx σ + 4) k) 10 0 = G 10 0 + w ∧ (gg f z t w G (nxx σ + 4) k) 0 t = G 0 t := by
  intro w
  induction w with
  | zero =>
    intro G σ I R k n hn hS hg hc hx h4 t1 t2 f1 hk
    obtain ⟨n, rfl⟩ : ∃ m, n = m + 1 := ⟨n - 1, by omega⟩
    obtain ⟨p1, p2, p3, p4, -⟩ := cth_pl hc t1 t2 (by omega)
    have hst := (hg.2.2.1 t t1 t2).2.2.2.2.1 (by omega)
    refine ⟨σ, I, R, ?_, hg, hc, by omega, by omega, Ag.rf, Ag.rf, rfl, rfl⟩
    unfold gX11_grid_l76
    simp (disch := omega) only [fail_r, no_r, nob_r, fI_o, Nat.reduceLeDiff, ↓reduceIte, not_true_eq_false, not_false_eq_true, false_imp_iff, true_imp_iff, and_true, true_and, and_self, implies_true, false_or, or_false, true_or, or_true, d10, d01, d00, d11, g_tn, Tot_some, Tot_none, Tot_ite, Tot_bind, ob_some, onl_n, onl_s, nat32, Int.toNat_natCast, i_add, i_sub, i_mul, i_addl, i_addr, i_subl, i_subr, i_mulr, i_addn, i_gd, i_tn, i_w, i_ltlT, i_ltlF, i_ltrT, i_ltrF, i_lelT, i_lelF, i_lerT, i_lerF, i_eqlT, i_eqlF, i_eqrT, i_eqrF, i_ltnT, i_ltnF, i_lenT, i_lenF, i_eqnT, i_eqnF, i_ltT, i_ltF, i_leT, i_leF, i_eqT, i_eqF, j_ltlT, j_ltlF, j_ltrT, j_ltrF, j_lelT, j_lelF, j_lerT, j_lerF, j_eqlT, j_eqlF, j_ltT, j_ltF, j_leT, j_leF, j_eqT, j_eqF, i_mull, l_tn, l_lt0, l_ne0, nleF, tX11_isStockT, tX11_isStockF, tX11_isBinT, tX11_isBinF, tX11_isPlanT, tX11_isPlanF, tX11_isValveT, tX11_isValveF, tX11_isLaneT, tX11_isLaneF, tX11_isGridFormT, tX11_isGridFormF, tX11_isFormT, tX11_isFormF, tX11_isTrayFormT, tX11_isTrayFormF, tX11_isPlacesFormT, tX11_isPlacesFormF, tX11_isTableT, tX11_isTableF, tX11_isProbeT, tX11_isProbeF, tX11_isHouseT, tX11_isHouseF, tX11_isPestT, tX11_isPestF, tX11_isStageT, tX11_isStageF, tX11_isPartT, tX11_isPartF, tX12_isBinT, tX12_isBinF, tX12_isTableT, tX12_isTableF, tX12_inT, tX12_inF, tX12_innT, tX12_innF, tX12_ingT, tX12_ingF, tX12_isStageT, tX12_isStageF, tX1_isByteT, tX1_isByteF, p1, p2, p3, p4]
  | succ w ih =>
    intro G σ I R k n hn hS hg hc hx h4 t1 t2 f1 hk
    obtain ⟨n, rfl⟩ : ∃ m, n = m + 1 := ⟨n - 1, by omega⟩
    have h198 := hS.1
    have gf := gl_le f
    obtain ⟨p1, p2, p3, p4, -⟩ := cth_pl hc t1 t2 (by omega)
    have hst := (hg.2.2.1 t t1 t2).2.2.2.2.1 (by omega)
    have st := hc.2.2.2.1.1 t t1 t2
    have wg := cW_ge (G 1 t)
    obtain ⟨g1, g2, g3, g4⟩ := gg_st (c := nxx σ + 4) hf hz hg (by omega) t1 t2 f1 (show k < G 2 t by omega)
    have k1 := cl_row (f := gl f) (z := z) hS (by omega) hg hc gf
    have n1 := newRow_r (σ := σ) (I := I) (R := R) (x := Int32.ofInt (gl f)) (z := z) (by omega)
    have S1 := pX11_newRow hS n1
    have e : ∀ x, x ≠ 10 → gNew G (nxx σ + 4) (gl f) z 0 0 0 0 x t = G x t := fun x hx => gNo (by omega) hx
    have k2 := TCl.setP (t := t) (k := k) (x := G 10 0 + 1) g1 k1 t1 (by rw [gN0]; omega) (by rw [e 1 (by omega)]; omega) (by rw [e 2 (by omega)]; omega)
    rw [e 3 (by omega), e 0 (by omega), pn_1 (by omega), gNa] at k2
    obtain ⟨q1, q2, q3, q4, -⟩ := cth_pl k1 t1 (by rw [gN0]; omega) (by rw [e 1 (by omega)]; omega)
    rw [e 0 (by omega)] at q1 q2 q3 q4
    rw [e 2 (by omega)] at q4
    have S2 : Skel (shR σ z 0) (u2 (u2 (u2 R (nxx σ + 4) 1 (some (nxx σ + 4 + 1))) (nxx σ + 4) 2 (some (nxx σ + 4 + 2))) (G 0 t + 1) k (some (nxx σ + 4))) := S1.setR (Or.inl q3)
    obtain ⟨σ', I', R', r1, r2, r3, r4, r5, r6, r7, r8, r9⟩ := ih _ (shR σ z 0) (u2 (u2 I 4 12 (I 4 12 + 1)) (nxx σ + 4) 0 (Int32.ofInt (gl f))) (u2 (u2 (u2 R (nxx σ + 4) 1 (some (nxx σ + 4 + 1))) (nxx σ + 4) 2 (some (nxx σ + 4 + 2))) (G 0 t + 1) k (some (nxx σ + 4))) (k + 1) n (by omega) S2 g2 k2 (by rw [shR_n]; omega) (by rw [g4]; omega) t1 (by rw [g4]; omega) (by rw [g3 1 (by omega) (by omega)]; exact f1) (by rw [g3 2 (by omega) (by omega)]; omega)
    rw [g3 0 (by omega) (by omega)] at r1 r9
    rw [g4] at r8
    have en : nxx (shR σ z 0) + 4 = nxx σ + 4 + 3 := by rw [shR_n]
    rw [en] at r2 r3 r8 r9
    have ok : okR (shR σ z 0) 11 (some (nxx σ + 4)) = true := (sh6R hS).2.2
    have ek : ((k : Int) + 1) = ((k + 1 : Nat) : Int) := by omega
    refine ⟨σ', I', R', ?_, r2, r3, by rw [r4, shR_n]; omega, by rw [shR_s] at r5; omega, ?_, ?_, by rw [show gg f z t (w + 1) G (nxx σ + 4) k = gg f z t w (u2 (gNew G (nxx σ + 4) (gl f) z 0 0 0 0) 4 (G 3 t + k) (G 10 0 + 1)) (nxx σ + 4 + 3) (k + 1) from rfl, r8]; omega, r9⟩
    · unfold gX11_grid_l76
      simp (disch := omega) only [fail_r, no_r, nob_r, fI_o, Nat.reduceLeDiff, ↓reduceIte, not_true_eq_false, not_false_eq_true, false_imp_iff, true_imp_iff, and_true, true_and, and_self, implies_true, false_or, or_false, true_or, or_true, d10, d01, d00, d11, g_tn, Tot_some, Tot_none, Tot_ite, Tot_bind, ob_some, onl_n, onl_s, nat32, Int.toNat_natCast, i_add, i_sub, i_mul, i_addl, i_addr, i_subl, i_subr, i_mulr, i_addn, i_gd, i_tn, i_w, i_ltlT, i_ltlF, i_ltrT, i_ltrF, i_lelT, i_lelF, i_lerT, i_lerF, i_eqlT, i_eqlF, i_eqrT, i_eqrF, i_ltnT, i_ltnF, i_lenT, i_lenF, i_eqnT, i_eqnF, i_ltT, i_ltF, i_leT, i_leF, i_eqT, i_eqF, j_ltlT, j_ltlF, j_ltrT, j_ltrF, j_lelT, j_lelF, j_lerT, j_lerF, j_eqlT, j_eqlF, j_ltT, j_ltF, j_leT, j_leF, j_eqT, j_eqF, i_mull, l_tn, l_lt0, l_ne0, nleF, tX11_isStockT, tX11_isStockF, tX11_isBinT, tX11_isBinF, tX11_isPlanT, tX11_isPlanF, tX11_isValveT, tX11_isValveF, tX11_isLaneT, tX11_isLaneF, tX11_isGridFormT, tX11_isGridFormF, tX11_isFormT, tX11_isFormF, tX11_isTrayFormT, tX11_isTrayFormF, tX11_isPlacesFormT, tX11_isPlacesFormF, tX11_isTableT, tX11_isTableF, tX11_isProbeT, tX11_isProbeF, tX11_isHouseT, tX11_isHouseF, tX11_isPestT, tX11_isPestF, tX11_isStageT, tX11_isStageF, tX11_isPartT, tX11_isPartF, tX12_isBinT, tX12_isBinF, tX12_isTableT, tX12_isTableF, tX12_inT, tX12_inF, tX12_innT, tX12_innF, tX12_ingT, tX12_ingF, tX12_isStageT, tX12_isStageF, tX1_isByteT, tX1_isByteF, p1, p2, p3, p4, (gl_C hf).1, n1]
      unfold gX11_grid_b104
      simp (disch := omega) only [fail_r, no_r, nob_r, fI_o, Nat.reduceLeDiff, ↓reduceIte, not_true_eq_false, not_false_eq_true, false_imp_iff, true_imp_iff, and_true, true_and, and_self, implies_true, false_or, or_false, true_or, or_true, d10, d01, d00, d11, g_tn, Tot_some, Tot_none, Tot_ite, Tot_bind, ob_some, onl_n, onl_s, nat32, Int.toNat_natCast, i_add, i_sub, i_mul, i_addl, i_addr, i_subl, i_subr, i_mulr, i_addn, i_gd, i_tn, i_w, i_ltlT, i_ltlF, i_ltrT, i_ltrF, i_lelT, i_lelF, i_lerT, i_lerF, i_eqlT, i_eqlF, i_eqrT, i_eqrF, i_ltnT, i_ltnF, i_lenT, i_lenF, i_eqnT, i_eqnF, i_ltT, i_ltF, i_leT, i_leF, i_eqT, i_eqF, j_ltlT, j_ltlF, j_ltrT, j_ltrF, j_lelT, j_lelF, j_lerT, j_lerF, j_eqlT, j_eqlF, j_ltT, j_ltF, j_leT, j_leF, j_eqT, j_eqF, i_mull, l_tn, l_lt0, l_ne0, nleF, tX11_isStockT, tX11_isStockF, tX11_isBinT, tX11_isBinF, tX11_isPlanT, tX11_isPlanF, tX11_isValveT, tX11_isValveF, tX11_isLaneT, tX11_isLaneF, tX11_isGridFormT, tX11_isGridFormF, tX11_isFormT, tX11_isFormF, tX11_isTrayFormT, tX11_isTrayFormF, tX11_isPlacesFormT, tX11_isPlacesFormF, tX11_isTableT, tX11_isTableF, tX11_isProbeT, tX11_isProbeF, tX11_isHouseT, tX11_isHouseF, tX11_isPestT, tX11_isPestF, tX11_isStageT, tX11_isStageF, tX11_isPartT, tX11_isPartF, tX12_isBinT, tX12_isBinF, tX12_isTableT, tX12_isTableF, tX12_inT, tX12_inF, tX12_innT, tX12_innF, tX12_ingT, tX12_ingF, tX12_isStageT, tX12_isStageF, tX1_isByteT, tX1_isByteF, q3, q4, ok, ek]
      exact r1
    · refine Ag.tr ?_ r6
      exact Ag.st (Ag.st Ag.rf rfl) (far_in (by omega) (by omega) rfl)
    · refine Ag.tr ?_ r7
      exact Ag.st (Ag.st (Ag.st Ag.rf (far_in (by omega) (by omega) rfl)) (far_in (by omega) (by omega) rfl)) (far_in (by omega) (by omega) rfl)
theorem grid_M {C : Nat → Int64} {N : Nat → Nat → Int32} {J : Nat → Nat → Int64} {σ : Shp} {R : Nat → Nat → Option Nat} {f z t : Nat} {i : Int} (hi : 0 ≤ i ∧ i ≤ 15) (hf : 8 ≤ f ∧ f ≤ 10) (hz : z ≤ 40) : ∀ (w : Nat) (G : Nat → Nat → Nat) (I : Nat → Nat → Int32) (k c n : Nat), w < n → TSg G C N → TMo G C N I J → G 10 0 + w ≤ 4050 → 1 ≤ t → t ≤ G 10 0 → G 1 t = f → G 2 t = k + w →
    ∃ (I' : Nat → Nat → Int32), gX12_grid_l75 σ R n I (Int32.ofInt i) (Int32.ofInt f) (Int32.ofInt ((k + w : Nat) : Int)) (Int32.ofInt z) 0 (Int32.ofInt t) (Int32.ofInt k) = some (u2 I' 115 i.toNat (Int32.ofInt t), 1) ∧ TMo (gg f z t w G c k) C N I' J ∧ Ag [(116, 119), (120, 121), (1000000, 1000001), (1000007, 1000008)] I I' := by
  intro w
  induction w with
  | zero =>
    intro G I k c n hn hg hm h4 t1 t2 f1 hk
    obtain ⟨n, rfl⟩ : ∃ m, n = m + 1 := ⟨n - 1, by omega⟩
    have hst := (hg.2.2.1 t t1 t2).2.2.2.2.1 (by omega)
    refine ⟨I, ?_, hm, Ag.rf⟩
    unfold gX12_grid_l75
    simp (disch := omega) only [fail_r, no_r, nob_r, fI_o, Nat.reduceLeDiff, ↓reduceIte, not_true_eq_false, not_false_eq_true, false_imp_iff, true_imp_iff, and_true, true_and, and_self, implies_true, false_or, or_false, true_or, or_true, d10, d01, d00, d11, g_tn, Tot_some, Tot_none, Tot_ite, Tot_bind, ob_some, onl_n, onl_s, nat32, Int.toNat_natCast, i_add, i_sub, i_mul, i_addl, i_addr, i_subl, i_subr, i_mulr, i_addn, i_gd, i_tn, i_w, i_ltlT, i_ltlF, i_ltrT, i_ltrF, i_lelT, i_lelF, i_lerT, i_lerF, i_eqlT, i_eqlF, i_eqrT, i_eqrF, i_ltnT, i_ltnF, i_lenT, i_lenF, i_eqnT, i_eqnF, i_ltT, i_ltF, i_leT, i_leF, i_eqT, i_eqF, j_ltlT, j_ltlF, j_ltrT, j_ltrF, j_lelT, j_lelF, j_lerT, j_lerF, j_eqlT, j_eqlF, j_ltT, j_ltF, j_leT, j_leF, j_eqT, j_eqF, i_mull, l_tn, l_lt0, l_ne0, nleF, tX11_isStockT, tX11_isStockF, tX11_isBinT, tX11_isBinF, tX11_isPlanT, tX11_isPlanF, tX11_isValveT, tX11_isValveF, tX11_isLaneT, tX11_isLaneF, tX11_isGridFormT, tX11_isGridFormF, tX11_isFormT, tX11_isFormF, tX11_isTrayFormT, tX11_isTrayFormF, tX11_isPlacesFormT, tX11_isPlacesFormF, tX11_isTableT, tX11_isTableF, tX11_isProbeT, tX11_isProbeF, tX11_isHouseT, tX11_isHouseF, tX11_isPestT, tX11_isPestF, tX11_isStageT, tX11_isStageF, tX11_isPartT, tX11_isPartF, tX12_isBinT, tX12_isBinF, tX12_isTableT, tX12_isTableF, tX12_inT, tX12_inF, tX12_innT, tX12_innF, tX12_ingT, tX12_ingF, tX12_isStageT, tX12_isStageF, tX1_isByteT, tX1_isByteF]
  | succ w ih =>
    intro G I k c n hn hg hm h4 t1 t2 f1 hk
    obtain ⟨n, rfl⟩ : ∃ m, n = m + 1 := ⟨n - 1, by omega⟩
    have gf := gl_le f
    have hst := (hg.2.2.1 t t1 t2).2.2.2.2.1 (by omega)
    have hsp := (hg.2.2.1 t t1 t2).2.2.2.2.2.2.2.2.1 (by omega) (by omega)
    have h0 := hg.1
    obtain ⟨g1, g2, g3, g4⟩ := gg_st (c := c) hf hz hg (by omega) t1 t2 f1 (show k < G 2 t by omega)
    have m1 := mo_row (a := c) (f := gl f) (z := z) hg hm (by omega) gf
    have m2 := m1.setP (k := G 3 t + k) (x := G 10 0 + 1)
    have n1 := mrow_r (I := I) (m := G 10 0) (c := G 10 1) (f := gl f) (z := z) hm.1.1 hm.1.2.1 (by omega) (by omega) (by omega)
    have e8 := (hm.2.2.1 t (by omega)).2.2.1
    have ex : ((G 10 0 : Int) + 1) = ((G 10 0 + 1 : Nat) : Int) := by omega
    have ek : ((k : Int) + 1) = ((k + 1 : Nat) : Int) := by omega
    have es : ((G 3 t : Int) + (k : Int)).toNat = G 3 t + k := by omega
    obtain ⟨I', r1, r2, r3⟩ := ih _ _ (k + 1) (c + 3) n (by omega) g2 m2 (by rw [g4]; omega) t1 (by rw [g4]; omega) (by rw [g3 1 (by omega) (by omega)]; exact f1) (by rw [g3 2 (by omega) (by omega)]; omega)
    have ew : k + 1 + w = k + (w + 1) := by omega
    rw [ew] at r1
    refine ⟨I', ?_, r2, ?_⟩
    · rw [← r1]
      have s := s16 (t := ((G 10 0 + 1 : Nat) : Int)) (by omega)
      rw [gX12_grid_l75]
      rw [if_neg (by rw [i_le (by omega) (by omega)]; omega), if_pos rfl, if_pos (by rw [i_gd (by omega)]; exact id), (gl_C hf).2.1, n1, ob_some]
      simp (disch := omega) only [fail_r, no_r, nob_r, fI_o, Nat.reduceLeDiff, ↓reduceIte, not_true_eq_false, not_false_eq_true, false_imp_iff, true_imp_iff, and_true, true_and, and_self, implies_true, false_or, or_false, true_or, or_true, d10, d01, d00, d11, g_tn, Tot_some, Tot_none, Tot_ite, Tot_bind, ob_some, onl_n, onl_s, nat32, Int.toNat_natCast, i_add, i_sub, i_mul, i_addl, i_addr, i_subl, i_subr, i_mulr, i_addn, i_gd, i_tn, i_w, i_ltlT, i_ltlF, i_ltrT, i_ltrF, i_lelT, i_lelF, i_lerT, i_lerF, i_eqlT, i_eqlF, i_eqrT, i_eqrF, i_ltnT, i_ltnF, i_lenT, i_lenF, i_eqnT, i_eqnF, i_ltT, i_ltF, i_leT, i_leF, i_eqT, i_eqF, j_ltlT, j_ltlF, j_ltrT, j_ltrF, j_lelT, j_lelF, j_lerT, j_lerF, j_eqlT, j_eqlF, j_ltT, j_ltF, j_leT, j_leF, j_eqT, j_eqF, i_mull, l_tn, l_lt0, l_ne0, nleF, tX11_isStockT, tX11_isStockF, tX11_isBinT, tX11_isBinF, tX11_isPlanT, tX11_isPlanF, tX11_isValveT, tX11_isValveF, tX11_isLaneT, tX11_isLaneF, tX11_isGridFormT, tX11_isGridFormF, tX11_isFormT, tX11_isFormF, tX11_isTrayFormT, tX11_isTrayFormF, tX11_isPlacesFormT, tX11_isPlacesFormF, tX11_isTableT, tX11_isTableF, tX11_isProbeT, tX11_isProbeF, tX11_isHouseT, tX11_isHouseF, tX11_isPestT, tX11_isPestF, tX11_isStageT, tX11_isStageF, tX11_isPartT, tX11_isPartF, tX12_isBinT, tX12_isBinF, tX12_isTableT, tX12_isTableF, tX12_inT, tX12_inF, tX12_innT, tX12_innF, tX12_ingT, tX12_ingF, tX12_isStageT, tX12_isStageF, tX1_isByteT, tX1_isByteF, e8, es, ex, s, ek]
    · refine Ag.tr ?_ r3
      unfold moR
      exact Ag.st (Ag.st (Ag.st (Ag.st (Ag.st (Ag.st Ag.rf rfl) rfl) rfl) rfl) rfl) rfl
