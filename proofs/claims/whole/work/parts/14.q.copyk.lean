/-! ===== copies of cards ===== -/
theorem s16s {t : Int} (h : -32768 ≤ t ∧ t < 32768) : (Int32.toInt16 (Int32.ofInt t)).toInt32 = Int32.ofInt t := by
  rw [← Int32.toInt_inj, Int16.toInt_toInt32, Int32.toInt_toInt16, ti (by omega) (by omega)]
  simp only [Int.bmod_def]
  omega
theorem mvP_1 {σ : Shp} {R : Nat → Nat → Option Nat} {q : (Nat → Nat → Option Nat) → Option Nat → Int32 → Option Nat → Int32 → Int32 → Int32 → Option (Nat → Nat → Option Nat)} {a c pa pc za zc i j at' k : Nat} {x4 : Int32} (h1 : kdx σ a = 11) (h2 : R a 2 = some pa) (h3 : kdx σ pa = 26) (h4 : lnx σ pa = za) (g1 : kdx σ c = 11) (g2 : R c 2 = some pc) (g3 : kdx σ pc = 26) (g4 : lnx σ pc = zc) (zx : i + at' < za) (zy : j + at' < zc) (ha : za ≤ 1000) (hc : zc ≤ 1000) (hk : k < 1000) (ok : okR σ 11 (R pa (i + at')) = true) : gX11_movePlaces_b56 q σ R (some a) (Int32.ofInt i) (some c) (Int32.ofInt j) x4 (Int32.ofInt k) (Int32.ofInt at') = q (u2 R pc (j + at') (R pa (i + at'))) (some a) (Int32.ofInt i) (some c) (Int32.ofInt j) x4 (Int32.ofInt ((k + 1 : Nat) : Int)) := by
  have e1 : ((i : Int) + (at' : Int)).toNat = i + at' := by omega
  have e2 : ((j : Int) + (at' : Int)).toNat = j + at' := by omega
  have ek : ((k : Int) + 1) = ((k + 1 : Nat) : Int) := by omega
  unfold gX11_movePlaces_b56
  simp (disch := omega) only [fail_r, no_r, nob_r, fI_o, Nat.reduceLeDiff, ↓reduceIte, not_true_eq_false, not_false_eq_true, false_imp_iff, true_imp_iff, and_true, true_and, and_self, implies_true, false_or, or_false, true_or, or_true, d10, d01, d00, d11, g_tn, Tot_some, Tot_none, Tot_ite, Tot_bind, ob_some, onl_n, onl_s, nat32, Int.toNat_natCast, i_add, i_sub, i_mul, i_addl, i_addr, i_subl, i_subr, i_mulr, i_addn, i_gd, i_tn, i_w, i_ltlT, i_ltlF, i_ltrT, i_ltrF, i_lelT, i_lelF, i_lerT, i_lerF, i_eqlT, i_eqlF, i_eqrT, i_eqrF, i_ltnT, i_ltnF, i_lenT, i_lenF, i_eqnT, i_eqnF, i_ltT, i_ltF, i_leT, i_leF, i_eqT, i_eqF, j_ltlT, j_ltlF, j_ltrT, j_ltrF, j_lelT, j_lelF, j_lerT, j_lerF, j_eqlT, j_eqlF, j_ltT, j_ltF, j_leT, j_leF, j_eqT, j_eqF, i_mull, l_tn, l_lt0, l_ne0, nleF, tX11_isStockT, tX11_isStockF, tX11_isBinT, tX11_isBinF, tX11_isPlanT, tX11_isPlanF, tX11_isValveT, tX11_isValveF, tX11_isLaneT, tX11_isLaneF, tX11_isGridFormT, tX11_isGridFormF, tX11_isFormT, tX11_isFormF, tX11_isTrayFormT, tX11_isTrayFormF, tX11_isPlacesFormT, tX11_isPlacesFormF, tX11_isTableT, tX11_isTableF, tX11_isProbeT, tX11_isProbeF, tX11_isHouseT, tX11_isHouseF, tX11_isPestT, tX11_isPestF, tX11_isStageT, tX11_isStageF, tX11_isPartT, tX11_isPartF, tX12_isBinT, tX12_isBinF, tX12_isTableT, tX12_isTableF, tX12_inT, tX12_inF, tX12_innT, tX12_innF, tX12_ingT, tX12_ingF, tX12_isStageT, tX12_isStageF, tX1_isByteT, tX1_isByteF, h1, h2, h3, h4, g1, g2, g3, g4, e1, e2, ok, ek]
/-- two places of a card -/
theorem mvP_2 {σ : Shp} {R : Nat → Nat → Option Nat} {a c pa pc : Nat} (h1 : kdx σ a = 11) (h2 : R a 2 = some pa) (h3 : kdx σ pa = 26) (h4 : lnx σ pa = 2) (g1 : kdx σ c = 11) (g2 : R c 2 = some pc) (g3 : kdx σ pc = 26) (g4 : lnx σ pc = 2) (o0 : okR σ 11 (R pa 0) = true) (o1 : okR σ 11 (R pa 1) = true) (hp : pa ≠ pc) : gX11_movePlaces σ R (some a) 0 (some c) 0 (Int32.ofInt ((2 : Nat) : Int)) = some (u2 (u2 R pc 0 (R pa 0)) pc 1 (R pa 1)) := by
  have ka : pa ≠ a := fun e => by rw [e, h1] at h3; omega
  have kc : pc ≠ c := fun e => by rw [e, g1] at g3; omega
  have kb : pc ≠ a := fun e => by rw [e, h1] at g3; omega
  have w := span_r (L := 2) (i := 0) (n := 2) (by omega) (by omega)
  have z0 : Int32.ofInt ((0 : Nat) : Int) = 0 := rfl
  rw [z0] at w
  have s1 := mvP_1 (q := gX11_movePlaces_l32 σ 1999999) (i := 0) (j := 0) (at' := 0) (k := 0) (x4 := Int32.ofInt ((2 : Nat) : Int)) h1 h2 h3 h4 g1 g2 g3 g4 (by omega) (by omega) (by omega) (by omega) (by omega) o0
  have s2 := mvP_1 (q := gX11_movePlaces_l32 σ 1999998) (R := u2 R pc 0 (R pa 0)) (i := 0) (j := 0) (at' := 1) (k := 1) (x4 := Int32.ofInt ((2 : Nat) : Int)) h1 (by rw [u2n (by omega)]; exact h2) h3 h4 g1 (by rw [u2n (by omega)]; exact g2) g3 g4 (by omega) (by omega) (by omega) (by omega) (by omega) (by rw [u2n (by omega)]; exact o1)
  rw [show u2 R pc 0 (R pa 0) pa (0 + 1) = R pa 1 from u2n (by omega)] at s2
  rw [z0] at s1 s2
  unfold gX11_movePlaces
  simp (disch := omega) only [fail_r, no_r, nob_r, fI_o, Nat.reduceLeDiff, ↓reduceIte, not_true_eq_false, not_false_eq_true, false_imp_iff, true_imp_iff, and_true, true_and, and_self, implies_true, false_or, or_false, true_or, or_true, d10, d01, d00, d11, g_tn, Tot_some, Tot_none, Tot_ite, Tot_bind, ob_some, onl_n, onl_s, nat32, Int.toNat_natCast, i_add, i_sub, i_mul, i_addl, i_addr, i_subl, i_subr, i_mulr, i_addn, i_gd, i_tn, i_w, i_ltlT, i_ltlF, i_ltrT, i_ltrF, i_lelT, i_lelF, i_lerT, i_lerF, i_eqlT, i_eqlF, i_eqrT, i_eqrF, i_ltnT, i_ltnF, i_lenT, i_lenF, i_eqnT, i_eqnF, i_ltT, i_ltF, i_leT, i_leF, i_eqT, i_eqF, j_ltlT, j_ltlF, j_ltrT, j_ltrF, j_lelT, j_lelF, j_lerT, j_lerF, j_eqlT, j_eqlF, j_ltT, j_ltF, j_leT, j_leF, j_eqT, j_eqF, i_mull, l_tn, l_lt0, l_ne0, nleF, tX11_isStockT, tX11_isStockF, tX11_isBinT, tX11_isBinF, tX11_isPlanT, tX11_isPlanF, tX11_isValveT, tX11_isValveF, tX11_isLaneT, tX11_isLaneF, tX11_isGridFormT, tX11_isGridFormF, tX11_isFormT, tX11_isFormF, tX11_isTrayFormT, tX11_isTrayFormF, tX11_isPlacesFormT, tX11_isPlacesFormF, tX11_isTableT, tX11_isTableF, tX11_isProbeT, tX11_isProbeF, tX11_isHouseT, tX11_isHouseF, tX11_isPestT, tX11_isPestF, tX11_isStageT, tX11_isStageF, tX11_isPartT, tX11_isPartF, tX12_isBinT, tX12_isBinF, tX12_isTableT, tX12_isTableF, tX12_inT, tX12_inF, tX12_innT, tX12_innF, tX12_ingT, tX12_ingF, tX12_isStageT, tX12_isStageF, tX1_isByteT, tX1_isByteF, h1, h2, h3, h4, g1, g2, g3, g4, w]
  show gX11_movePlaces_l32 σ (1999999 + 1) R (some a) 0 (some c) 0 (Int32.ofInt ((2 : Nat) : Int)) 0 = _
  rw [gX11_movePlaces_l32, if_neg (by decide +kernel), if_pos (by decide), s1]
  show gX11_movePlaces_l32 σ (1999998 + 1) (u2 R pc 0 (R pa 0)) (some a) 0 (some c) 0 (Int32.ofInt ((2 : Nat) : Int)) (Int32.ofInt ((1 : Nat) : Int)) = _
  rw [gX11_movePlaces_l32, if_neg (by decide +kernel), if_pos (by decide), s2]
  show gX11_movePlaces_l32 σ (1999997 + 1) (u2 (u2 R pc 0 (R pa 0)) pc 1 (R pa 1)) (some a) 0 (some c) 0 (Int32.ofInt ((2 : Nat) : Int)) (Int32.ofInt ((2 : Nat) : Int)) = _
  rw [gX11_movePlaces_l32, if_pos (by decide +kernel)]
def cardG (G : Nat → Nat → Nat) (x c : Nat) : Nat → Nat → Nat := u2 (u2 (gNew G c 17 0 0 0 0 0) 5 (G 10 0 + 1) (G 5 x)) 6 (G 10 0 + 1) (G 6 x)
theorem card_G {G : Nat → Nat → Nat} {C : Nat → Int64} {N : Nat → Nat → Int32} {x c : Nat} {v : Int32} (hg : TSg G C N) (x1 : 1 ≤ x) (x2 : x ≤ G 10 0) (f : G 1 x = 17) (hb : G 10 0 + 1 ≤ 4050) : TSg (gNew G c 17 0 0 0 0 0) C (u2 N 4 (G 10 0 + 1) v) ∧ TSg (cardG G x c) (sft C (G 3 x) (G 10 1) 8) (u2 N 4 (G 10 0 + 1) v) := by
  have g := hg.new (N' := u2 N 4 (G 10 0 + 1) v) (a := c) (f := 17) (z := 0) (k := 0) (d := 0) (l := 0) (q := 0) (fun x t ht => u2n (by omega)) hb (by omega) (by omega) (by omega) (by omega) (by omega) (by omega) (by omega) (by omega) (by omega) (fun _ => ⟨rfl, rfl⟩) (fun _ r => by omega)
  have hx := hg.2.2.1 x x1 x2
  have h5 := hx.2.2.2.2.2.2.2.2.2.2.1
  have h6 := hx.2.2.2.2.2.2.2.2.2.2.2.1
  have h7 := hx.2.2.2.2.2.2.2.2.2.2.2.2.1 f
  have e : ∀ a t, a ≠ 10 → t ≤ G 10 0 → gNew G c 17 0 0 0 0 0 a t = G a t := fun a t ha ht => gNo (by omega) ha
  have y0 : gNew G c 17 0 0 0 0 0 10 0 = G 10 0 + 1 := rfl
  have g2 := g.mvS (x := x) (y := G 10 0 + 1) (i := 0) (j := 0) (z := 8) x1 (by rw [y0]; omega) (by omega) (by rw [y0]; omega) (by rw [e 1 x (by omega) x2, f]; exact Nat.le_refl _) (by rw [gNf]; exact Nat.le_refl _) (fun h => by rw [gNf] at h; omega)
  rw [e 3 x (by omega) x2, gNs, if_neg (by omega), if_neg (by omega), Nat.add_zero, Nat.add_zero] at g2
  have g3 := g2.setL0 (t := G 10 0 + 1) (x := G 5 x) (by omega) (by rw [y0]; omega) gNf (by rw [y0]; omega) (fun h => by rw [e 1 _ (by omega) h5]; exact h7.1 h)
  have g4 := g3.setL1 (t := G 10 0 + 1) (x := G 6 x) (by omega) (by rw [u2n (by omega), y0]; omega) (by rw [u2n (by omega)]; exact gNf) (by rw [u2n (by omega), y0]; omega) (fun h => by rw [u2n (by omega), e 1 _ (by omega) h6]; exact h7.2 h)
  exact ⟨g, g4⟩
theorem card_C {G : Nat → Nat → Nat} {C : Nat → Int64} {N : Nat → Nat → Int32} {σ : Shp} {I : Nat → Nat → Int32} {J : Nat → Nat → Int64} {R : Nat → Nat → Option Nat} {x n : Nat} {d x3 : Int32} (hS : Skel σ R) (hn : nxx σ + 10 ≤ 900000) (hg : TSg G C N) (hc : TCl G C N σ I J R) (x1 : 1 ≤ x) (x2 : x ≤ G 10 0) (f : G 1 x = 17) (hb : G 10 0 + 1 ≤ 4050) (h3 : x3 ≤ 3) : ∃ J' R', gX11_copied (n + 1) σ I J R (some (G 0 x)) d x3 = some (shR σ 8 2, clC I (nxx σ + 4), J', R', some (nxx σ + 4)) ∧ Skel (shR σ 8 2) R' ∧ TCl (cardG G x (nxx σ + 4)) (sft C (G 3 x) (G 10 1) 8) (u2 N 4 (G 10 0 + 1) (I 4 16)) (shR σ 8 2) (clC I (nxx σ + 4)) J' R' ∧ Ag [(202, 1000000)] J J' ∧ Ag [(202, 1000000)] R R' := by
  have h198 := hS.1
  obtain ⟨p1, p2, p3, p4, p5, p6⟩ := cth_c hc x1 x2 (Or.inr f)
  have en : nC (G 1 x) (G 2 x) = 8 := by rw [f]; rfl
  obtain ⟨g1, g2⟩ := card_G (c := nxx σ + 4) (v := I 4 16) hg x1 x2 f hb
  have hx := hg.2.2.1 x x1 x2
  have h5 := hx.2.2.2.2.2.2.2.2.2.2.1
  have h6 := hx.2.2.2.2.2.2.2.2.2.2.2.1
  have n1 := newCard_r (σ := σ) (I := I) (R := R) h198
  have S1 := pX11_newCard hS n1
  have k1 := cl_card hS (by omega) hg hc
  have e : ∀ a t, a ≠ 10 → t ≤ G 10 0 → gNew G (nxx σ + 4) 17 0 0 0 0 0 a t = G a t := fun a t ha ht => gNo (by omega) ha
  have y0 : gNew G (nxx σ + 4) 17 0 0 0 0 0 10 0 = G 10 0 + 1 := rfl
  have y3 : gNew G (nxx σ + 4) 17 0 0 0 0 0 3 (G 10 0 + 1) = G 10 1 := by rw [gNs, if_neg (by omega), if_neg (by omega)]
  obtain ⟨J', r1, r2, r3, r4⟩ := mvC (x := x) (y := G 10 0 + 1) (z := 8) (i := 0) (j := 0) g1 k1 (by rw [shR_n]; omega) x1 (by rw [y0]; omega) (by omega) (by rw [y0]; omega) (by rw [e 1 x (by omega) x2]; exact Or.inr f) (by rw [gNf]; exact Or.inr rfl) (by rw [e 1 x (by omega) x2, e 2 x (by omega) x2, en]; omega) (by rw [gNf, gNz]; decide) (fun h => by rw [gNf] at h; omega)
  rw [e 0 x (by omega) x2, gNa, show Int32.ofInt ((0 : Nat) : Int) = 0 from rfl] at r1
  rw [e 3 x (by omega) x2, y3, Nat.add_zero, Nat.add_zero] at r3
  obtain ⟨q1, q2, q3, q4, -⟩ := cth_c r3 x1 (by rw [y0]; omega) (by rw [e 1 x (by omega) x2]; exact Or.inr f)
  rw [e 0 x (by omega) x2] at q1 q2 q3 q4
  rw [e 1 x (by omega) x2, e 2 x (by omega) x2, en] at q4
  obtain ⟨⟨-, -, a3, -, a5, -, a7⟩, -, -, -, aE⟩ := r3.2.2.1 x x1 (by rw [y0]; omega)
  obtain ⟨⟨b1, -, b3, -, b5, -, b7⟩, -⟩ := r3.2.2.1 (G 10 0 + 1) (by omega) (by rw [y0]; omega)
  have aE := aE (Or.inl (by rw [e 1 x (by omega) x2]; exact f))
  rw [e 0 x (by omega) x2, e 1 x (by omega) x2, f, show cP 17 (G 0 x) = G 0 x + 2 from rfl] at a3 a5 a7 aE
  rw [e 2 x (by omega) x2, e 7 x (by omega) x2, show nP 17 (G 2 x) (G 7 x) = 2 from rfl] at a7
  rw [e 5 x (by omega) x2, e 6 x (by omega) x2] at aE
  rw [gNa] at b1
  rw [gNa, gNf, show cP 17 (nxx σ + 4) = nxx σ + 4 + 2 from rfl] at b3 b5 b7
  rw [show nP 17 (gNew G (nxx σ + 4) 17 0 0 0 0 0 2 (G 10 0 + 1)) (gNew G (nxx σ + 4) 17 0 0 0 0 0 7 (G 10 0 + 1)) = 2 from rfl] at b7
  have gb := hc.2.2.2.1.1 x x1 x2
  have w3 : cW (G 1 x) = 3 := cW_of (Or.inr f)
  have o0 := ok_pn r3 (x := G 5 x) (by rw [y0]; omega)
  have o1 := ok_pn r3 (x := G 6 x) (by rw [y0]; omega)
  have mp := mvP_2 (R := u2 (u2 R (nxx σ + 4) 1 (some (nxx σ + 4 + 1))) (nxx σ + 4) 2 (some (nxx σ + 4 + 2))) q1 a3 a5 a7 b1 b3 b5 b7 (by rw [aE.1]; exact o0) (by rw [aE.2]; exact o1) (by omega)
  rw [aE.1, aE.2] at mp
  have k3 := r3.setL0 (t := G 10 0 + 1) (x := G 5 x) (by omega) (by rw [y0]; omega) gNf
  rw [gNa] at k3
  have k4 := k3.setL1 (t := G 10 0 + 1) (x := G 6 x) (by omega) (by rw [u2n (by omega), y0]; omega) (by rw [u2n (by omega)]; exact gNf)
  rw [u2n (by omega), gNa, show ∀ j, pn (u2 (gNew G (nxx σ + 4) 17 0 0 0 0 0) 5 (G 10 0 + 1) (G 5 x)) j = pn (gNew G (nxx σ + 4) 17 0 0 0 0 0) j from fun j => by unfold pn; rw [u2n (by omega)]] at k4
  have b71 : ∀ fr, gX11_copied_b71 fr (shR σ 8 2) (clC I (nxx σ + 4)) J (u2 (u2 R (nxx σ + 4) 1 (some (nxx σ + 4 + 1))) (nxx σ + 4) 2 (some (nxx σ + 4 + 2))) (some (G 0 x)) (some (nxx σ + 4)) = some (shR σ 8 2, clC I (nxx σ + 4), J', u2 (u2 (u2 (u2 R (nxx σ + 4) 1 (some (nxx σ + 4 + 1))) (nxx σ + 4) 2 (some (nxx σ + 4 + 2))) (nxx σ + 4 + 2) 0 (pn (gNew G (nxx σ + 4) 17 0 0 0 0 0) (G 5 x))) (nxx σ + 4 + 2) 1 (pn (gNew G (nxx σ + 4) 17 0 0 0 0 0) (G 6 x)), some (nxx σ + 4)) := fun fr => by
    unfold gX11_copied_b71
    simp (disch := omega) only [fail_r, no_r, nob_r, fI_o, Nat.reduceLeDiff, ↓reduceIte, not_true_eq_false, not_false_eq_true, false_imp_iff, true_imp_iff, and_true, true_and, and_self, implies_true, false_or, or_false, true_or, or_true, d10, d01, d00, d11, g_tn, Tot_some, Tot_none, Tot_ite, Tot_bind, ob_some, onl_n, onl_s, nat32, Int.toNat_natCast, i_add, i_sub, i_mul, i_addl, i_addr, i_subl, i_subr, i_mulr, i_addn, i_gd, i_tn, i_w, i_ltlT, i_ltlF, i_ltrT, i_ltrF, i_lelT, i_lelF, i_lerT, i_lerF, i_eqlT, i_eqlF, i_eqrT, i_eqrF, i_ltnT, i_ltnF, i_lenT, i_lenF, i_eqnT, i_eqnF, i_ltT, i_ltF, i_leT, i_leF, i_eqT, i_eqF, j_ltlT, j_ltlF, j_ltrT, j_ltrF, j_lelT, j_lelF, j_lerT, j_lerF, j_eqlT, j_eqlF, j_ltT, j_ltF, j_leT, j_leF, j_eqT, j_eqF, i_mull, l_tn, l_lt0, l_ne0, nleF, tX11_isStockT, tX11_isStockF, tX11_isBinT, tX11_isBinF, tX11_isPlanT, tX11_isPlanF, tX11_isValveT, tX11_isValveF, tX11_isLaneT, tX11_isLaneF, tX11_isGridFormT, tX11_isGridFormF, tX11_isFormT, tX11_isFormF, tX11_isTrayFormT, tX11_isTrayFormF, tX11_isPlacesFormT, tX11_isPlacesFormF, tX11_isTableT, tX11_isTableF, tX11_isProbeT, tX11_isProbeF, tX11_isHouseT, tX11_isHouseF, tX11_isPestT, tX11_isPestF, tX11_isStageT, tX11_isStageF, tX11_isPartT, tX11_isPartF, tX12_isBinT, tX12_isBinF, tX12_isTableT, tX12_isTableF, tX12_inT, tX12_inF, tX12_innT, tX12_innF, tX12_ingT, tX12_ingF, tX12_isStageT, tX12_isStageF, tX1_isByteT, tX1_isByteF, q1, q2, q3, q4, r1, a3, a5, a7]
    rw [mp, ob_some]
  have h3' : (x3 ≤ 3) = True := eq_true h3
  have ir := k_rowF (σ := σ) (I := I) p1 p6 (by omega)
  rw [f] at p6
  refine ⟨J', _, ?_, (S1.setR (Or.inl b5)).setR (Or.inl b5), k4, r4, ?_⟩
  · rw [gX11_copied]
    simp (disch := omega) only [fail_r, no_r, nob_r, fI_o, Nat.reduceLeDiff, ↓reduceIte, not_true_eq_false, not_false_eq_true, false_imp_iff, true_imp_iff, and_true, true_and, and_self, implies_true, false_or, or_false, true_or, or_true, d10, d01, d00, d11, g_tn, Tot_some, Tot_none, Tot_ite, Tot_bind, ob_some, onl_n, onl_s, nat32, Int.toNat_natCast, i_add, i_sub, i_mul, i_addl, i_addr, i_subl, i_subr, i_mulr, i_addn, i_gd, i_tn, i_w, i_ltlT, i_ltlF, i_ltrT, i_ltrF, i_lelT, i_lelF, i_lerT, i_lerF, i_eqlT, i_eqlF, i_eqrT, i_eqrF, i_ltnT, i_ltnF, i_lenT, i_lenF, i_eqnT, i_eqnF, i_ltT, i_ltF, i_leT, i_leF, i_eqT, i_eqF, j_ltlT, j_ltlF, j_ltrT, j_ltrF, j_lelT, j_lelF, j_lerT, j_lerF, j_eqlT, j_eqlF, j_ltT, j_ltF, j_leT, j_leF, j_eqT, j_eqF, i_mull, l_tn, l_lt0, l_ne0, nleF, tX11_isStockT, tX11_isStockF, tX11_isBinT, tX11_isBinF, tX11_isPlanT, tX11_isPlanF, tX11_isValveT, tX11_isValveF, tX11_isLaneT, tX11_isLaneF, tX11_isGridFormT, tX11_isGridFormF, tX11_isFormT, tX11_isFormF, tX11_isTrayFormT, tX11_isTrayFormF, tX11_isPlacesFormT, tX11_isPlacesFormF, tX11_isTableT, tX11_isTableF, tX11_isProbeT, tX11_isProbeF, tX11_isHouseT, tX11_isHouseF, tX11_isPestT, tX11_isPestF, tX11_isStageT, tX11_isStageF, tX11_isPartT, tX11_isPartF, tX12_isBinT, tX12_isBinF, tX12_isTableT, tX12_isTableF, tX12_inT, tX12_inF, tX12_innT, tX12_innF, tX12_ingT, tX12_ingF, tX12_isStageT, tX12_isStageF, tX1_isByteT, tX1_isByteF, p1, p6, h3', ir, n1]
    exact b71 _
  · exact Ag.st (Ag.st (Ag.st (Ag.st Ag.rf (far_in (by omega) (by omega) rfl)) (far_in (by omega) (by omega) rfl)) (far_in (by omega) (by omega) rfl)) (far_in (by omega) (by omega) rfl)
theorem cardl_M {G : Nat → Nat → Nat} {C : Nat → Int64} {N : Nat → Nat → Int32} {σ : Shp} {I : Nat → Nat → Int32} {R : Nat → Nat → Option Nat} {x y : Nat} (hx : x < 4100) (hy : y < 4100) (hxy : x ≠ y) (h5 : G 5 x < 4100) (h6 : G 6 x < 4100) (hd : G 3 x + 8 ≤ G 3 y) (hb : G 3 y + 8 ≤ 164000) : ∀ (w k n : Nat) (J : Nat → Nat → Int64), w < n → k + w = 8 → TMo G (sft C (G 3 x) (G 3 y) k) N I J → ∃ J', gX12_cardCopy_l7 σ R n I J (Int32.ofInt x) (Int32.ofInt y) (Int32.ofInt k) = some (u2 (u2 I 125 y (Int32.ofInt (G 5 x))) 126 y (Int32.ofInt (G 6 x)), J', Int32.ofInt y) ∧ TMo G (sft C (G 3 x) (G 3 y) 8) N I J' ∧ Ag [(119, 120)] J J' := by
  intro w
  induction w with
  | zero =>
    intro k n J hn hk hm
    obtain ⟨n, rfl⟩ : ∃ m, n = m + 1 := ⟨n - 1, by omega⟩
    obtain rfl : k = 8 := by omega
    have m8 := (hm.2.2.1 x hx).2.2.2.2.2.2.2.1
    have m9 := (hm.2.2.1 x hx).2.2.2.2.2.2.2.2.1
    have e5 := s16s (t := (G 5 x : Int)) (by omega)
    have e6 := s16s (t := (G 6 x : Int)) (by omega)
    refine ⟨J, ?_, hm, Ag.rf⟩
    rw [gX12_cardCopy_l7]
    simp (disch := omega) only [fail_r, no_r, nob_r, fI_o, Nat.reduceLeDiff, ↓reduceIte, not_true_eq_false, not_false_eq_true, false_imp_iff, true_imp_iff, and_true, true_and, and_self, implies_true, false_or, or_false, true_or, or_true, d10, d01, d00, d11, g_tn, Tot_some, Tot_none, Tot_ite, Tot_bind, ob_some, onl_n, onl_s, nat32, Int.toNat_natCast, i_add, i_sub, i_mul, i_addl, i_addr, i_subl, i_subr, i_mulr, i_addn, i_gd, i_tn, i_w, i_ltlT, i_ltlF, i_ltrT, i_ltrF, i_lelT, i_lelF, i_lerT, i_lerF, i_eqlT, i_eqlF, i_eqrT, i_eqrF, i_ltnT, i_ltnF, i_lenT, i_lenF, i_eqnT, i_eqnF, i_ltT, i_ltF, i_leT, i_leF, i_eqT, i_eqF, j_ltlT, j_ltlF, j_ltrT, j_ltrF, j_lelT, j_lelF, j_lerT, j_lerF, j_eqlT, j_eqlF, j_ltT, j_ltF, j_leT, j_leF, j_eqT, j_eqF, i_mull, l_tn, l_lt0, l_ne0, nleF, tX11_isStockT, tX11_isStockF, tX11_isBinT, tX11_isBinF, tX11_isPlanT, tX11_isPlanF, tX11_isValveT, tX11_isValveF, tX11_isLaneT, tX11_isLaneF, tX11_isGridFormT, tX11_isGridFormF, tX11_isFormT, tX11_isFormF, tX11_isTrayFormT, tX11_isTrayFormF, tX11_isPlacesFormT, tX11_isPlacesFormF, tX11_isTableT, tX11_isTableF, tX11_isProbeT, tX11_isProbeF, tX11_isHouseT, tX11_isHouseF, tX11_isPestT, tX11_isPestF, tX11_isStageT, tX11_isStageF, tX11_isPartT, tX11_isPartF, tX12_isBinT, tX12_isBinF, tX12_isTableT, tX12_isTableF, tX12_inT, tX12_inF, tX12_innT, tX12_innF, tX12_ingT, tX12_ingF, tX12_isStageT, tX12_isStageF, tX1_isByteT, tX1_isByteF, m8, m9, e5, e6, u2n, u2s]
  | succ w ih =>
    intro k n J hn hk hm
    obtain ⟨n, rfl⟩ : ∃ m, n = m + 1 := ⟨n - 1, by omega⟩
    have m3 := (hm.2.2.1 x hx).2.2.1
    have m4 := (hm.2.2.1 y hy).2.2.1
    have m5 := hm.2.2.2.1 (G 3 x + k) (by omega)
    rw [sft_r (z := 8) (by omega) (Or.inr hd)] at m5
    have k2 := hm.setC (k := G 3 y + k) (v := C (G 3 x + k))
    rw [sft_s] at k2
    obtain ⟨J', r1, r2, r3⟩ := ih (k + 1) n _ (by omega) (by omega) k2
    refine ⟨J', ?_, r2, Ag.tr (Ag.st Ag.rf rfl) r3⟩
    have e1 : ((G 3 x : Int) + (k : Int)).toNat = G 3 x + k := by omega
    have e2 : ((G 3 y : Int) + (k : Int)).toNat = G 3 y + k := by omega
    have ek : ((k : Int) + 1) = ((k + 1 : Nat) : Int) := by omega
    rw [← r1, gX12_cardCopy_l7]
    simp (disch := omega) only [fail_r, no_r, nob_r, fI_o, Nat.reduceLeDiff, ↓reduceIte, not_true_eq_false, not_false_eq_true, false_imp_iff, true_imp_iff, and_true, true_and, and_self, implies_true, false_or, or_false, true_or, or_true, d10, d01, d00, d11, g_tn, Tot_some, Tot_none, Tot_ite, Tot_bind, ob_some, onl_n, onl_s, nat32, Int.toNat_natCast, i_add, i_sub, i_mul, i_addl, i_addr, i_subl, i_subr, i_mulr, i_addn, i_gd, i_tn, i_w, i_ltlT, i_ltlF, i_ltrT, i_ltrF, i_lelT, i_lelF, i_lerT, i_lerF, i_eqlT, i_eqlF, i_eqrT, i_eqrF, i_ltnT, i_ltnF, i_lenT, i_lenF, i_eqnT, i_eqnF, i_ltT, i_ltF, i_leT, i_leF, i_eqT, i_eqF, j_ltlT, j_ltlF, j_ltrT, j_ltrF, j_lelT, j_lelF, j_lerT, j_lerF, j_eqlT, j_eqlF, j_ltT, j_ltF, j_leT, j_leF, j_eqT, j_eqF, i_mull, l_tn, l_lt0, l_ne0, nleF, tX11_isStockT, tX11_isStockF, tX11_isBinT, tX11_isBinF, tX11_isPlanT, tX11_isPlanF, tX11_isValveT, tX11_isValveF, tX11_isLaneT, tX11_isLaneF, tX11_isGridFormT, tX11_isGridFormF, tX11_isFormT, tX11_isFormF, tX11_isTrayFormT, tX11_isTrayFormF, tX11_isPlacesFormT, tX11_isPlacesFormF, tX11_isTableT, tX11_isTableF, tX11_isProbeT, tX11_isProbeF, tX11_isHouseT, tX11_isHouseF, tX11_isPestT, tX11_isPestF, tX11_isStageT, tX11_isStageF, tX11_isPartT, tX11_isPartF, tX12_isBinT, tX12_isBinF, tX12_isTableT, tX12_isTableF, tX12_inT, tX12_inF, tX12_innT, tX12_innF, tX12_ingT, tX12_ingF, tX12_isStageT, tX12_isStageF, tX1_isByteT, tX1_isByteF, m3, m4, m5, e1, e2, ek]
theorem card_M {G : Nat → Nat → Nat} {C : Nat → Int64} {N : Nat → Nat → Int32} {σ : Shp} {I : Nat → Nat → Int32} {J : Nat → Nat → Int64} {R : Nat → Nat → Option Nat} {x c : Nat} (hg : TSg G C N) (hm : TMo G C N I J) (x1 : 1 ≤ x) (x2 : x ≤ G 10 0) (f : G 1 x = 17) (hb : G 10 0 + 1 ≤ 4050) : ∃ J', gX12_cardCopy σ I J R (Int32.ofInt x) = some (u2 (u2 (moC I (G 10 0) (G 10 1)) 125 (G 10 0 + 1) (Int32.ofInt (G 5 x))) 126 (G 10 0 + 1) (Int32.ofInt (G 6 x)), J', Int32.ofInt ((G 10 0 + 1 : Nat) : Int)) ∧ TMo (cardG G x c) (sft C (G 3 x) (G 10 1) 8) (u2 N 4 (G 10 0 + 1) (I 114 19)) (u2 (u2 (moC I (G 10 0) (G 10 1)) 125 (G 10 0 + 1) (Int32.ofInt (G 5 x))) 126 (G 10 0 + 1) (Int32.ofInt (G 6 x))) J' ∧ Ag [(119, 120)] J J' := by
  have h0 := hg.1
  have hx := hg.2.2.1 x x1 x2
  have h5 := hx.2.2.2.2.2.2.2.2.2.2.1
  have h6 := hx.2.2.2.2.2.2.2.2.2.2.2.1
  have sx := hx.2.2.2.2.2.2.2.1 (Or.inr f)
  have en : nC (G 1 x) (G 2 x) = 8 := by rw [f]; rfl
  rw [en] at sx
  have n1 := mcard_r (I := I) (m := G 10 0) (c := G 10 1) hm.1.1 hm.1.2.1 (by omega)
  have m1 := mo_card (a := c) hg hm (by omega)
  have e : ∀ a t, a ≠ 10 → t ≤ G 10 0 → gNew G c 17 0 0 0 0 0 a t = G a t := fun a t ha ht => gNo (by omega) ha
  have y3 : gNew G c 17 0 0 0 0 0 3 (G 10 0 + 1) = G 10 1 := by rw [gNs, if_neg (by omega), if_neg (by omega)]
  obtain ⟨J', r1, r2, r3⟩ := cardl_M (G := gNew G c 17 0 0 0 0 0) (C := C) (σ := σ) (R := R) (x := x) (y := G 10 0 + 1) (by omega) (by omega) (by omega) (by rw [e 5 x (by omega) x2]; omega) (by rw [e 6 x (by omega) x2]; omega) (by rw [e 3 x (by omega) x2, y3]; omega) (by rw [y3]; omega) 8 0 FUx J (by rw [FUx_eq]; omega) (by omega) (by rw [sft_0]; exact m1)
  rw [e 3 x (by omega) x2, y3] at r2
  rw [e 5 x (by omega) x2, e 6 x (by omega) x2] at r1
  have ei : ((G 10 0 : Int) + 1) = ((G 10 0 + 1 : Nat) : Int) := by omega
  have m3 := (r2.setL0 (t := G 10 0 + 1) (x := G 5 x)).setL1 (t := G 10 0 + 1) (x := G 6 x)
  refine ⟨J', ?_, m3, r3⟩
  obtain ⟨F, hF⟩ : ∃ F, FUx = F := ⟨_, rfl⟩
  rw [hF] at r1
  unfold gX12_cardCopy
  rw [hF, n1, ob_some, ei]
  exact r1
