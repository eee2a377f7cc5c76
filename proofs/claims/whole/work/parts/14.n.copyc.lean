/-! ===== copies: the class ===== -/
def CI (N : Nat → Nat → Int32) (s : GS) (σ : Shp) (I : Nat → Nat → Int32) (J : Nat → Nat → Int64) (R : Nat → Nat → Option Nat) : Prop := Skel σ R ∧ TSg s.1 s.2.1 N ∧ TCl s.1 s.2.1 N σ I J R ∧ nxx σ + 4 = s.2.2
def FC (I I' : Nat → Nat → Int32) (J J' : Nat → Nat → Int64) (R R' : Nat → Nat → Option Nat) : Prop := Ag [(202, 1000000), (2000012, 2000013)] I I' ∧ Ag [(202, 1000000)] J J' ∧ Ag [(202, 1000000)] R R'
theorem FC.rf {I : Nat → Nat → Int32} {J : Nat → Nat → Int64} {R : Nat → Nat → Option Nat} : FC I I J J R R := ⟨Ag.rf, Ag.rf, Ag.rf⟩
theorem FC.tr {I I1 I2 : Nat → Nat → Int32} {J J1 J2 : Nat → Nat → Int64} {R R1 R2 : Nat → Nat → Option Nat} (a : FC I I1 J J1 R R1) (b : FC I1 I2 J1 J2 R1 R2) : FC I I2 J J2 R R2 := ⟨a.1.tr b.1, a.2.1.tr b.2.1, a.2.2.tr b.2.2⟩
theorem k_rowT {σ : Shp} {I : Nat → Nat → Int32} {a f : Nat} (h1 : kdx σ a = 11) (h2 : I a 0 = Int32.ofInt f) (hf : f ≤ 7) : gX11_isRow σ I (some a) = some 1 := by
  unfold gX11_isRow
  simp (disch := omega) only [fail_r, no_r, nob_r, fI_o, Nat.reduceLeDiff, ↓reduceIte, not_true_eq_false, not_false_eq_true, false_imp_iff, true_imp_iff, and_true, true_and, and_self, implies_true, false_or, or_false, true_or, or_true, d10, d01, d00, d11, g_tn, Tot_some, Tot_none, Tot_ite, Tot_bind, ob_some, onl_n, onl_s, nat32, Int.toNat_natCast, i_add, i_sub, i_mul, i_addl, i_addr, i_subl, i_subr, i_mulr, i_addn, i_gd, i_tn, i_w, i_ltlT, i_ltlF, i_ltrT, i_ltrF, i_lelT, i_lelF, i_lerT, i_lerF, i_eqlT, i_eqlF, i_eqrT, i_eqrF, i_ltnT, i_ltnF, i_lenT, i_lenF, i_eqnT, i_eqnF, i_ltT, i_ltF, i_leT, i_leF, i_eqT, i_eqF, j_ltlT, j_ltlF, j_ltrT, j_ltrF, j_lelT, j_lelF, j_lerT, j_lerF, j_eqlT, j_eqlF, j_ltT, j_ltF, j_leT, j_leF, j_eqT, j_eqF, i_mull, l_tn, l_lt0, l_ne0, nleF, tX11_isStockT, tX11_isStockF, tX11_isBinT, tX11_isBinF, tX11_isPlanT, tX11_isPlanF, tX11_isValveT, tX11_isValveF, tX11_isLaneT, tX11_isLaneF, tX11_isGridFormT, tX11_isGridFormF, tX11_isFormT, tX11_isFormF, tX11_isTrayFormT, tX11_isTrayFormF, tX11_isPlacesFormT, tX11_isPlacesFormF, tX11_isTableT, tX11_isTableF, tX11_isProbeT, tX11_isProbeF, tX11_isHouseT, tX11_isHouseF, tX11_isPestT, tX11_isPestF, tX11_isStageT, tX11_isStageF, tX11_isPartT, tX11_isPartF, tX12_isBinT, tX12_isBinF, tX12_isTableT, tX12_isTableF, tX12_inT, tX12_inF, tX12_innT, tX12_innF, tX12_ingT, tX12_ingF, tX12_isStageT, tX12_isStageF, tX1_isByteT, tX1_isByteF, h1, h2]
theorem k_rowF {σ : Shp} {I : Nat → Nat → Int32} {a f : Nat} (h1 : kdx σ a = 11) (h2 : I a 0 = Int32.ofInt f) (hf : 8 ≤ f ∧ f ≤ 17) : gX11_isRow σ I (some a) = some 0 := by
  unfold gX11_isRow
  simp (disch := omega) only [fail_r, no_r, nob_r, fI_o, Nat.reduceLeDiff, ↓reduceIte, not_true_eq_false, not_false_eq_true, false_imp_iff, true_imp_iff, and_true, true_and, and_self, implies_true, false_or, or_false, true_or, or_true, d10, d01, d00, d11, g_tn, Tot_some, Tot_none, Tot_ite, Tot_bind, ob_some, onl_n, onl_s, nat32, Int.toNat_natCast, i_add, i_sub, i_mul, i_addl, i_addr, i_subl, i_subr, i_mulr, i_addn, i_gd, i_tn, i_w, i_ltlT, i_ltlF, i_ltrT, i_ltrF, i_lelT, i_lelF, i_lerT, i_lerF, i_eqlT, i_eqlF, i_eqrT, i_eqrF, i_ltnT, i_ltnF, i_lenT, i_lenF, i_eqnT, i_eqnF, i_ltT, i_ltF, i_leT, i_leF, i_eqT, i_eqF, j_ltlT, j_ltlF, j_ltrT, j_ltrF, j_lelT, j_lelF, j_lerT, j_lerF, j_eqlT, j_eqlF, j_ltT, j_ltF, j_leT, j_leF, j_eqT, j_eqF, i_mull, l_tn, l_lt0, l_ne0, nleF, tX11_isStockT, tX11_isStockF, tX11_isBinT, tX11_isBinF, tX11_isPlanT, tX11_isPlanF, tX11_isValveT, tX11_isValveF, tX11_isLaneT, tX11_isLaneF, tX11_isGridFormT, tX11_isGridFormF, tX11_isFormT, tX11_isFormF, tX11_isTrayFormT, tX11_isTrayFormF, tX11_isPlacesFormT, tX11_isPlacesFormF, tX11_isTableT, tX11_isTableF, tX11_isProbeT, tX11_isProbeF, tX11_isHouseT, tX11_isHouseF, tX11_isPestT, tX11_isPestF, tX11_isStageT, tX11_isStageF, tX11_isPartT, tX11_isPartF, tX12_isBinT, tX12_isBinF, tX12_isTableT, tX12_isTableF, tX12_inT, tX12_inF, tX12_innT, tX12_innF, tX12_ingT, tX12_ingF, tX12_isStageT, tX12_isStageF, tX1_isByteT, tX1_isByteF, h1, h2]
theorem row_C {N : Nat → Nat → Int32} {s : GS} {σ : Shp} {I : Nat → Nat → Int32} {J : Nat → Nat → Int64} {R : Nat → Nat → Option Nat} {x n : Nat} {d x3 : Int32} (hi : CI N s σ I J R) (x1 : 1 ≤ x) (x2 : x ≤ s.1 10 0) (f : s.1 1 x ≤ 7) (hb : s.1 10 0 + 1 ≤ 4050) (hn : s.2.2 ≤ 899990) (h3 : x3 ≤ 3) : ∃ σ' I' J' R', gX11_copied (n + 1) σ I J R (some (s.1 0 x)) d x3 = some (σ', I', J', R', some s.2.2) ∧ CI N (rowS x s) σ' I' J' R' ∧ FC I I' J J' R R' ∧ slx σ' ≤ slx σ + 60 := by
  obtain ⟨hS, hg, hc, ec⟩ := hi
  have h198 := hS.1
  obtain ⟨p1, p2, p3, p4, p5, p6⟩ := cth_c hc x1 x2 (Or.inl f)
  have en : nC (s.1 1 x) (s.1 2 x) = s.1 2 x := if_pos f
  rw [en] at p4
  have hz := (hg.2.2.1 x x1 x2).2.2.2.1 f
  obtain ⟨g1, g2, g3, g4, g5, g6⟩ := row_G hg x1 x2 f hb
  have n1 := newRow_r (σ := σ) (I := I) (R := R) (x := Int32.ofInt (s.1 1 x)) (z := s.1 2 x) (by omega)
  have S1 := pX11_newRow hS n1
  have k1 := cl_row (f := s.1 1 x) (z := s.1 2 x) hS (by omega) hg hc f
  rw [ec] at k1
  have e : ∀ a, a ≠ 10 → gNew s.1 s.2.2 (s.1 1 x) (s.1 2 x) 0 0 0 0 a x = s.1 a x := fun a ha => gNo (by omega) ha
  have y1 : gNew s.1 s.2.2 (s.1 1 x) (s.1 2 x) 0 0 0 0 10 0 = s.1 10 0 + 1 := rfl
  have y3 : gNew s.1 s.2.2 (s.1 1 x) (s.1 2 x) 0 0 0 0 3 (s.1 10 0 + 1) = s.1 10 1 := by rw [gNs, if_neg (by omega), if_neg (by omega)]
  obtain ⟨J', r1, r2, r3, r4⟩ := mvC (x := x) (y := s.1 10 0 + 1) (z := s.1 2 x) (i := 0) (j := 0) g1 k1 (by rw [shR_n]; omega) x1 (by rw [y1]; omega) (by omega) (by rw [y1]; omega) (by rw [e 1 (by omega)]; exact Or.inl f) (by rw [gNf]; exact Or.inl f) (by rw [e 1 (by omega), e 2 (by omega), en]; omega) (by rw [gNf, gNz, en]; omega) (fun _ => by rw [e 1 (by omega), gNf])
  rw [e 0 (by omega), gNa, show Int32.ofInt ((0 : Nat) : Int) = 0 from rfl] at r1
  rw [e 3 (by omega), y3, Nat.add_zero, Nat.add_zero] at r3
  obtain ⟨q1, q2, q3, q4, -⟩ := cth_c k1 x1 (by rw [y1]; omega) (by rw [e 1 (by omega)]; exact Or.inl f)
  rw [e 0 (by omega)] at q1 q2 q3 q4
  rw [e 1 (by omega), e 2 (by omega), en] at q4
  have en' : nxx σ + 4 = s.2.2 := ec
  rw [en'] at n1 S1
  have b40 : ∀ fr, gX11_copied_b40 fr (shR σ (s.1 2 x) 0) (u2 (u2 I 4 12 (I 4 12 + 1)) s.2.2 0 (Int32.ofInt (s.1 1 x))) J (u2 (u2 R s.2.2 1 (some (s.2.2 + 1))) s.2.2 2 (some (s.2.2 + 2))) (some (s.1 0 x)) (some s.2.2) = some (shR σ (s.1 2 x) 0, u2 (u2 I 4 12 (I 4 12 + 1)) s.2.2 0 (Int32.ofInt (s.1 1 x)), J', u2 (u2 R s.2.2 1 (some (s.2.2 + 1))) s.2.2 2 (some (s.2.2 + 2)), some s.2.2) := fun fr => by
    unfold gX11_copied_b40
    simp (disch := omega) only [fail_r, no_r, nob_r, fI_o, Nat.reduceLeDiff, ↓reduceIte, not_true_eq_false, not_false_eq_true, false_imp_iff, true_imp_iff, and_true, true_and, and_self, implies_true, false_or, or_false, true_or, or_true, d10, d01, d00, d11, g_tn, Tot_some, Tot_none, Tot_ite, Tot_bind, ob_some, onl_n, onl_s, nat32, Int.toNat_natCast, i_add, i_sub, i_mul, i_addl, i_addr, i_subl, i_subr, i_mulr, i_addn, i_gd, i_tn, i_w, i_ltlT, i_ltlF, i_ltrT, i_ltrF, i_lelT, i_lelF, i_lerT, i_lerF, i_eqlT, i_eqlF, i_eqrT, i_eqrF, i_ltnT, i_ltnF, i_lenT, i_lenF, i_eqnT, i_eqnF, i_ltT, i_ltF, i_leT, i_leF, i_eqT, i_eqF, j_ltlT, j_ltlF, j_ltrT, j_ltrF, j_lelT, j_lelF, j_lerT, j_lerF, j_eqlT, j_eqlF, j_ltT, j_ltF, j_leT, j_leF, j_eqT, j_eqF, i_mull, l_tn, l_lt0, l_ne0, nleF, tX11_isStockT, tX11_isStockF, tX11_isBinT, tX11_isBinF, tX11_isPlanT, tX11_isPlanF, tX11_isValveT, tX11_isValveF, tX11_isLaneT, tX11_isLaneF, tX11_isGridFormT, tX11_isGridFormF, tX11_isFormT, tX11_isFormF, tX11_isTrayFormT, tX11_isTrayFormF, tX11_isPlacesFormT, tX11_isPlacesFormF, tX11_isTableT, tX11_isTableF, tX11_isProbeT, tX11_isProbeF, tX11_isHouseT, tX11_isHouseF, tX11_isPestT, tX11_isPestF, tX11_isStageT, tX11_isStageF, tX11_isPartT, tX11_isPartF, tX12_isBinT, tX12_isBinF, tX12_isTableT, tX12_isTableF, tX12_inT, tX12_inF, tX12_innT, tX12_innF, tX12_ingT, tX12_ingF, tX12_isStageT, tX12_isStageF, tX1_isByteT, tX1_isByteF, q1, q2, q3, q4, r1]
  have h3' : (x3 ≤ 3) = True := eq_true h3
  have ir := k_rowT (σ := σ) (I := I) p1 p6 f
  refine ⟨_, _, J', _, ?_, ⟨S1, g2, r3, ?_⟩, ⟨?_, r4, ?_⟩, ?_⟩
  rotate_left
  · rw [shR_n]; unfold rowS; show _ = s.2.2 + 3; omega
  · exact Ag.st (Ag.st Ag.rf rfl) (far_in (by omega) (by omega) rfl)
  · exact Ag.st (Ag.st Ag.rf (far_in (by omega) (by omega) rfl)) (far_in (by omega) (by omega) rfl)
  · rw [shR_s]; omega
  · rw [gX11_copied]
    simp (disch := omega) only [fail_r, no_r, nob_r, fI_o, Nat.reduceLeDiff, ↓reduceIte, not_true_eq_false, not_false_eq_true, false_imp_iff, true_imp_iff, and_true, true_and, and_self, implies_true, false_or, or_false, true_or, or_true, d10, d01, d00, d11, g_tn, Tot_some, Tot_none, Tot_ite, Tot_bind, ob_some, onl_n, onl_s, nat32, Int.toNat_natCast, i_add, i_sub, i_mul, i_addl, i_addr, i_subl, i_subr, i_mulr, i_addn, i_gd, i_tn, i_w, i_ltlT, i_ltlF, i_ltrT, i_ltrF, i_lelT, i_lelF, i_lerT, i_lerF, i_eqlT, i_eqlF, i_eqrT, i_eqrF, i_ltnT, i_ltnF, i_lenT, i_lenF, i_eqnT, i_eqnF, i_ltT, i_ltF, i_leT, i_leF, i_eqT, i_eqF, j_ltlT, j_ltlF, j_ltrT, j_ltrF, j_lelT, j_lelF, j_lerT, j_lerF, j_eqlT, j_eqlF, j_ltT, j_ltF, j_leT, j_leF, j_eqT, j_eqF, i_mull, l_tn, l_lt0, l_ne0, nleF, tX11_isStockT, tX11_isStockF, tX11_isBinT, tX11_isBinF, tX11_isPlanT, tX11_isPlanF, tX11_isValveT, tX11_isValveF, tX11_isLaneT, tX11_isLaneF, tX11_isGridFormT, tX11_isGridFormF, tX11_isFormT, tX11_isFormF, tX11_isTrayFormT, tX11_isTrayFormF, tX11_isPlacesFormT, tX11_isPlacesFormF, tX11_isTableT, tX11_isTableF, tX11_isProbeT, tX11_isProbeF, tX11_isHouseT, tX11_isHouseF, tX11_isPestT, tX11_isPestF, tX11_isStageT, tX11_isStageF, tX11_isPartT, tX11_isPartF, tX12_isBinT, tX12_isBinF, tX12_isTableT, tX12_isTableF, tX12_inT, tX12_inF, tX12_innT, tX12_innF, tX12_ingT, tX12_ingF, tX12_isStageT, tX12_isStageF, tX1_isByteT, tX1_isByteF, p1, p2, p3, p4, p6, h3', ir, n1, b40]
def KC (N : Nat → Nat → Int32) (fr : Shp → (Nat → Nat → Int32) → (Nat → Nat → Int64) → (Nat → Nat → Option Nat) → Option Nat → Int32 → Int32 → Option (Shp × (Nat → Nat → Int32) × (Nat → Nat → Int64) × (Nat → Nat → Option Nat) × Option Nat)) (x2 x3 : Int32) (F b : Nat) (kid : GS → Nat → GS × Nat) : Prop := ∀ (s : GS) (σ : Shp) (I : Nat → Nat → Int32) (J : Nat → Nat → Int64) (R : Nat → Nat → Option Nat) (x : Nat), CI N s σ I J R → s.1 10 0 + b ≤ 4050 → s.2.2 + 3 * b ≤ 899990 → x ≤ s.1 10 0 → (x ≠ 0 → plFor F (s.1 1 x)) → ∃ σ' I' J' R', CI N (kid s x).1 σ' I' J' R' ∧ FC I I' J J' R R' ∧ slx σ' ≤ slx σ + 60 * b ∧ ((x2 = 0 ∧ (kid s x).2 = x ∧ (kid s x).1 = s ∧ σ' = σ ∧ I' = I ∧ J' = J ∧ R' = R) ∨ (x2 ≠ 0 ∧ fr σ I J R (pn s.1 x) 1 (x3 + 1) = some (σ', I', J', R', pn (kid s x).1.1 (kid s x).2)))
theorem loop_C {N : Nat → Nat → Int32} {fr : Shp → (Nat → Nat → Int32) → (Nat → Nat → Int64) → (Nat → Nat → Option Nat) → Option Nat → Int32 → Int32 → Option (Shp × (Nat → Nat → Int32) × (Nat → Nat → Int64) × (Nat → Nat → Option Nat) × Option Nat)} {x2 x3 : Int32} {F b t u : Nat} {kid : GS → Nat → GS × Nat} (hG : KG N F b kid) (hK : KC N fr x2 x3 F b kid) (t1 : 1 ≤ t) (tu : t < u) (hF : 8 ≤ F ∧ F ≤ 15) : ∀ (w : Nat) (s : GS) (σ : Shp) (I : Nat → Nat → Int32) (J : Nat → Nat → Int64) (R : Nat → Nat → Option Nat) (k n : Nat), w < n → CI N s σ I J R → s.1 10 0 + b * w ≤ 4050 → s.2.2 + 3 * (b * w) ≤ 899990 → u ≤ s.1 10 0 → s.1 1 t = F → s.1 1 u = F → s.1 2 t = k + w → s.1 2 u = k + w → ∃ σ' I' J' R', gX11_copied_l120 fr n σ I J R (some (s.1 0 t)) x2 x3 (some (s.1 0 u)) (Int32.ofInt k) = some (σ', I', J', R', some (s.1 0 u)) ∧ CI N (loopS kid t u w s k) σ' I' J' R' ∧ FC I I' J J' R R' ∧ slx σ' ≤ slx σ + 60 * (b * w) := by
  intro w
  induction w with
  | zero =>
    intro s σ I J R k n hn hi _ _ u2' ft fu zt zu
    obtain ⟨n, rfl⟩ : ∃ m, n = m + 1 := ⟨n - 1, by omega⟩
    obtain ⟨p1, p2, p3, p4, -⟩ := cth_pl hi.2.2.1 (by omega) u2' (by omega)
    have hst := (hi.2.1.2.2.1 u (by omega) u2').2.2.2.2.1 (by omega)
    refine ⟨σ, I, J, R, ?_, hi, FC.rf, by omega⟩
    rw [gX11_copied_l120, ob_some, if_pos p1, p2, ob_some, if_pos p3, p4, nat32, if_pos (by rw [i_le (by omega) (by omega)]; omega)]
  | succ w ih =>
    intro s σ I J R k n hn hi hb hx u2' ft fu zt zu
    obtain ⟨n, rfl⟩ : ∃ m, n = m + 1 := ⟨n - 1, by omega⟩
    rw [Nat.mul_succ] at hb hx ⊢
    obtain ⟨hS, hg, hc, ec⟩ := id hi
    obtain ⟨p1, p2, p3, p4, -⟩ := cth_pl hc (by omega) u2' (by omega)
    obtain ⟨o1, o2, o3, o4, o5, -⟩ := cth_pl hc t1 (show t ≤ s.1 10 0 by omega) (by omega)
    have o5 := o5 k (by omega)
    have hst := (hg.2.2.1 u (by omega) u2').2.2.2.2.1 (by omega)
    have gb := hc.2.2.2.1.1 u (by omega) u2'
    have wg := cW_ge (s.1 1 u)
    obtain ⟨v, -, q2, v2, q3, q4⟩ := step_G hG hg (by omega) t1 tu u2' ft fu hF (show k < s.1 2 t by omega) (show k < s.1 2 u by omega)
    obtain ⟨σ1, I1, J1, R1, c1, c2, c3, c4⟩ := hK s σ I J R _ hi (by omega) (by omega) v.1 v.2
    have e := q4.2.2.2.2.2.1
    have e1 := q2.2.2.2.2.2.1
    have m1 := q2.1
    obtain ⟨S1, G1, K1, E1⟩ := id c1
    obtain ⟨r1, r2, r3, r4, -⟩ := cth_pl K1 (show 1 ≤ u by omega) (by omega) (by rw [e1 1 u (by omega) (by omega) u2']; omega)
    rw [e1 0 u (by omega) (by omega) u2'] at r1 r2 r3 r4
    rw [e1 2 u (by omega) (by omega) u2'] at r4
    have K2 := TCl.setP (t := u) (k := k) (x := (kid s (s.1 4 (s.1 3 t + k))).2) G1 K1 (by omega) (by omega) (by rw [e1 1 u (by omega) (by omega) u2']; omega) (by rw [e1 2 u (by omega) (by omega) u2']; omega)
    rw [e1 0 u (by omega) (by omega) u2'] at K2
    have ok := ok_pn K1 v2.1
    have ci2 : CI N (setS u k (kid s (s.1 4 (s.1 3 t + k))).2 (kid s (s.1 4 (s.1 3 t + k))).1) σ1 I1 J1 (u2 R1 (s.1 0 u + 1) k (pn (kid s (s.1 4 (s.1 3 t + k))).1.1 (kid s (s.1 4 (s.1 3 t + k))).2)) := ⟨S1.setR (Or.inl r3), q3, K2, E1⟩
    obtain ⟨σ', I', J', R', z1, z2, z3, z4⟩ := ih _ σ1 I1 J1 _ (k + 1) n (by omega) ci2 (by have := q4.2.1; omega) (by have := q4.2.2.2.1; omega) (by have := q4.1; omega) (by rw [e 1 t (by omega) (by omega) (by omega)]; exact ft) (by rw [e 1 u (by omega) (by omega) u2']; exact fu) (by rw [e 2 t (by omega) (by omega) (by omega)]; omega) (by rw [e 2 u (by omega) (by omega) u2']; omega)
    rw [e 0 t (by omega) (by omega) (by omega), e 0 u (by omega) (by omega) u2'] at z1
    have ek : ((k : Int) + 1) = ((k + 1 : Nat) : Int) := by omega
    refine ⟨σ', I', J', R', ?_, z2, (c2.tr ⟨Ag.rf, Ag.rf, Ag.st Ag.rf (far_in (by omega) (by have := q2.2.2.1; omega) rfl)⟩).tr z3, by omega⟩
    rw [← z1, gX11_copied_l120]
    rcases c4 with ⟨d0, d1, d2, rfl, rfl, rfl, rfl⟩ | ⟨d0, d1⟩
    · rw [d1, d2] at ok ⊢
      subst d0
      simp (disch := omega) only [fail_r, no_r, nob_r, fI_o, Nat.reduceLeDiff, ↓reduceIte, not_true_eq_false, not_false_eq_true, false_imp_iff, true_imp_iff, and_true, true_and, and_self, implies_true, false_or, or_false, true_or, or_true, d10, d01, d00, d11, g_tn, Tot_some, Tot_none, Tot_ite, Tot_bind, ob_some, onl_n, onl_s, nat32, Int.toNat_natCast, i_add, i_sub, i_mul, i_addl, i_addr, i_subl, i_subr, i_mulr, i_addn, i_gd, i_tn, i_w, i_ltlT, i_ltlF, i_ltrT, i_ltrF, i_lelT, i_lelF, i_lerT, i_lerF, i_eqlT, i_eqlF, i_eqrT, i_eqrF, i_ltnT, i_ltnF, i_lenT, i_lenF, i_eqnT, i_eqnF, i_ltT, i_ltF, i_leT, i_leF, i_eqT, i_eqF, j_ltlT, j_ltlF, j_ltrT, j_ltrF, j_lelT, j_lelF, j_lerT, j_lerF, j_eqlT, j_eqlF, j_ltT, j_ltF, j_leT, j_leF, j_eqT, j_eqF, i_mull, l_tn, l_lt0, l_ne0, nleF, tX11_isStockT, tX11_isStockF, tX11_isBinT, tX11_isBinF, tX11_isPlanT, tX11_isPlanF, tX11_isValveT, tX11_isValveF, tX11_isLaneT, tX11_isLaneF, tX11_isGridFormT, tX11_isGridFormF, tX11_isFormT, tX11_isFormF, tX11_isTrayFormT, tX11_isTrayFormF, tX11_isPlacesFormT, tX11_isPlacesFormF, tX11_isTableT, tX11_isTableF, tX11_isProbeT, tX11_isProbeF, tX11_isHouseT, tX11_isHouseF, tX11_isPestT, tX11_isPestF, tX11_isStageT, tX11_isStageF, tX11_isPartT, tX11_isPartF, tX12_isBinT, tX12_isBinF, tX12_isTableT, tX12_isTableF, tX12_inT, tX12_inF, tX12_innT, tX12_innF, tX12_ingT, tX12_ingF, tX12_isStageT, tX12_isStageF, tX1_isByteT, tX1_isByteF, p1, p2, p3, p4, o1, o2, o3, o4, o5, ok, ek]
    · have d0' : (x2 = 0) = False := eq_false d0
      simp (disch := omega) only [fail_r, no_r, nob_r, fI_o, Nat.reduceLeDiff, ↓reduceIte, not_true_eq_false, not_false_eq_true, false_imp_iff, true_imp_iff, and_true, true_and, and_self, implies_true, false_or, or_false, true_or, or_true, d10, d01, d00, d11, g_tn, Tot_some, Tot_none, Tot_ite, Tot_bind, ob_some, onl_n, onl_s, nat32, Int.toNat_natCast, i_add, i_sub, i_mul, i_addl, i_addr, i_subl, i_subr, i_mulr, i_addn, i_gd, i_tn, i_w, i_ltlT, i_ltlF, i_ltrT, i_ltrF, i_lelT, i_lelF, i_lerT, i_lerF, i_eqlT, i_eqlF, i_eqrT, i_eqrF, i_ltnT, i_ltnF, i_lenT, i_lenF, i_eqnT, i_eqnF, i_ltT, i_ltF, i_leT, i_leF, i_eqT, i_eqF, j_ltlT, j_ltlF, j_ltrT, j_ltrF, j_lelT, j_lelF, j_lerT, j_lerF, j_eqlT, j_eqlF, j_ltT, j_ltF, j_leT, j_leF, j_eqT, j_eqF, i_mull, l_tn, l_lt0, l_ne0, nleF, tX11_isStockT, tX11_isStockF, tX11_isBinT, tX11_isBinF, tX11_isPlanT, tX11_isPlanF, tX11_isValveT, tX11_isValveF, tX11_isLaneT, tX11_isLaneF, tX11_isGridFormT, tX11_isGridFormF, tX11_isFormT, tX11_isFormF, tX11_isTrayFormT, tX11_isTrayFormF, tX11_isPlacesFormT, tX11_isPlacesFormF, tX11_isTableT, tX11_isTableF, tX11_isProbeT, tX11_isProbeF, tX11_isHouseT, tX11_isHouseF, tX11_isPestT, tX11_isPestF, tX11_isStageT, tX11_isStageF, tX11_isPartT, tX11_isPartF, tX12_isBinT, tX12_isBinF, tX12_isTableT, tX12_isTableF, tX12_inT, tX12_inF, tX12_innT, tX12_innF, tX12_ingT, tX12_ingF, tX12_isStageT, tX12_isStageF, tX1_isByteT, tX1_isByteF, p1, p2, p3, p4, o1, o2, o3, o4, o5, d0', d1]
      unfold gX11_copied_b157
      simp (disch := omega) only [fail_r, no_r, nob_r, fI_o, Nat.reduceLeDiff, ↓reduceIte, not_true_eq_false, not_false_eq_true, false_imp_iff, true_imp_iff, and_true, true_and, and_self, implies_true, false_or, or_false, true_or, or_true, d10, d01, d00, d11, g_tn, Tot_some, Tot_none, Tot_ite, Tot_bind, ob_some, onl_n, onl_s, nat32, Int.toNat_natCast, i_add, i_sub, i_mul, i_addl, i_addr, i_subl, i_subr, i_mulr, i_addn, i_gd, i_tn, i_w, i_ltlT, i_ltlF, i_ltrT, i_ltrF, i_lelT, i_lelF, i_lerT, i_lerF, i_eqlT, i_eqlF, i_eqrT, i_eqrF, i_ltnT, i_ltnF, i_lenT, i_lenF, i_eqnT, i_eqnF, i_ltT, i_ltF, i_leT, i_leF, i_eqT, i_eqF, j_ltlT, j_ltlF, j_ltrT, j_ltrF, j_lelT, j_lelF, j_lerT, j_lerF, j_eqlT, j_eqlF, j_ltT, j_ltF, j_leT, j_leF, j_eqT, j_eqF, i_mull, l_tn, l_lt0, l_ne0, nleF, tX11_isStockT, tX11_isStockF, tX11_isBinT, tX11_isBinF, tX11_isPlanT, tX11_isPlanF, tX11_isValveT, tX11_isValveF, tX11_isLaneT, tX11_isLaneF, tX11_isGridFormT, tX11_isGridFormF, tX11_isFormT, tX11_isFormF, tX11_isTrayFormT, tX11_isTrayFormF, tX11_isPlacesFormT, tX11_isPlacesFormF, tX11_isTableT, tX11_isTableF, tX11_isProbeT, tX11_isProbeF, tX11_isHouseT, tX11_isHouseF, tX11_isPestT, tX11_isPestF, tX11_isStageT, tX11_isStageF, tX11_isPartT, tX11_isPartF, tX12_isBinT, tX12_isBinF, tX12_isTableT, tX12_isTableF, tX12_inT, tX12_inF, tX12_innT, tX12_innF, tX12_ingT, tX12_ingF, tX12_isStageT, tX12_isStageF, tX1_isByteT, tX1_isByteF, r3, r4, ok, ek]
theorem b115_F {F : Nat} {fr : Shp → (Nat → Nat → Int32) → (Nat → Nat → Int64) → (Nat → Nat → Option Nat) → Option Nat → Int32 → Int32 → Option (Shp × (Nat → Nat → Int32) × (Nat → Nat → Int64) × (Nat → Nat → Option Nat) × Option Nat)} {σ : Shp} {I : Nat → Nat → Int32} {J : Nat → Nat → Int64} {R : Nat → Nat → Option Nat} {x1 : Option Nat} {x2 x3 : Int32} {s0 : Option Nat} (hF : FUx = F) : gX11_copied_b115 fr σ I J R x1 x2 x3 s0 = gX11_copied_l120 fr F σ I J R x1 x2 x3 s0 0 := by
  unfold gX11_copied_b115
  rw [hF]
/-- a copy of a thing with places, whatever its children's copies are -/
theorem pl_C {N : Nat → Nat → Int32} {x2 x3 : Int32} {b t n : Nat} {kid : GS → Nat → GS × Nat} {s : GS} {σ : Shp} {I : Nat → Nat → Int32} {J : Nat → Nat → Int64} {R : Nat → Nat → Option Nat} (hG : KG N (s.1 1 t) b kid) (hK : KC N (gX11_copied n) x2 x3 (s.1 1 t) b kid) (hi : CI N s σ I J R) (t1 : 1 ≤ t) (t2 : t ≤ s.1 10 0) (hF : 8 ≤ s.1 1 t ∧ s.1 1 t ≤ 15) (hb : s.1 10 0 + 1 + b * s.1 2 t ≤ 4050) (hx : s.2.2 + 3 + 3 * (b * s.1 2 t) ≤ 899990) (h3 : x3 ≤ 3) : ∃ σ' I' J' R', gX11_copied (n + 1) σ I J R (some (s.1 0 t)) x2 x3 = some (σ', I', J', R', some s.2.2) ∧ CI N (loopS kid t (s.1 10 0 + 1) (s.1 2 t) (plS (s.1 1 t) (s.1 2 t) s) 0) σ' I' J' R' ∧ FC I I' J J' R R' ∧ slx σ' ≤ slx σ + 60 + 60 * (b * s.1 2 t) := by
  obtain ⟨hS, hg, hc, ec⟩ := id hi
  have h198 := hS.1
  obtain ⟨p1, p2, p3, p4, p5, p6⟩ := cth_pl hc t1 t2 hF
  have hz := (hg.2.2.1 t t1 t2).2.2.2.2.1 (by omega)
  have hz3 := (hg.2.2.1 t t1 t2).2.2.2.2.2.1
  obtain ⟨g1, g2, g3, g4, g5, g6, g7⟩ := pl_G (f := s.1 1 t) (z := s.1 2 t) hg hF hz hz3 (by omega)
  have e := g2.2.2.2.2.2.1
  have n1 := newPl_r (σ := σ) (I := I) (R := R) (x := Int32.ofInt (s.1 1 t)) (z := s.1 2 t) (by omega)
  have S1 := pX11_newPlaces hS n1
  have k1 := cl_pl (f := s.1 1 t) (z := s.1 2 t) hS (by omega) hg hc hF
  rw [ec] at k1 n1 S1
  have ci : CI N (plS (s.1 1 t) (s.1 2 t) s) (shP σ (s.1 2 t)) (u2 (u2 I 4 12 (I 4 12 + 1)) s.2.2 0 (Int32.ofInt (s.1 1 t))) J (u2 (u2 R s.2.2 1 (some 0)) s.2.2 2 (some (s.2.2 + 1))) := ⟨S1, g1, k1, by rw [shP_n]; show _ = s.2.2 + 2; omega⟩
  obtain ⟨σ', I', J', R', r1, r2, r3, r4⟩ := loop_C (u := s.1 10 0 + 1) hG hK t1 (by omega) hF (s.1 2 t) _ _ _ _ _ 0 FUx (by rw [FUx_eq]; omega) ci (by omega) (by have := g2.2.2.2.1; omega) (by omega) (e 1 t (by omega) (by omega) t2) g4 (by rw [e 2 t (by omega) (by omega) t2]; omega) (by omega)
  rw [e 0 t (by omega) (by omega) t2, g7, show Int32.ofInt ((0 : Nat) : Int) = 0 from rfl] at r1
  have h3' : (x3 ≤ 3) = True := eq_true h3
  have ir := k_rowF (σ := σ) (I := I) p1 p6 (by omega)
  refine ⟨σ', I', J', R', ?_, r2, FC.tr ⟨?_, Ag.rf, ?_⟩ r3, ?_⟩
  · obtain ⟨F, hF⟩ : ∃ F, FUx = F := ⟨_, rfl⟩
    rw [hF] at r1
    rw [gX11_copied]
    simp only [b115_F hF]
    simp (disch := omega) only [fail_r, no_r, nob_r, fI_o, Nat.reduceLeDiff, ↓reduceIte, not_true_eq_false, not_false_eq_true, false_imp_iff, true_imp_iff, and_true, true_and, and_self, implies_true, false_or, or_false, true_or, or_true, d10, d01, d00, d11, g_tn, Tot_some, Tot_none, Tot_ite, Tot_bind, ob_some, onl_n, onl_s, nat32, Int.toNat_natCast, i_add, i_sub, i_mul, i_addl, i_addr, i_subl, i_subr, i_mulr, i_addn, i_gd, i_tn, i_w, i_ltlT, i_ltlF, i_ltrT, i_ltrF, i_lelT, i_lelF, i_lerT, i_lerF, i_eqlT, i_eqlF, i_eqrT, i_eqrF, i_ltnT, i_ltnF, i_lenT, i_lenF, i_eqnT, i_eqnF, i_ltT, i_ltF, i_leT, i_leF, i_eqT, i_eqF, j_ltlT, j_ltlF, j_ltrT, j_ltrF, j_lelT, j_lelF, j_lerT, j_lerF, j_eqlT, j_eqlF, j_ltT, j_ltF, j_leT, j_leF, j_eqT, j_eqF, i_mull, l_tn, l_lt0, l_ne0, nleF, tX11_isStockT, tX11_isStockF, tX11_isBinT, tX11_isBinF, tX11_isPlanT, tX11_isPlanF, tX11_isValveT, tX11_isValveF, tX11_isLaneT, tX11_isLaneF, tX11_isGridFormT, tX11_isGridFormF, tX11_isFormT, tX11_isFormF, tX11_isTrayFormT, tX11_isTrayFormF, tX11_isPlacesFormT, tX11_isPlacesFormF, tX11_isTableT, tX11_isTableF, tX11_isProbeT, tX11_isProbeF, tX11_isHouseT, tX11_isHouseF, tX11_isPestT, tX11_isPestF, tX11_isStageT, tX11_isStageF, tX11_isPartT, tX11_isPartF, tX12_isBinT, tX12_isBinF, tX12_isTableT, tX12_isTableF, tX12_inT, tX12_inF, tX12_innT, tX12_innF, tX12_ingT, tX12_ingF, tX12_isStageT, tX12_isStageF, tX1_isByteT, tX1_isByteF, p1, p2, p3, p4, p6, h3', ir, n1]
    exact r1
  · exact Ag.st (Ag.st Ag.rf rfl) (far_in (by omega) (by omega) rfl)
  · exact Ag.st (Ag.st Ag.rf (far_in (by omega) (by omega) rfl)) (far_in (by omega) (by omega) rfl)
  · rw [shP_s] at r4; omega
theorem KC_0 {N : Nat → Nat → Int32} {fr : Shp → (Nat → Nat → Int32) → (Nat → Nat → Int64) → (Nat → Nat → Option Nat) → Option Nat → Int32 → Int32 → Option (Shp × (Nat → Nat → Int32) × (Nat → Nat → Int64) × (Nat → Nat → Option Nat) × Option Nat)} {x3 : Int32} {F : Nat} : KC N fr 0 x3 F 0 kid0 := fun s σ I J R x hi _ _ _ _ => ⟨σ, I, J, R, hi, FC.rf, by omega, Or.inl ⟨rfl, rfl, rfl, rfl, rfl, rfl, rfl⟩⟩
theorem KC_T {N : Nat → Nat → Int32} {x2 x3 : Int32} {F n : Nat} (hF : 12 ≤ F) (h2 : x2 ≠ 0) : KC N (gX11_copied (n + 1)) x2 x3 F 0 kid0 := fun s σ I J R x hi _ _ hx hp => by
  refine ⟨σ, I, J, R, hi, FC.rf, by omega, Or.inr ⟨h2, ?_⟩⟩
  show gX11_copied (n + 1) σ I J R (pn s.1 x) 1 (x3 + 1) = some (σ, I, J, R, pn s.1 x)
  rw [gX11_copied]
  by_cases q : x = 0
  · rw [q, pn_0]; rfl
  · obtain ⟨⟨a1, -⟩, ⟨b1, -⟩, -⟩ := hi.2.2.1.2.2.1 x (by omega) hx
    have f := hp q
    have f16 : s.1 1 x = 16 := by unfold plFor at f; omega
    rw [f16] at b1
    rw [pn_1 (by omega)]
    have b1' : I (s.1 0 x) 0 = 16 := b1
    simp only [onl_s]
    rw [if_pos a1, if_pos b1']
theorem KC_R {N : Nat → Nat → Int32} {x2 x3 : Int32} {F n : Nat} (hF : 8 ≤ F ∧ F ≤ 10) (h2 : x2 ≠ 0) (h3 : x3 + 1 ≤ 3) : KC N (gX11_copied (n + 1)) x2 x3 F 1 kidR := fun s σ I J R x hi hb hn hx hp => by
  unfold kidR
  by_cases q : x = 0
  · rw [if_pos q]
    refine ⟨σ, I, J, R, hi, FC.rf, by omega, Or.inr ⟨h2, ?_⟩⟩
    rw [q, pn_0, gX11_copied]; rfl
  · rw [if_neg q]
    have f := hp q
    have f7 : s.1 1 x ≤ 7 := by unfold plFor at f; omega
    obtain ⟨σ', I', J', R', r1, r2, r3, r4⟩ := row_C (n := n) (d := 1) (x3 := x3 + 1) hi (by omega) hx f7 hb (by omega) h3
    refine ⟨σ', I', J', R', r2, r3, by omega, Or.inr ⟨h2, ?_⟩⟩
    obtain ⟨-, -, -, -, -, g6⟩ := row_G hi.2.1 (by omega) hx f7 hb
    rw [pn_1 (by omega), pn_1 (by omega)]
    show _ = some (σ', I', J', R', some ((rowS x s).1 0 (s.1 10 0 + 1)))
    rw [g6]
    exact r1
theorem KC_G {N : Nat → Nat → Int32} {x2 x3 : Int32} {n : Nat} (h2 : x2 ≠ 0) (h3 : x3 + 1 ≤ 3) (h4 : x3 + 1 + 1 ≤ 3) : KC N (gX11_copied (n + 2)) x2 x3 11 11 kidG := fun s σ I J R x hi hb hn hx hp => by
  unfold kidG
  by_cases q : x = 0
  · rw [if_pos q]
    refine ⟨σ, I, J, R, hi, FC.rf, by omega, Or.inr ⟨h2, ?_⟩⟩
    rw [q, pn_0, gX11_copied]; rfl
  · rw [if_neg q]
    have f := hp q
    have f9 : s.1 1 x = 9 := by unfold plFor at f; omega
    have hz := (hi.2.1.2.2.1 x (by omega) hx).2.2.2.2.1 (by omega)
    obtain ⟨σ', I', J', R', r1, r2, r3, r4⟩ := pl_C (x2 := 1) (x3 := x3 + 1) (n := n + 1) (t := x) (KG_R (by omega)) (KC_R (by omega) (by decide) h4) hi (by omega) hx (by omega) (by omega) (by omega) h3
    refine ⟨σ', I', J', R', r2, r3, by omega, Or.inr ⟨h2, ?_⟩⟩
    obtain ⟨-, -, -, -, g6⟩ := grid_G hi.2.1 (by omega) hx (by omega) hb
    rw [pn_1 (by omega), pn_1 (by omega)]
    show _ = some (σ', I', J', R', some ((gridS x s).1 0 (s.1 10 0 + 1)))
    rw [g6]
    exact r1
