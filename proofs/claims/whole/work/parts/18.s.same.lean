/-! ===== minute: the class counts alike minutes, and the middle ===== -/
def fsmH (I : Nat → Nat → Int32) (J : Nat → Nat → Int64) (p : Nat) : Int32 := if I (43 + p) 4 = 0 then 1 else if J 52 p = J 54 p then I (43 + p) 4 + 1 else 1
def fmvH (I : Nat → Nat → Int32) (J : Nat → Nat → Int64) (p : Nat) : Int32 := if I (43 + p) 4 = 0 then 0 else if J 52 p = J 54 p then 0 else 1
theorem fmvH_01 (I : Nat → Nat → Int32) (J : Nat → Nat → Int64) (p : Nat) : fmvH I J p = 0 ∨ fmvH I J p = 1 := by
  unfold fmvH
  split
  · exact Or.inl rfl
  · split
    · exact Or.inl rfl
    · exact Or.inr rfl
theorem cs_step {σ : Shp} {R : Nat → Nat → Option Nat} {n : Nat} {I : Nat → Nat → Int32} {J : Nat → Nat → Int64} {x2 : Int32} {p : Nat} (hp : p < 9) (hx : x2 = 0 ∨ x2 = 1) : gX4_countSame_l4 σ R (n + 1) I J x2 (Int32.ofInt (p : Int)) = gX4_countSame_l4 σ R n (u2 I (43 + p) 4 (fsmH I J p)) (u2 J 54 p (J 52 p)) (if x2 = 0 then fmvH I J p else 1) (Int32.ofInt ((p + 3 : Nat) : Int)) := by
  have e3 : ((p : Int) + 3) = ((p + 3 : Nat) : Int) := by omega
  rw [gX4_countSame_l4]
  unfold gX4_countSame_b26 gX4_countSame_b54 gX4_countSame_b75
  by_cases c1 : I (43 + p) 4 = 0
  · have f1 : fsmH I J p = 1 := if_pos c1
    have f2 : fmvH I J p = 0 := if_pos c1
    rw [f1, f2]
    rcases hx with rfl | rfl
    · simp (disch := omega) only [fail_r, no_r, nob_r, fI_o, Nat.reduceLeDiff, ↓reduceIte, not_true_eq_false, not_false_eq_true, false_imp_iff, true_imp_iff, and_true, true_and, and_self, implies_true, false_or, or_false, true_or, or_true, d10, d01, d00, d11, g_tn, Tot_some, Tot_none, Tot_ite, Tot_bind, ob_some, onl_n, onl_s, nat32, Int.toNat_natCast, i_add, i_sub, i_mul, i_addl, i_addr, i_subl, i_subr, i_mulr, i_addn, i_gd, i_tn, i_w, i_ltlT, i_ltlF, i_ltrT, i_ltrF, i_lelT, i_lelF, i_lerT, i_lerF, i_eqlT, i_eqlF, i_eqrT, i_eqrF, i_ltnT, i_ltnF, i_lenT, i_lenF, i_eqnT, i_eqnF, i_ltT, i_ltF, i_leT, i_leF, i_eqT, i_eqF, j_ltlT, j_ltlF, j_ltrT, j_ltrF, j_lelT, j_lelF, j_lerT, j_lerF, j_eqlT, j_eqlF, j_ltT, j_ltF, j_leT, j_leF, j_eqT, j_eqF, i_mull, l_tn, l_lt0, l_ne0, nleF, tX11_isStockT, tX11_isStockF, tX11_isBinT, tX11_isBinF, tX11_isPlanT, tX11_isPlanF, tX11_isValveT, tX11_isValveF, tX11_isLaneT, tX11_isLaneF, tX11_isGridFormT, tX11_isGridFormF, tX11_isFormT, tX11_isFormF, tX11_isTrayFormT, tX11_isTrayFormF, tX11_isPlacesFormT, tX11_isPlacesFormF, tX11_isTableT, tX11_isTableF, tX11_isProbeT, tX11_isProbeF, tX11_isHouseT, tX11_isHouseF, tX11_isPestT, tX11_isPestF, tX11_isStageT, tX11_isStageF, tX11_isPartT, tX11_isPartF, tX12_isBinT, tX12_isBinF, tX12_isTableT, tX12_isTableF, tX12_inT, tX12_inF, tX12_innT, tX12_innF, tX12_ingT, tX12_ingF, tX12_isStageT, tX12_isStageF, tX1_isByteT, tX1_isByteF, c1, e3]
    · simp (disch := omega) only [fail_r, no_r, nob_r, fI_o, Nat.reduceLeDiff, ↓reduceIte, not_true_eq_false, not_false_eq_true, false_imp_iff, true_imp_iff, and_true, true_and, and_self, implies_true, false_or, or_false, true_or, or_true, d10, d01, d00, d11, g_tn, Tot_some, Tot_none, Tot_ite, Tot_bind, ob_some, onl_n, onl_s, nat32, Int.toNat_natCast, i_add, i_sub, i_mul, i_addl, i_addr, i_subl, i_subr, i_mulr, i_addn, i_gd, i_tn, i_w, i_ltlT, i_ltlF, i_ltrT, i_ltrF, i_lelT, i_lelF, i_lerT, i_lerF, i_eqlT, i_eqlF, i_eqrT, i_eqrF, i_ltnT, i_ltnF, i_lenT, i_lenF, i_eqnT, i_eqnF, i_ltT, i_ltF, i_leT, i_leF, i_eqT, i_eqF, j_ltlT, j_ltlF, j_ltrT, j_ltrF, j_lelT, j_lelF, j_lerT, j_lerF, j_eqlT, j_eqlF, j_ltT, j_ltF, j_leT, j_leF, j_eqT, j_eqF, i_mull, l_tn, l_lt0, l_ne0, nleF, tX11_isStockT, tX11_isStockF, tX11_isBinT, tX11_isBinF, tX11_isPlanT, tX11_isPlanF, tX11_isValveT, tX11_isValveF, tX11_isLaneT, tX11_isLaneF, tX11_isGridFormT, tX11_isGridFormF, tX11_isFormT, tX11_isFormF, tX11_isTrayFormT, tX11_isTrayFormF, tX11_isPlacesFormT, tX11_isPlacesFormF, tX11_isTableT, tX11_isTableF, tX11_isProbeT, tX11_isProbeF, tX11_isHouseT, tX11_isHouseF, tX11_isPestT, tX11_isPestF, tX11_isStageT, tX11_isStageF, tX11_isPartT, tX11_isPartF, tX12_isBinT, tX12_isBinF, tX12_isTableT, tX12_isTableF, tX12_inT, tX12_inF, tX12_innT, tX12_innF, tX12_ingT, tX12_ingF, tX12_isStageT, tX12_isStageF, tX1_isByteT, tX1_isByteF, c1, e3]
  · by_cases c2 : J 52 p = J 54 p
    · have f1 : fsmH I J p = I (43 + p) 4 + 1 := by unfold fsmH; rw [if_neg c1, if_pos c2]
      have f2 : fmvH I J p = 0 := by unfold fmvH; rw [if_neg c1, if_pos c2]
      rw [f1, f2]
      have c1' := eq_false c1
      rcases hx with rfl | rfl
      · simp (disch := omega) only [fail_r, no_r, nob_r, fI_o, Nat.reduceLeDiff, ↓reduceIte, not_true_eq_false, not_false_eq_true, false_imp_iff, true_imp_iff, and_true, true_and, and_self, implies_true, false_or, or_false, true_or, or_true, d10, d01, d00, d11, g_tn, Tot_some, Tot_none, Tot_ite, Tot_bind, ob_some, onl_n, onl_s, nat32, Int.toNat_natCast, i_add, i_sub, i_mul, i_addl, i_addr, i_subl, i_subr, i_mulr, i_addn, i_gd, i_tn, i_w, i_ltlT, i_ltlF, i_ltrT, i_ltrF, i_lelT, i_lelF, i_lerT, i_lerF, i_eqlT, i_eqlF, i_eqrT, i_eqrF, i_ltnT, i_ltnF, i_lenT, i_lenF, i_eqnT, i_eqnF, i_ltT, i_ltF, i_leT, i_leF, i_eqT, i_eqF, j_ltlT, j_ltlF, j_ltrT, j_ltrF, j_lelT, j_lelF, j_lerT, j_lerF, j_eqlT, j_eqlF, j_ltT, j_ltF, j_leT, j_leF, j_eqT, j_eqF, i_mull, l_tn, l_lt0, l_ne0, nleF, tX11_isStockT, tX11_isStockF, tX11_isBinT, tX11_isBinF, tX11_isPlanT, tX11_isPlanF, tX11_isValveT, tX11_isValveF, tX11_isLaneT, tX11_isLaneF, tX11_isGridFormT, tX11_isGridFormF, tX11_isFormT, tX11_isFormF, tX11_isTrayFormT, tX11_isTrayFormF, tX11_isPlacesFormT, tX11_isPlacesFormF, tX11_isTableT, tX11_isTableF, tX11_isProbeT, tX11_isProbeF, tX11_isHouseT, tX11_isHouseF, tX11_isPestT, tX11_isPestF, tX11_isStageT, tX11_isStageF, tX11_isPartT, tX11_isPartF, tX12_isBinT, tX12_isBinF, tX12_isTableT, tX12_isTableF, tX12_inT, tX12_inF, tX12_innT, tX12_innF, tX12_ingT, tX12_ingF, tX12_isStageT, tX12_isStageF, tX1_isByteT, tX1_isByteF, c1', c2, e3]
      · simp (disch := omega) only [fail_r, no_r, nob_r, fI_o, Nat.reduceLeDiff, ↓reduceIte, not_true_eq_false, not_false_eq_true, false_imp_iff, true_imp_iff, and_true, true_and, and_self, implies_true, false_or, or_false, true_or, or_true, d10, d01, d00, d11, g_tn, Tot_some, Tot_none, Tot_ite, Tot_bind, ob_some, onl_n, onl_s, nat32, Int.toNat_natCast, i_add, i_sub, i_mul, i_addl, i_addr, i_subl, i_subr, i_mulr, i_addn, i_gd, i_tn, i_w, i_ltlT, i_ltlF, i_ltrT, i_ltrF, i_lelT, i_lelF, i_lerT, i_lerF, i_eqlT, i_eqlF, i_eqrT, i_eqrF, i_ltnT, i_ltnF, i_lenT, i_lenF, i_eqnT, i_eqnF, i_ltT, i_ltF, i_leT, i_leF, i_eqT, i_eqF, j_ltlT, j_ltlF, j_ltrT, j_ltrF, j_lelT, j_lelF, j_lerT, j_lerF, j_eqlT, j_eqlF, j_ltT, j_ltF, j_leT, j_leF, j_eqT, j_eqF, i_mull, l_tn, l_lt0, l_ne0, nleF, tX11_isStockT, tX11_isStockF, tX11_isBinT, tX11_isBinF, tX11_isPlanT, tX11_isPlanF, tX11_isValveT, tX11_isValveF, tX11_isLaneT, tX11_isLaneF, tX11_isGridFormT, tX11_isGridFormF, tX11_isFormT, tX11_isFormF, tX11_isTrayFormT, tX11_isTrayFormF, tX11_isPlacesFormT, tX11_isPlacesFormF, tX11_isTableT, tX11_isTableF, tX11_isProbeT, tX11_isProbeF, tX11_isHouseT, tX11_isHouseF, tX11_isPestT, tX11_isPestF, tX11_isStageT, tX11_isStageF, tX11_isPartT, tX11_isPartF, tX12_isBinT, tX12_isBinF, tX12_isTableT, tX12_isTableF, tX12_inT, tX12_inF, tX12_innT, tX12_innF, tX12_ingT, tX12_ingF, tX12_isStageT, tX12_isStageF, tX1_isByteT, tX1_isByteF, c1', c2, e3]
    · have f1 : fsmH I J p = 1 := by unfold fsmH; rw [if_neg c1, if_neg c2]
      have f2 : fmvH I J p = 1 := by unfold fmvH; rw [if_neg c1, if_neg c2]
      rw [f1, f2]
      have c1' := eq_false c1
      have c2' := eq_false c2
      rcases hx with rfl | rfl
      · simp (disch := omega) only [fail_r, no_r, nob_r, fI_o, Nat.reduceLeDiff, ↓reduceIte, not_true_eq_false, not_false_eq_true, false_imp_iff, true_imp_iff, and_true, true_and, and_self, implies_true, false_or, or_false, true_or, or_true, d10, d01, d00, d11, g_tn, Tot_some, Tot_none, Tot_ite, Tot_bind, ob_some, onl_n, onl_s, nat32, Int.toNat_natCast, i_add, i_sub, i_mul, i_addl, i_addr, i_subl, i_subr, i_mulr, i_addn, i_gd, i_tn, i_w, i_ltlT, i_ltlF, i_ltrT, i_ltrF, i_lelT, i_lelF, i_lerT, i_lerF, i_eqlT, i_eqlF, i_eqrT, i_eqrF, i_ltnT, i_ltnF, i_lenT, i_lenF, i_eqnT, i_eqnF, i_ltT, i_ltF, i_leT, i_leF, i_eqT, i_eqF, j_ltlT, j_ltlF, j_ltrT, j_ltrF, j_lelT, j_lelF, j_lerT, j_lerF, j_eqlT, j_eqlF, j_ltT, j_ltF, j_leT, j_leF, j_eqT, j_eqF, i_mull, l_tn, l_lt0, l_ne0, nleF, tX11_isStockT, tX11_isStockF, tX11_isBinT, tX11_isBinF, tX11_isPlanT, tX11_isPlanF, tX11_isValveT, tX11_isValveF, tX11_isLaneT, tX11_isLaneF, tX11_isGridFormT, tX11_isGridFormF, tX11_isFormT, tX11_isFormF, tX11_isTrayFormT, tX11_isTrayFormF, tX11_isPlacesFormT, tX11_isPlacesFormF, tX11_isTableT, tX11_isTableF, tX11_isProbeT, tX11_isProbeF, tX11_isHouseT, tX11_isHouseF, tX11_isPestT, tX11_isPestF, tX11_isStageT, tX11_isStageF, tX11_isPartT, tX11_isPartF, tX12_isBinT, tX12_isBinF, tX12_isTableT, tX12_isTableF, tX12_inT, tX12_inF, tX12_innT, tX12_innF, tX12_ingT, tX12_ingF, tX12_isStageT, tX12_isStageF, tX1_isByteT, tX1_isByteF, c1', c2', e3]
      · simp (disch := omega) only [fail_r, no_r, nob_r, fI_o, Nat.reduceLeDiff, ↓reduceIte, not_true_eq_false, not_false_eq_true, false_imp_iff, true_imp_iff, and_true, true_and, and_self, implies_true, false_or, or_false, true_or, or_true, d10, d01, d00, d11, g_tn, Tot_some, Tot_none, Tot_ite, Tot_bind, ob_some, onl_n, onl_s, nat32, Int.toNat_natCast, i_add, i_sub, i_mul, i_addl, i_addr, i_subl, i_subr, i_mulr, i_addn, i_gd, i_tn, i_w, i_ltlT, i_ltlF, i_ltrT, i_ltrF, i_lelT, i_lelF, i_lerT, i_lerF, i_eqlT, i_eqlF, i_eqrT, i_eqrF, i_ltnT, i_ltnF, i_lenT, i_lenF, i_eqnT, i_eqnF, i_ltT, i_ltF, i_leT, i_leF, i_eqT, i_eqF, j_ltlT, j_ltlF, j_ltrT, j_ltrF, j_lelT, j_lelF, j_lerT, j_lerF, j_eqlT, j_eqlF, j_ltT, j_ltF, j_leT, j_leF, j_eqT, j_eqF, i_mull, l_tn, l_lt0, l_ne0, nleF, tX11_isStockT, tX11_isStockF, tX11_isBinT, tX11_isBinF, tX11_isPlanT, tX11_isPlanF, tX11_isValveT, tX11_isValveF, tX11_isLaneT, tX11_isLaneF, tX11_isGridFormT, tX11_isGridFormF, tX11_isFormT, tX11_isFormF, tX11_isTrayFormT, tX11_isTrayFormF, tX11_isPlacesFormT, tX11_isPlacesFormF, tX11_isTableT, tX11_isTableF, tX11_isProbeT, tX11_isProbeF, tX11_isHouseT, tX11_isHouseF, tX11_isPestT, tX11_isPestF, tX11_isStageT, tX11_isStageF, tX11_isPartT, tX11_isPartF, tX12_isBinT, tX12_isBinF, tX12_isTableT, tX12_isTableF, tX12_inT, tX12_inF, tX12_innT, tX12_innF, tX12_ingT, tX12_ingF, tX12_isStageT, tX12_isStageF, tX1_isByteT, tX1_isByteF, c1', c2', e3]
theorem cs_end {σ : Shp} {R : Nat → Nat → Option Nat} {n : Nat} {I : Nat → Nat → Int32} {J : Nat → Nat → Int64} {x2 : Int32} {p : Nat} (hp : 9 ≤ p ∧ p < 100) (hx : x2 = 0 ∨ x2 = 1) : gX4_countSame_l4 σ R (n + 1) I J x2 (Int32.ofInt (p : Int)) = some (I, J, x2) := by
  rw [gX4_countSame_l4, if_pos (by rw [i_ler (by omega)]; omega), if_pos hx]
theorem fs_u {I : Nat → Nat → Int32} {J : Nat → Nat → Int64} {p q : Nat} {v : Int32} {w : Int64} (h : q ≠ p) : fsmH (u2 I (43 + p) 4 v) (u2 J 54 p w) q = fsmH I J q ∧ fmvH (u2 I (43 + p) 4 v) (u2 J 54 p w) q = fmvH I J q := by
  unfold fsmH fmvH
  rw [u2n (by omega), u2n (by omega), u2n (by omega)]
  exact ⟨rfl, rfl⟩
def or3 (a b c : Int32) : Int32 := if (if a = 0 then b else 1) = 0 then c else 1
/-- all three probes of a house -/
theorem cs_all {σ : Shp} {R : Nat → Nat → Option Nat} {I : Nat → Nat → Int32} {J : Nat → Nat → Int64} {h : Nat} (hh : h < 3) : gX4_countSame σ I J R (Int32.ofInt (h : Int)) = some (u2 (u2 (u2 I (43 + h) 4 (fsmH I J h)) (43 + (h + 3)) 4 (fsmH I J (h + 3))) (43 + (h + 6)) 4 (fsmH I J (h + 6)), u2 (u2 (u2 J 54 h (J 52 h)) 54 (h + 3) (J 52 (h + 3))) 54 (h + 6) (J 52 (h + 6)), or3 (fmvH I J h) (fmvH I J (h + 3)) (fmvH I J (h + 6))) := by
  obtain ⟨F, hF⟩ : ∃ F, FUx = F := ⟨_, rfl⟩
  have hF' : F = 2000000 := by rw [← hF, FUx_eq]
  obtain ⟨f, rfl⟩ : ∃ f, F = f + 4 := ⟨F - 4, by omega⟩
  unfold gX4_countSame
  have o1 : (if (0 : Int32) = 0 then fmvH I J h else 1) = fmvH I J h := if_pos rfl
  have z1 := fmvH_01 I J h
  have z2 := fmvH_01 I J (h + 3)
  have z3 := fmvH_01 I J (h + 6)
  have z12 : (if fmvH I J h = 0 then fmvH I J (h + 3) else 1) = 0 ∨ (if fmvH I J h = 0 then fmvH I J (h + 3) else 1) = 1 := by
    by_cases c : fmvH I J h = 0
    · rw [if_pos c]; exact z2
    · rw [if_neg c]; exact Or.inr rfl
  have z123 : or3 (fmvH I J h) (fmvH I J (h + 3)) (fmvH I J (h + 6)) = 0 ∨ or3 (fmvH I J h) (fmvH I J (h + 3)) (fmvH I J (h + 6)) = 1 := by
    unfold or3
    by_cases c : (if fmvH I J h = 0 then fmvH I J (h + 3) else 1) = 0
    · rw [if_pos c]; exact z3
    · rw [if_neg c]; exact Or.inr rfl
  rw [hF, cs_step (by omega) (Or.inl rfl), o1, cs_step (by omega) z1, (fs_u (by omega)).1, (fs_u (by omega)).2, show h + 3 + 3 = h + 6 by omega, cs_step (by omega) z12]
  have a1 : fsmH (u2 (u2 I (43 + h) 4 (fsmH I J h)) (43 + (h + 3)) 4 (fsmH I J (h + 3))) (u2 (u2 J 54 h (J 52 h)) 54 (h + 3) (u2 J 54 h (J 52 h) 52 (h + 3))) (h + 6) = fsmH I J (h + 6) := by
    rw [(fs_u (by omega)).1, (fs_u (by omega)).1]
  have a2 : fmvH (u2 (u2 I (43 + h) 4 (fsmH I J h)) (43 + (h + 3)) 4 (fsmH I J (h + 3))) (u2 (u2 J 54 h (J 52 h)) 54 (h + 3) (u2 J 54 h (J 52 h) 52 (h + 3))) (h + 6) = fmvH I J (h + 6) := by
    rw [(fs_u (by omega)).2, (fs_u (by omega)).2]
  rw [a1, a2]
  rw [show (if (if fmvH I J h = 0 then fmvH I J (h + 3) else 1) = 0 then fmvH I J (h + 6) else 1) = or3 (fmvH I J h) (fmvH I J (h + 3)) (fmvH I J (h + 6)) from rfl, cs_end (by omega) z123]
  rw [u2n (f := J) (by omega), u2n (f := u2 J 54 h (J 52 h)) (by omega), u2n (f := J) (by omega)]
/-- is a probe looked at -/
def inr (I : Nat → Nat → Int32) (J : Nat → Nat → Int64) (p : Nat) : Bool := decide (I (43 + p) 0 = 1) && decide (fX11_isNumber (J 52 p) ≠ 0)
/-- a row gets one more, if it is looked at -/
def ap (b : Bool) (v : Int64) (s : (Nat → Int64) × Nat) : (Nat → Int64) × Nat := if b then (updJ s.1 s.2 v, s.2 + 1) else s
theorem ap_t {v : Int64} {s : (Nat → Int64) × Nat} : ap true v s = (updJ s.1 s.2 v, s.2 + 1) := rfl
theorem ap_f {v : Int64} {s : (Nat → Int64) × Nat} : ap false v s = s := rfl
theorem mid_step {σ : Shp} {R : Nat → Nat → Option Nat} {n : Nat} {I : Nat → Nat → Int32} {J : Nat → Nat → Int64} {p c : Nat} (hp : p < 9) (hc : c < 9) : ∃ J', gX4_middleOf_l4 σ I R (n + 1) J (Int32.ofInt (c : Int)) (Int32.ofInt (p : Int)) = gX4_middleOf_l4 σ I R n J' (Int32.ofInt ((ap (inr I J p) (J 52 p) (J 56, c)).2 : Int)) (Int32.ofInt ((p + 3 : Nat) : Int)) ∧ J' 56 = (ap (inr I J p) (J 52 p) (J 56, c)).1 ∧ (∀ a, a ≠ 56 → J' a = J a) := by
  have e3 : ((p : Int) + 3) = ((p + 3 : Nat) : Int) := by omega
  have e1 : ((c : Int) + 1) = ((c + 1 : Nat) : Int) := by omega
  rw [gX4_middleOf_l4]
  by_cases c1 : I (43 + p) 0 = 1
  · by_cases c2 : fX11_isNumber (J 52 p) = 0
    · have e : inr I J p = false := by unfold inr; rw [decide_eq_true c1, decide_eq_false (fun q => q c2)]; rfl
      refine ⟨J, ?_, ?_, fun _ _ => rfl⟩
      · rw [e]
        show _ = gX4_middleOf_l4 σ I R n J (Int32.ofInt (c : Int)) _
        simp (disch := omega) only [fail_r, no_r, nob_r, fI_o, Nat.reduceLeDiff, ↓reduceIte, not_true_eq_false, not_false_eq_true, false_imp_iff, true_imp_iff, and_true, true_and, and_self, implies_true, false_or, or_false, true_or, or_true, d10, d01, d00, d11, g_tn, Tot_some, Tot_none, Tot_ite, Tot_bind, ob_some, onl_n, onl_s, nat32, Int.toNat_natCast, i_add, i_sub, i_mul, i_addl, i_addr, i_subl, i_subr, i_mulr, i_addn, i_gd, i_tn, i_w, i_ltlT, i_ltlF, i_ltrT, i_ltrF, i_lelT, i_lelF, i_lerT, i_lerF, i_eqlT, i_eqlF, i_eqrT, i_eqrF, i_ltnT, i_ltnF, i_lenT, i_lenF, i_eqnT, i_eqnF, i_ltT, i_ltF, i_leT, i_leF, i_eqT, i_eqF, j_ltlT, j_ltlF, j_ltrT, j_ltrF, j_lelT, j_lelF, j_lerT, j_lerF, j_eqlT, j_eqlF, j_ltT, j_ltF, j_leT, j_leF, j_eqT, j_eqF, i_mull, l_tn, l_lt0, l_ne0, nleF, tX11_isStockT, tX11_isStockF, tX11_isBinT, tX11_isBinF, tX11_isPlanT, tX11_isPlanF, tX11_isValveT, tX11_isValveF, tX11_isLaneT, tX11_isLaneF, tX11_isGridFormT, tX11_isGridFormF, tX11_isFormT, tX11_isFormF, tX11_isTrayFormT, tX11_isTrayFormF, tX11_isPlacesFormT, tX11_isPlacesFormF, tX11_isTableT, tX11_isTableF, tX11_isProbeT, tX11_isProbeF, tX11_isHouseT, tX11_isHouseF, tX11_isPestT, tX11_isPestF, tX11_isStageT, tX11_isStageF, tX11_isPartT, tX11_isPartF, tX12_isBinT, tX12_isBinF, tX12_isTableT, tX12_isTableF, tX12_inT, tX12_inF, tX12_innT, tX12_innF, tX12_ingT, tX12_ingF, tX12_isStageT, tX12_isStageF, tX1_isByteT, tX1_isByteF, c1, c2, e3]
      · rw [e]; rfl
    · have e : inr I J p = true := by unfold inr; rw [decide_eq_true c1, decide_eq_true c2]; rfl
      have c2' := eq_false c2
      refine ⟨u2 J 56 c (J 52 p), ?_, ?_, fun a ha => ?_⟩
      · rw [e]
        show _ = gX4_middleOf_l4 σ I R n (u2 J 56 c (J 52 p)) (Int32.ofInt ((c + 1 : Nat) : Int)) _
        simp (disch := omega) only [fail_r, no_r, nob_r, fI_o, Nat.reduceLeDiff, ↓reduceIte, not_true_eq_false, not_false_eq_true, false_imp_iff, true_imp_iff, and_true, true_and, and_self, implies_true, false_or, or_false, true_or, or_true, d10, d01, d00, d11, g_tn, Tot_some, Tot_none, Tot_ite, Tot_bind, ob_some, onl_n, onl_s, nat32, Int.toNat_natCast, i_add, i_sub, i_mul, i_addl, i_addr, i_subl, i_subr, i_mulr, i_addn, i_gd, i_tn, i_w, i_ltlT, i_ltlF, i_ltrT, i_ltrF, i_lelT, i_lelF, i_lerT, i_lerF, i_eqlT, i_eqlF, i_eqrT, i_eqrF, i_ltnT, i_ltnF, i_lenT, i_lenF, i_eqnT, i_eqnF, i_ltT, i_ltF, i_leT, i_leF, i_eqT, i_eqF, j_ltlT, j_ltlF, j_ltrT, j_ltrF, j_lelT, j_lelF, j_lerT, j_lerF, j_eqlT, j_eqlF, j_ltT, j_ltF, j_leT, j_leF, j_eqT, j_eqF, i_mull, l_tn, l_lt0, l_ne0, nleF, tX11_isStockT, tX11_isStockF, tX11_isBinT, tX11_isBinF, tX11_isPlanT, tX11_isPlanF, tX11_isValveT, tX11_isValveF, tX11_isLaneT, tX11_isLaneF, tX11_isGridFormT, tX11_isGridFormF, tX11_isFormT, tX11_isFormF, tX11_isTrayFormT, tX11_isTrayFormF, tX11_isPlacesFormT, tX11_isPlacesFormF, tX11_isTableT, tX11_isTableF, tX11_isProbeT, tX11_isProbeF, tX11_isHouseT, tX11_isHouseF, tX11_isPestT, tX11_isPestF, tX11_isStageT, tX11_isStageF, tX11_isPartT, tX11_isPartF, tX12_isBinT, tX12_isBinF, tX12_isTableT, tX12_isTableF, tX12_inT, tX12_inF, tX12_innT, tX12_innF, tX12_ingT, tX12_ingF, tX12_isStageT, tX12_isStageF, tX1_isByteT, tX1_isByteF, c1, c2', e3, e1]
      · rw [e]
        exact u2_J
      · funext k; exact u2n (by omega)
  · have e : inr I J p = false := by unfold inr; rw [decide_eq_false c1]; rfl
    have c1' := eq_false c1
    refine ⟨J, ?_, ?_, fun _ _ => rfl⟩
    · rw [e]
      show _ = gX4_middleOf_l4 σ I R n J (Int32.ofInt (c : Int)) _
      simp (disch := omega) only [fail_r, no_r, nob_r, fI_o, Nat.reduceLeDiff, ↓reduceIte, not_true_eq_false, not_false_eq_true, false_imp_iff, true_imp_iff, and_true, true_and, and_self, implies_true, false_or, or_false, true_or, or_true, d10, d01, d00, d11, g_tn, Tot_some, Tot_none, Tot_ite, Tot_bind, ob_some, onl_n, onl_s, nat32, Int.toNat_natCast, i_add, i_sub, i_mul, i_addl, i_addr, i_subl, i_subr, i_mulr, i_addn, i_gd, i_tn, i_w, i_ltlT, i_ltlF, i_ltrT, i_ltrF, i_lelT, i_lelF, i_lerT, i_lerF, i_eqlT, i_eqlF, i_eqrT, i_eqrF, i_ltnT, i_ltnF, i_lenT, i_lenF, i_eqnT, i_eqnF, i_ltT, i_ltF, i_leT, i_leF, i_eqT, i_eqF, j_ltlT, j_ltlF, j_ltrT, j_ltrF, j_lelT, j_lelF, j_lerT, j_lerF, j_eqlT, j_eqlF, j_ltT, j_ltF, j_leT, j_leF, j_eqT, j_eqF, i_mull, l_tn, l_lt0, l_ne0, nleF, tX11_isStockT, tX11_isStockF, tX11_isBinT, tX11_isBinF, tX11_isPlanT, tX11_isPlanF, tX11_isValveT, tX11_isValveF, tX11_isLaneT, tX11_isLaneF, tX11_isGridFormT, tX11_isGridFormF, tX11_isFormT, tX11_isFormF, tX11_isTrayFormT, tX11_isTrayFormF, tX11_isPlacesFormT, tX11_isPlacesFormF, tX11_isTableT, tX11_isTableF, tX11_isProbeT, tX11_isProbeF, tX11_isHouseT, tX11_isHouseF, tX11_isPestT, tX11_isPestF, tX11_isStageT, tX11_isStageF, tX11_isPartT, tX11_isPartF, tX12_isBinT, tX12_isBinF, tX12_isTableT, tX12_isTableF, tX12_inT, tX12_inF, tX12_innT, tX12_innF, tX12_ingT, tX12_ingF, tX12_isStageT, tX12_isStageF, tX1_isByteT, tX1_isByteF, c1', e3]
    · rw [e]; rfl
/-- the middle of what is looked at: x, y, z say whether a is at most b, a at most c, b at most c -/
def vC (e0 e1 e2 x y z : Bool) (a b c : Int64) : Int64 :=
  match e0, e1, e2 with
  | false, false, false => 9221120237041090560
  | true, false, false => a
  | false, true, false => b
  | false, false, true => c
  | true, true, false => if x then a else b
  | true, false, true => if y then a else c
  | false, true, true => if z then b else c
  | true, true, true => if x then (if z then b else if y then c else a) else (if y then a else if z then c else b)
theorem insA {a b : Int64} {f : Nat → Int64} : ins b 1 (updJ (updJ f 0 a) 1 b) 0 = if okk a ≤ okk b then a else b := by
  unfold ins
  have e : updJ (updJ f 0 a) 1 b 0 = a := by rw [updJ_n (by decide), updJ_s]
  rw [e]
  by_cases c : okk a ≤ okk b
  · rw [if_pos c, if_pos c, updJ_n (by decide), e]
  · rw [if_neg c, if_neg c]
    exact updJ_s
theorem insB {a b : Int64} {f : Nat → Int64} : ins b 1 (updJ (updJ f 0 a) 1 b) 1 = if okk a ≤ okk b then b else a := by
  unfold ins
  have e : updJ (updJ f 0 a) 1 b 0 = a := by rw [updJ_n (by decide), updJ_s]
  rw [e]
  by_cases c : okk a ≤ okk b
  · rw [if_pos c, if_pos c, updJ_s]
  · rw [if_neg c, if_neg c, ins_far _ _ _ (by decide), updJ_s]
theorem srt2 {a b : Int64} {f : Nat → Int64} : srt (updJ (updJ f 0 a) 1 b) 2 0 = (if okk a ≤ okk b then a else b) ∧ srt (updJ (updJ f 0 a) 1 b) 2 1 = (if okk a ≤ okk b then b else a) := by
  have e : srt (updJ (updJ f 0 a) 1 b) 2 = ins b 1 (updJ (updJ f 0 a) 1 b) := by
    show ins (srt (updJ (updJ f 0 a) 1 b) 1 1) 1 (srt (updJ (updJ f 0 a) 1 b) 1) = _
    rw [srt_1, updJ_s]
  rw [e]
  exact ⟨insA, insB⟩
theorem srt3 {a b c : Int64} {f : Nat → Int64} : srt (updJ (updJ (updJ f 0 a) 1 b) 2 c) 3 1 = if okk a ≤ okk b then (if okk b ≤ okk c then b else if okk a ≤ okk c then c else a) else (if okk a ≤ okk c then a else if okk b ≤ okk c then c else b) := by
  have e0 : srt (updJ (updJ (updJ f 0 a) 1 b) 2 c) 2 2 = c := by rw [srt_far _ _ (Nat.le_refl _), updJ_s]
  have ec : ∀ k, k < 2 → srt (updJ (updJ (updJ f 0 a) 1 b) 2 c) 2 k = srt (updJ (updJ f 0 a) 1 b) 2 k := fun k hk => srt_cong 2 (fun i hi => updJ_n (by omega)) k hk
  have s0 := (ec 0 (by decide)).trans srt2.1
  have s1 := (ec 1 (by decide)).trans srt2.2
  show ins (srt (updJ (updJ (updJ f 0 a) 1 b) 2 c) 2 2) 2 (srt (updJ (updJ (updJ f 0 a) 1 b) 2 c) 2) 1 = _
  rw [e0]
  generalize srt (updJ (updJ (updJ f 0 a) 1 b) 2 c) 2 = g at *
  show (if okk (g 1) ≤ okk c then updJ g 2 c else if okk (updJ g 2 (g 1) 0) ≤ okk c then updJ (updJ g 2 (g 1)) 1 c else updJ (updJ (updJ g 2 (g 1)) 1 (updJ g 2 (g 1) 0)) 0 c) 1 = _
  rw [updJ_n (show (0 : Nat) ≠ 2 by decide), s0, s1]
  by_cases x : okk a ≤ okk b
  · rw [if_pos x, if_pos x, if_pos x]
    by_cases z : okk b ≤ okk c
    · rw [if_pos z, if_pos z, updJ_n (by decide), s1, if_pos x]
    · rw [if_neg z, if_neg z]
      by_cases y : okk a ≤ okk c
      · rw [if_pos y, if_pos y, updJ_s]
      · rw [if_neg y, if_neg y, updJ_n (by decide), updJ_s]
  · rw [if_neg x, if_neg x, if_neg x]
    by_cases y : okk a ≤ okk c
    · rw [if_pos y, if_pos y, updJ_n (by decide), s1, if_neg x]
    · rw [if_neg y, if_neg y]
      by_cases z : okk b ≤ okk c
      · rw [if_pos z, if_pos z, updJ_s]
      · rw [if_neg z, if_neg z, updJ_n (by decide), updJ_s]
theorem mid_end {σ : Shp} {R : Nat → Nat → Option Nat} {n : Nat} {I : Nat → Nat → Int32} {J : Nat → Nat → Int64} {p c : Nat} (hS : Skel σ R) (hp : 9 ≤ p ∧ p < 100) (hc : c ≤ 3) : ∃ J', gX4_middleOf_l4 σ I R (n + 1) J (Int32.ofInt (c : Int)) (Int32.ofInt (p : Int)) = some (J', if c = 0 then 9221120237041090560 else srt (J 56) c ((c - 1) / 2)) ∧ Ag [(56, 57)] J J' := by
  rw [gX4_middleOf_l4, if_pos (by rw [i_ler (by omega)]; omega)]
  by_cases c0 : c = 0
  · rw [if_pos (by rw [i_eql (by omega)]; omega), if_pos c0]
    exact ⟨J, rfl, Ag.rf⟩
  · rw [if_neg (by rw [i_eql (by omega)]; omega), if_neg c0]
    obtain ⟨J', s1, s2, s3⟩ := sort_all (σ := σ) (a := 56) (z := 9) (J := J) (many := c) (hS.k 56 21 (by decide) rfl) (hS.l 56 9 (by decide) rfl) (by decide) (by decide) (by omega) (by omega)
    rw [s1, ob_some, i_subl, show (c : Int) - 1 = ((c - 1 : Nat) : Int) by omega, i_hn (by omega), if_pos (by rw [i_gd (by omega)]; exact not_false), i_tn (by omega), Int.toNat_natCast, s2]
    exact ⟨J', rfl, s3⟩
theorem nwc {c a j : Nat} (h : a ≠ c) (hc : c < 1000000) : inW [(c, c + 1)] (key a j) = false := by
  cases e : inW [(c, c + 1)] (key a j) with
  | false => rfl
  | true =>
    exfalso
    obtain ⟨t, ht, h1, h2⟩ := inW_iff.mp e
    rw [List.mem_singleton] at ht
    subst ht
    have h1 : c ≤ key a j := h1
    have h2 : key a j < c + 1 := h2
    unfold key at h1 h2
    by_cases q1 : a = 114
    · rw [if_pos q1] at h1 h2; omega
    · rw [if_neg q1] at h1 h2
      by_cases q2 : a = 4
      · rw [if_pos q2] at h1 h2; omega
      · rw [if_neg q2] at h1 h2; omega
theorem mid_all {σ : Shp} {R : Nat → Nat → Option Nat} {I : Nat → Nat → Int32} {J : Nat → Nat → Int64} {h : Nat} (hS : Skel σ R) (hh : h < 3) : ∃ J', gX4_middleOf σ I J R (Int32.ofInt (h : Int)) = some (J', vC (inr I J h) (inr I J (h + 3)) (inr I J (h + 6)) (decide (okk (J 52 h) ≤ okk (J 52 (h + 3)))) (decide (okk (J 52 h) ≤ okk (J 52 (h + 6)))) (decide (okk (J 52 (h + 3)) ≤ okk (J 52 (h + 6)))) (J 52 h) (J 52 (h + 3)) (J 52 (h + 6))) ∧ (∀ a, a ≠ 56 → J' a = J a) := by
  obtain ⟨F, hF⟩ : ∃ F, FUx = F := ⟨_, rfl⟩
  have hF' : F = 2000000 := by rw [← hF, FUx_eq]
  obtain ⟨f, rfl⟩ : ∃ f, F = f + 4 := ⟨F - 4, by omega⟩
  unfold gX4_middleOf
  rw [hF]
  obtain ⟨J1, a1, a2, a3⟩ := mid_step (σ := σ) (R := R) (n := f + 3) (I := I) (J := J) (p := h) (c := 0) (by omega) (by decide)
  have q1 : inr I J1 (h + 3) = inr I J (h + 3) := by unfold inr; rw [a3 52 (by decide)]
  have q1' : J1 52 = J 52 := a3 52 (by decide)
  have l1 : (ap (inr I J h) (J 52 h) (J 56, 0)).2 ≤ 1 := by unfold ap; split <;> simp
  obtain ⟨J2, b1, b2, b3⟩ := mid_step (σ := σ) (R := R) (n := f + 2) (I := I) (J := J1) (p := h + 3) (c := (ap (inr I J h) (J 52 h) (J 56, 0)).2) (by omega) (by omega)
  rw [q1, q1', a2] at b1 b2
  have q2 : inr I J2 (h + 6) = inr I J (h + 6) := by unfold inr; rw [b3 52 (by decide), q1']
  have q2' : J2 52 = J 52 := (b3 52 (by decide)).trans q1'
  have l2 : (ap (inr I J (h + 3)) (J 52 (h + 3)) (ap (inr I J h) (J 52 h) (J 56, 0))).2 ≤ 2 := by
    generalize ap (inr I J h) (J 52 h) (J 56, 0) = s at *
    unfold ap; split
    · show s.2 + 1 ≤ 2; omega
    · omega
  obtain ⟨J3, c1, c2, c3⟩ := mid_step (σ := σ) (R := R) (n := f + 1) (I := I) (J := J2) (p := h + 6) (c := (ap (inr I J (h + 3)) (J 52 (h + 3)) (ap (inr I J h) (J 52 h) (J 56, 0))).2) (by omega) (by omega)
  rw [q2, q2', b2] at c1 c2
  have l3 : (ap (inr I J (h + 6)) (J 52 (h + 6)) (ap (inr I J (h + 3)) (J 52 (h + 3)) (ap (inr I J h) (J 52 h) (J 56, 0)))).2 ≤ 3 := by
    generalize ap (inr I J (h + 3)) (J 52 (h + 3)) (ap (inr I J h) (J 52 h) (J 56, 0)) = s at *
    unfold ap; split
    · show s.2 + 1 ≤ 3; omega
    · omega
  obtain ⟨J4, d1, d2⟩ := mid_end (σ := σ) (R := R) (n := f) (I := I) (J := J3) (p := h + 9) (c := (ap (inr I J (h + 6)) (J 52 (h + 6)) (ap (inr I J (h + 3)) (J 52 (h + 3)) (ap (inr I J h) (J 52 h) (J 56, 0)))).2) hS (by omega) l3
  have a1' : gX4_middleOf_l4 σ I R (f + 4) J 0 (Int32.ofInt (h : Int)) = _ := a1
  have b1' : gX4_middleOf_l4 σ I R (f + 3) J1 (Int32.ofInt ((ap (inr I J h) (J 52 h) (J 56, 0)).2 : Int)) (Int32.ofInt ((h + 3 : Nat) : Int)) = gX4_middleOf_l4 σ I R (f + 2) J2 (Int32.ofInt ((ap (inr I J (h + 3)) (J 52 (h + 3)) (ap (inr I J h) (J 52 h) (J 56, 0))).2 : Int)) (Int32.ofInt ((h + 3 + 3 : Nat) : Int)) := b1
  rw [a1', b1', show h + 3 + 3 = h + 6 by omega]
  have c1' : gX4_middleOf_l4 σ I R (f + 2) J2 (Int32.ofInt ((ap (inr I J (h + 3)) (J 52 (h + 3)) (ap (inr I J h) (J 52 h) (J 56, 0))).2 : Int)) (Int32.ofInt ((h + 6 : Nat) : Int)) = gX4_middleOf_l4 σ I R (f + 1) J3 (Int32.ofInt ((ap (inr I J (h + 6)) (J 52 (h + 6)) (ap (inr I J (h + 3)) (J 52 (h + 3)) (ap (inr I J h) (J 52 h) (J 56, 0)))).2 : Int)) (Int32.ofInt ((h + 6 + 3 : Nat) : Int)) := c1
  rw [c1', show h + 6 + 3 = h + 9 by omega, d1, c2]
  refine ⟨J4, ?_, fun a ha => ?_⟩
  · congr 2
    generalize inr I J h = e0
    generalize inr I J (h + 3) = e1
    generalize inr I J (h + 6) = e2
    generalize J 52 h = a
    generalize J 52 (h + 3) = b
    generalize J 52 (h + 6) = c
    generalize J 56 = g
    have sw : ∀ (a b : Int64) (g : Nat → Int64), srt (updJ (updJ g 0 a) 1 b) 2 0 = if okk a ≤ okk b then a else b := fun a b g => srt2.1
    have s1 : ∀ (a : Int64) (g : Nat → Int64), srt (updJ g 0 a) 1 0 = a := fun a g => by rw [srt_1, updJ_s]
    cases e0 <;> cases e1 <;> cases e2 <;> simp only [ap_t, ap_f, Nat.zero_add]
    · rfl
    · exact (if_neg (show ¬ (1 : Nat) = 0 by decide)).trans (s1 c g)
    · exact (if_neg (show ¬ (1 : Nat) = 0 by decide)).trans (s1 b g)
    · refine (if_neg (show ¬ (2 : Nat) = 0 by decide)).trans ((sw b c g).trans ?_)
      show _ = if decide (okk b ≤ okk c) = true then b else c
      by_cases z : okk b ≤ okk c
      · rw [if_pos z, if_pos (decide_eq_true z)]
      · rw [if_neg z, if_neg (fun q => z (of_decide_eq_true q))]
    · exact (if_neg (show ¬ (1 : Nat) = 0 by decide)).trans (s1 a g)
    · refine (if_neg (show ¬ (2 : Nat) = 0 by decide)).trans ((sw a c g).trans ?_)
      show _ = if decide (okk a ≤ okk c) = true then a else c
      by_cases z : okk a ≤ okk c
      · rw [if_pos z, if_pos (decide_eq_true z)]
      · rw [if_neg z, if_neg (fun q => z (of_decide_eq_true q))]
    · refine (if_neg (show ¬ (2 : Nat) = 0 by decide)).trans ((sw a b g).trans ?_)
      show _ = if decide (okk a ≤ okk b) = true then a else b
      by_cases z : okk a ≤ okk b
      · rw [if_pos z, if_pos (decide_eq_true z)]
      · rw [if_neg z, if_neg (fun q => z (of_decide_eq_true q))]
    · refine (if_neg (show ¬ (3 : Nat) = 0 by decide)).trans ((srt3 (a := a) (b := b) (c := c) (f := g)).trans ?_)
      show _ = if decide (okk a ≤ okk b) = true then (if decide (okk b ≤ okk c) = true then b else if decide (okk a ≤ okk c) = true then c else a) else (if decide (okk a ≤ okk c) = true then a else if decide (okk b ≤ okk c) = true then c else b)
      simp only [decide_eq_true_eq]
  · have k := c3 a ha
    have k2 := b3 a ha
    have k3 := a3 a ha
    funext j
    rw [d2 a j (nwc ha (by decide)), k, k2, k3]
