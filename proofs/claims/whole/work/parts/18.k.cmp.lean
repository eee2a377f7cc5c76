/-! ===== doubles: comparisons; read, part ===== -/
theorem cvz {a b : UInt64} {w} (ha : FP.Core.val64 a ≠ .nan) (hb : FP.Core.val64 b ≠ .nan) : Op.cmpValue (FP.dcmp a b) w = if FP.Core.dkey a < FP.Core.dkey b then -1 else if FP.Core.dkey a = FP.Core.dkey b then 0 else 1 := by
  show Op.cmpValue (FP.Core.dcmp a b) w = _
  rw [FP.Core.dcmp_key ha hb, FP.Core.compare_ite]
  by_cases c1 : FP.Core.dkey a < FP.Core.dkey b
  · rw [if_pos c1, if_pos c1]; rfl
  · rw [if_neg c1, if_neg c1]
    by_cases c2 : FP.Core.dkey a = FP.Core.dkey b
    · rw [if_pos c2, if_pos c2]; rfl
    · rw [if_neg c2, if_neg c2]; rfl
theorem cv3 {x : Int32} {p q : Int} (h : x = if p < q then -1 else if p = q then 0 else 1) : (x < 0) = (p < q) ∧ (x ≤ 0) = (p ≤ q) ∧ (0 ≤ x) = (q ≤ p) ∧ (0 < x) = (q < p) ∧ (x = 0) = (p = q) := by
  subst h
  by_cases c1 : p < q
  · rw [if_pos c1]
    refine ⟨?_, ?_, ?_, ?_, ?_⟩ <;> apply propext <;> constructor <;> intro h <;> first | omega | exact absurd h (by decide) | decide
  · rw [if_neg c1]
    by_cases c2 : p = q
    · rw [if_pos c2]
      refine ⟨?_, ?_, ?_, ?_, ?_⟩ <;> apply propext <;> constructor <;> intro h <;> first | omega | exact absurd h (by decide) | decide
    · rw [if_neg c2]
      refine ⟨?_, ?_, ?_, ?_, ?_⟩ <;> apply propext <;> constructor <;> intro h <;> first | omega | exact absurd h (by decide) | decide
theorem cv {a b : UInt64} {w} (ha : FP.Core.val64 a ≠ .nan) (hb : FP.Core.val64 b ≠ .nan) : (Op.cmpValue (FP.dcmp a b) w < 0) = (FP.Core.dkey a < FP.Core.dkey b) ∧ (Op.cmpValue (FP.dcmp a b) w ≤ 0) = (FP.Core.dkey a ≤ FP.Core.dkey b) ∧ (0 ≤ Op.cmpValue (FP.dcmp a b) w) = (FP.Core.dkey b ≤ FP.Core.dkey a) ∧ (0 < Op.cmpValue (FP.dcmp a b) w) = (FP.Core.dkey b < FP.Core.dkey a) ∧ (Op.cmpValue (FP.dcmp a b) w = 0) = (FP.Core.dkey a = FP.Core.dkey b) := cv3 (cvz ha hb)
theorem cvn {a b : UInt64} {w} (h : FP.Core.val64 a = .nan ∨ FP.Core.val64 b = .nan) : Op.cmpValue (FP.dcmp a b) w = Op.cmpValue none w := by
  show Op.cmpValue (FP.Core.dcmp a b) w = _
  rw [(FP.Core.dcmp_none a b).mpr h]
theorem num_ne {b : Int64} (h : isNum b) : FP.Core.val64 b.toUInt64 ≠ .nan := (FP.Core.ne_nan _).mpr (by rw [t_num] at h; exact h)
theorem nan_v : FP.Core.val64 9221120237041090560 = .nan := by decide +kernel
theorem isn_T {b : Int64} (h : isNum b) : fX11_isNumber b = 1 := by
  unfold fX11_isNumber
  unfold isNum at h
  rw [if_neg (Int64.not_lt.mpr h)]
theorem isn_F {b : Int64} (h : ¬ isNum b) : fX11_isNumber b = 0 := by
  unfold fX11_isNumber
  unfold isNum at h
  rw [if_pos (Int64.not_le.mp h)]
/-- the cell that doubles' bits give -/
def cD (x : Int64) : Int64 := fX12_fitted 7 x
theorem cD_c (x : Int64) : fX11_cellOf 7 x = cD x := cell_eq (j := 7) (by decide)
theorem cD_T {x : Int64} (h : isNum x) : cD x = x := by
  unfold isNum at h
  unfold cD fX12_fitted
  rw [if_neg (by decide), if_neg (by decide), if_neg (by decide), if_neg (by decide), if_neg (by decide), if_neg (by decide), if_neg (by decide), if_pos rfl, if_pos h]
theorem cD_F {x : Int64} (h : ¬ isNum x) : cD x = 9221120237041090560 := by
  unfold isNum at h
  unfold cD fX12_fitted
  rw [if_neg (by decide), if_neg (by decide), if_neg (by decide), if_neg (by decide), if_neg (by decide), if_neg (by decide), if_neg (by decide), if_pos rfl, if_neg h]
theorem cD_n (x : Int64) : NumC (cD x) := by
  by_cases h : isNum x
  · rw [cD_T h]; exact Or.inl h
  · rw [cD_F h]; exact Or.inr rfl
theorem c_read {I : Nat → Nat → Int32} {J : Nat → Nat → Int64} {D : Nat → Nat → UInt64} {x1 : Int32} {x2 : Int64} (h : GHouse I J D) : Tot (gX11_read J D x1 x2) (fun t => Tot (gX12_read t.1 x1 x2) (fun t2 => t.2.2 = t2.2 ∧ GHouse I t2.1 t.2.1)) := by
  obtain ⟨i, hi1, hi2, rfl⟩ := rep x1
  by_cases c1 : 0 ≤ i ∧ i ≤ 8
  case neg =>
    exact tt (J, D, -2) (J, -2) (by unfold gX11_read; simp (disch := omega) only [fail_r, no_r, nob_r, fI_o, Nat.reduceLeDiff, ↓reduceIte, not_true_eq_false, not_false_eq_true, false_imp_iff, true_imp_iff, and_true, true_and, and_self, implies_true, false_or, or_false, true_or, or_true, d10, d01, d00, d11, g_tn, Tot_some, Tot_none, Tot_ite, Tot_bind, ob_some, onl_n, onl_s, nat32, Int.toNat_natCast, i_add, i_sub, i_mul, i_addl, i_addr, i_subl, i_subr, i_mulr, i_addn, i_gd, i_tn, i_w, i_ltlT, i_ltlF, i_ltrT, i_ltrF, i_lelT, i_lelF, i_lerT, i_lerF, i_eqlT, i_eqlF, i_eqrT, i_eqrF, i_ltnT, i_ltnF, i_lenT, i_lenF, i_eqnT, i_eqnF, i_ltT, i_ltF, i_leT, i_leF, i_eqT, i_eqF, j_ltlT, j_ltlF, j_ltrT, j_ltrF, j_lelT, j_lelF, j_lerT, j_lerF, j_eqlT, j_eqlF, j_ltT, j_ltF, j_leT, j_leF, j_eqT, j_eqF, i_mull, l_tn, l_lt0, l_ne0, nleF, tX11_isStockT, tX11_isStockF, tX11_isBinT, tX11_isBinF, tX11_isPlanT, tX11_isPlanF, tX11_isValveT, tX11_isValveF, tX11_isLaneT, tX11_isLaneF, tX11_isGridFormT, tX11_isGridFormF, tX11_isFormT, tX11_isFormF, tX11_isTrayFormT, tX11_isTrayFormF, tX11_isPlacesFormT, tX11_isPlacesFormF, tX11_isTableT, tX11_isTableF, tX11_isProbeT, tX11_isProbeF, tX11_isHouseT, tX11_isHouseF, tX11_isPestT, tX11_isPestF, tX11_isStageT, tX11_isStageF, tX11_isPartT, tX11_isPartF, tX12_isBinT, tX12_isBinF, tX12_isTableT, tX12_isTableF, tX12_inT, tX12_inF, tX12_innT, tX12_innF, tX12_ingT, tX12_ingF, tX12_isStageT, tX12_isStageF, tX1_isByteT, tX1_isByteF]) (by unfold gX12_read; simp (disch := omega) only [fail_r, no_r, nob_r, fI_o, Nat.reduceLeDiff, ↓reduceIte, not_true_eq_false, not_false_eq_true, false_imp_iff, true_imp_iff, and_true, true_and, and_self, implies_true, false_or, or_false, true_or, or_true, d10, d01, d00, d11, g_tn, Tot_some, Tot_none, Tot_ite, Tot_bind, ob_some, onl_n, onl_s, nat32, Int.toNat_natCast, i_add, i_sub, i_mul, i_addl, i_addr, i_subl, i_subr, i_mulr, i_addn, i_gd, i_tn, i_w, i_ltlT, i_ltlF, i_ltrT, i_ltrF, i_lelT, i_lelF, i_lerT, i_lerF, i_eqlT, i_eqlF, i_eqrT, i_eqrF, i_ltnT, i_ltnF, i_lenT, i_lenF, i_eqnT, i_eqnF, i_ltT, i_ltF, i_leT, i_leF, i_eqT, i_eqF, j_ltlT, j_ltlF, j_ltrT, j_ltrF, j_lelT, j_lelF, j_lerT, j_lerF, j_eqlT, j_eqlF, j_ltT, j_ltF, j_leT, j_leF, j_eqT, j_eqF, i_mull, l_tn, l_lt0, l_ne0, nleF, tX11_isStockT, tX11_isStockF, tX11_isBinT, tX11_isBinF, tX11_isPlanT, tX11_isPlanF, tX11_isValveT, tX11_isValveF, tX11_isLaneT, tX11_isLaneF, tX11_isGridFormT, tX11_isGridFormF, tX11_isFormT, tX11_isFormF, tX11_isTrayFormT, tX11_isTrayFormF, tX11_isPlacesFormT, tX11_isPlacesFormF, tX11_isTableT, tX11_isTableF, tX11_isProbeT, tX11_isProbeF, tX11_isHouseT, tX11_isHouseF, tX11_isPestT, tX11_isPestF, tX11_isStageT, tX11_isStageF, tX11_isPartT, tX11_isPartF, tX12_isBinT, tX12_isBinF, tX12_isTableT, tX12_isTableF, tX12_inT, tX12_inF, tX12_innT, tX12_innF, tX12_ingT, tX12_ingF, tX12_isStageT, tX12_isStageF, tX1_isByteT, tX1_isByteF]) ⟨rfl, h⟩
  obtain ⟨d, e1, e2⟩ : ∃ d, gX4_takeReading J D (Int32.ofInt i) (cD x2) = some (u2 J 52 i.toNat (cD x2), u2 D 53 i.toNat d) ∧ DOf (cD x2) d := by
    unfold gX4_takeReading
    by_cases hn : isNum (cD x2)
    · refine ⟨(cD x2).toUInt64, ?_, fun _ => rfl, fun q => absurd hn q⟩
      simp (disch := omega) only [fail_r, no_r, nob_r, fI_o, Nat.reduceLeDiff, ↓reduceIte, not_true_eq_false, not_false_eq_true, false_imp_iff, true_imp_iff, and_true, true_and, and_self, implies_true, false_or, or_false, true_or, or_true, d10, d01, d00, d11, g_tn, Tot_some, Tot_none, Tot_ite, Tot_bind, ob_some, onl_n, onl_s, nat32, Int.toNat_natCast, i_add, i_sub, i_mul, i_addl, i_addr, i_subl, i_subr, i_mulr, i_addn, i_gd, i_tn, i_w, i_ltlT, i_ltlF, i_ltrT, i_ltrF, i_lelT, i_lelF, i_lerT, i_lerF, i_eqlT, i_eqlF, i_eqrT, i_eqrF, i_ltnT, i_ltnF, i_lenT, i_lenF, i_eqnT, i_eqnF, i_ltT, i_ltF, i_leT, i_leF, i_eqT, i_eqF, j_ltlT, j_ltlF, j_ltrT, j_ltrF, j_lelT, j_lelF, j_lerT, j_lerF, j_eqlT, j_eqlF, j_ltT, j_ltF, j_leT, j_leF, j_eqT, j_eqF, i_mull, l_tn, l_lt0, l_ne0, nleF, tX11_isStockT, tX11_isStockF, tX11_isBinT, tX11_isBinF, tX11_isPlanT, tX11_isPlanF, tX11_isValveT, tX11_isValveF, tX11_isLaneT, tX11_isLaneF, tX11_isGridFormT, tX11_isGridFormF, tX11_isFormT, tX11_isFormF, tX11_isTrayFormT, tX11_isTrayFormF, tX11_isPlacesFormT, tX11_isPlacesFormF, tX11_isTableT, tX11_isTableF, tX11_isProbeT, tX11_isProbeF, tX11_isHouseT, tX11_isHouseF, tX11_isPestT, tX11_isPestF, tX11_isStageT, tX11_isStageF, tX11_isPartT, tX11_isPartF, tX12_isBinT, tX12_isBinF, tX12_isTableT, tX12_isTableF, tX12_inT, tX12_inF, tX12_innT, tX12_innF, tX12_ingT, tX12_ingF, tX12_isStageT, tX12_isStageF, tX1_isByteT, tX1_isByteF, isn_T hn, realOf_num hn]
    · refine ⟨0, ?_, fun q => absurd q hn, fun _ => rfl⟩
      simp (disch := omega) only [fail_r, no_r, nob_r, fI_o, Nat.reduceLeDiff, ↓reduceIte, not_true_eq_false, not_false_eq_true, false_imp_iff, true_imp_iff, and_true, true_and, and_self, implies_true, false_or, or_false, true_or, or_true, d10, d01, d00, d11, g_tn, Tot_some, Tot_none, Tot_ite, Tot_bind, ob_some, onl_n, onl_s, nat32, Int.toNat_natCast, i_add, i_sub, i_mul, i_addl, i_addr, i_subl, i_subr, i_mulr, i_addn, i_gd, i_tn, i_w, i_ltlT, i_ltlF, i_ltrT, i_ltrF, i_lelT, i_lelF, i_lerT, i_lerF, i_eqlT, i_eqlF, i_eqrT, i_eqrF, i_ltnT, i_ltnF, i_lenT, i_lenF, i_eqnT, i_eqnF, i_ltT, i_ltF, i_leT, i_leF, i_eqT, i_eqF, j_ltlT, j_ltlF, j_ltrT, j_ltrF, j_lelT, j_lelF, j_lerT, j_lerF, j_eqlT, j_eqlF, j_ltT, j_ltF, j_leT, j_leF, j_eqT, j_eqF, i_mull, l_tn, l_lt0, l_ne0, nleF, tX11_isStockT, tX11_isStockF, tX11_isBinT, tX11_isBinF, tX11_isPlanT, tX11_isPlanF, tX11_isValveT, tX11_isValveF, tX11_isLaneT, tX11_isLaneF, tX11_isGridFormT, tX11_isGridFormF, tX11_isFormT, tX11_isFormF, tX11_isTrayFormT, tX11_isTrayFormF, tX11_isPlacesFormT, tX11_isPlacesFormF, tX11_isTableT, tX11_isTableF, tX11_isProbeT, tX11_isProbeF, tX11_isHouseT, tX11_isHouseF, tX11_isPestT, tX11_isPestF, tX11_isStageT, tX11_isStageF, tX11_isPartT, tX11_isPartF, tX12_isBinT, tX12_isBinF, tX12_isTableT, tX12_isTableF, tX12_inT, tX12_inF, tX12_innT, tX12_innF, tX12_ingT, tX12_ingF, tX12_isStageT, tX12_isStageF, tX1_isByteT, tX1_isByteF, isn_F hn]
      rfl
  refine tt (u2 J 52 i.toNat (cD x2), u2 D 53 i.toNat d, 1) (u2 (u2 J 52 i.toNat (cD x2)) 165 i.toNat (cD x2), 1) (by unfold gX11_read; simp (disch := omega) only [fail_r, no_r, nob_r, fI_o, Nat.reduceLeDiff, ↓reduceIte, not_true_eq_false, not_false_eq_true, false_imp_iff, true_imp_iff, and_true, true_and, and_self, implies_true, false_or, or_false, true_or, or_true, d10, d01, d00, d11, g_tn, Tot_some, Tot_none, Tot_ite, Tot_bind, ob_some, onl_n, onl_s, nat32, Int.toNat_natCast, i_add, i_sub, i_mul, i_addl, i_addr, i_subl, i_subr, i_mulr, i_addn, i_gd, i_tn, i_w, i_ltlT, i_ltlF, i_ltrT, i_ltrF, i_lelT, i_lelF, i_lerT, i_lerF, i_eqlT, i_eqlF, i_eqrT, i_eqrF, i_ltnT, i_ltnF, i_lenT, i_lenF, i_eqnT, i_eqnF, i_ltT, i_ltF, i_leT, i_leF, i_eqT, i_eqF, j_ltlT, j_ltlF, j_ltrT, j_ltrF, j_lelT, j_lelF, j_lerT, j_lerF, j_eqlT, j_eqlF, j_ltT, j_ltF, j_leT, j_leF, j_eqT, j_eqF, i_mull, l_tn, l_lt0, l_ne0, nleF, tX11_isStockT, tX11_isStockF, tX11_isBinT, tX11_isBinF, tX11_isPlanT, tX11_isPlanF, tX11_isValveT, tX11_isValveF, tX11_isLaneT, tX11_isLaneF, tX11_isGridFormT, tX11_isGridFormF, tX11_isFormT, tX11_isFormF, tX11_isTrayFormT, tX11_isTrayFormF, tX11_isPlacesFormT, tX11_isPlacesFormF, tX11_isTableT, tX11_isTableF, tX11_isProbeT, tX11_isProbeF, tX11_isHouseT, tX11_isHouseF, tX11_isPestT, tX11_isPestF, tX11_isStageT, tX11_isStageF, tX11_isPartT, tX11_isPartF, tX12_isBinT, tX12_isBinF, tX12_isTableT, tX12_isTableF, tX12_inT, tX12_inF, tX12_innT, tX12_innF, tX12_ingT, tX12_ingF, tX12_isStageT, tX12_isStageF, tX1_isByteT, tX1_isByteF, cD_c, e1]) (by unfold gX12_read; rw [show fX12_fitted 7 x2 = cD x2 from rfl]; simp (disch := omega) only [fail_r, no_r, nob_r, fI_o, Nat.reduceLeDiff, ↓reduceIte, not_true_eq_false, not_false_eq_true, false_imp_iff, true_imp_iff, and_true, true_and, and_self, implies_true, false_or, or_false, true_or, or_true, d10, d01, d00, d11, g_tn, Tot_some, Tot_none, Tot_ite, Tot_bind, ob_some, onl_n, onl_s, nat32, Int.toNat_natCast, i_add, i_sub, i_mul, i_addl, i_addr, i_subl, i_subr, i_mulr, i_addn, i_gd, i_tn, i_w, i_ltlT, i_ltlF, i_ltrT, i_ltrF, i_lelT, i_lelF, i_lerT, i_lerF, i_eqlT, i_eqlF, i_eqrT, i_eqrF, i_ltnT, i_ltnF, i_lenT, i_lenF, i_eqnT, i_eqnF, i_ltT, i_ltF, i_leT, i_leF, i_eqT, i_eqF, j_ltlT, j_ltlF, j_ltrT, j_ltrF, j_lelT, j_lelF, j_lerT, j_lerF, j_eqlT, j_eqlF, j_ltT, j_ltF, j_leT, j_leF, j_eqT, j_eqF, i_mull, l_tn, l_lt0, l_ne0, nleF, tX11_isStockT, tX11_isStockF, tX11_isBinT, tX11_isBinF, tX11_isPlanT, tX11_isPlanF, tX11_isValveT, tX11_isValveF, tX11_isLaneT, tX11_isLaneF, tX11_isGridFormT, tX11_isGridFormF, tX11_isFormT, tX11_isFormF, tX11_isTrayFormT, tX11_isTrayFormF, tX11_isPlacesFormT, tX11_isPlacesFormF, tX11_isTableT, tX11_isTableF, tX11_isProbeT, tX11_isProbeF, tX11_isHouseT, tX11_isHouseF, tX11_isPestT, tX11_isPestF, tX11_isStageT, tX11_isStageF, tX11_isPartT, tX11_isPartF, tX12_isBinT, tX12_isBinF, tX12_isTableT, tX12_isTableF, tX12_inT, tX12_inF, tX12_innT, tX12_innF, tX12_ingT, tX12_ingF, tX12_isStageT, tX12_isStageF, tX1_isByteT, tX1_isByteF]) ⟨rfl, ?_⟩
  obtain ⟨a0, a1, a2, a3, a4, a5, a6, a7, a8, a9, a10, a11, a12, a13, a14, a15, a16, a17, a18, a19, a20, a21, a22, a23, a24, a25, a26, a27, a28, a29, a30, a31, a32, a33, a34, a35, a36⟩ := h
  refine ⟨a0, a1, a2, a3, a4, a5, fun p hp => ?_, fun p hp => ?_, fun p hp => ?_, fun p hp => ?_, fun p hp => ?_, fun p hp => ?_, ?_, ?_, fun p hp => ?_, fun p hp => ?_, fun p hp => ?_, fun p hp => ?_, fun p hp => ?_, fun p hp => ?_, fun p k hp hk => ?_, a21, a22, a23, a24, a25, a26, a27, a28, a29, a30, a31, a32, a33, a34, a35, a36⟩
  · by_cases e : p = i.toNat
    · simp (disch := omega) only [u2n, u2s]
    · simp (disch := omega) only [u2n, u2s]; exact a6 p hp
  · by_cases e : p = i.toNat
    · simp (disch := omega) only [u2n, u2s]; exact cD_n x2
    · simp (disch := omega) only [u2n, u2s]; exact a7 p hp
  · simp (disch := omega) only [u2n, u2s]; exact a8 p hp
  · by_cases e : p = i.toNat
    · simp (disch := omega) only [u2n, u2s]; exact e2
    · simp (disch := omega) only [u2n, u2s]; exact a9 p hp
  · simp (disch := omega) only [u2n, u2s]; exact a10 p hp
  · simp (disch := omega) only [u2n, u2s]; exact a11 p hp
  · simp (disch := omega) only [u2n, u2s]; exact a12
  · simp (disch := omega) only [u2n, u2s]; exact a13
  · simp (disch := omega) only [u2n, u2s]; exact a14 p hp
  · simp (disch := omega) only [u2n, u2s]; exact a15 p hp
  · simp (disch := omega) only [u2n, u2s]; exact a16 p hp
  · simp (disch := omega) only [u2n, u2s]; exact a17 p hp
  · simp (disch := omega) only [u2n, u2s]; exact a18 p hp
  · simp (disch := omega) only [u2n, u2s]; exact a19 p hp
  · simp (disch := omega) only [u2n, u2s]; exact a20 p k hp hk
/-- PART is not below 0 -/
def GPart (D : Nat → Nat → UInt64) : Prop := 0 ≤ FP.Core.dkey (D 114 94)
theorem ky0 : FP.Core.dkey FP.dconst0 = 0 := by decide +kernel
theorem nan0 : FP.Core.val64 FP.dconst0 ≠ .nan := ex_zero.ne
theorem c_part {I : Nat → Nat → Int32} {J : Nat → Nat → Int64} {D : Nat → Nat → UInt64} {x1 : Int64} (h : GHouse I J D) (hp : GPart D) : Tot (gX11_part D x1) (fun t => Tot (gX12_part t.1 x1) (fun t2 => t.2 = t2.2 ∧ GHouse I J t2.1 ∧ GPart t2.1)) := by
  by_cases c1 : isNum x1
  case neg =>
    refine tt (D, -2) (D, -2) (by unfold gX11_part; simp (disch := omega) only [fail_r, no_r, nob_r, fI_o, Nat.reduceLeDiff, ↓reduceIte, not_true_eq_false, not_false_eq_true, false_imp_iff, true_imp_iff, and_true, true_and, and_self, implies_true, false_or, or_false, true_or, or_true, d10, d01, d00, d11, g_tn, Tot_some, Tot_none, Tot_ite, Tot_bind, ob_some, onl_n, onl_s, nat32, Int.toNat_natCast, i_add, i_sub, i_mul, i_addl, i_addr, i_subl, i_subr, i_mulr, i_addn, i_gd, i_tn, i_w, i_ltlT, i_ltlF, i_ltrT, i_ltrF, i_lelT, i_lelF, i_lerT, i_lerF, i_eqlT, i_eqlF, i_eqrT, i_eqrF, i_ltnT, i_ltnF, i_lenT, i_lenF, i_eqnT, i_eqnF, i_ltT, i_ltF, i_leT, i_leF, i_eqT, i_eqF, j_ltlT, j_ltlF, j_ltrT, j_ltrF, j_lelT, j_lelF, j_lerT, j_lerF, j_eqlT, j_eqlF, j_ltT, j_ltF, j_leT, j_leF, j_eqT, j_eqF, i_mull, l_tn, l_lt0, l_ne0, nleF, tX11_isStockT, tX11_isStockF, tX11_isBinT, tX11_isBinF, tX11_isPlanT, tX11_isPlanF, tX11_isValveT, tX11_isValveF, tX11_isLaneT, tX11_isLaneF, tX11_isGridFormT, tX11_isGridFormF, tX11_isFormT, tX11_isFormF, tX11_isTrayFormT, tX11_isTrayFormF, tX11_isPlacesFormT, tX11_isPlacesFormF, tX11_isTableT, tX11_isTableF, tX11_isProbeT, tX11_isProbeF, tX11_isHouseT, tX11_isHouseF, tX11_isPestT, tX11_isPestF, tX11_isStageT, tX11_isStageF, tX11_isPartT, tX11_isPartF, tX12_isBinT, tX12_isBinF, tX12_isTableT, tX12_isTableF, tX12_inT, tX12_inF, tX12_innT, tX12_innF, tX12_ingT, tX12_ingF, tX12_isStageT, tX12_isStageF, tX1_isByteT, tX1_isByteF, isn_F c1]) ?_ ⟨rfl, h, hp⟩
    unfold gX12_part
    simp only []
    rw [show fX12_fitted 7 x1 = cD x1 from rfl, cD_F c1, if_pos rfl]
  have ne : ¬ cD x1 = 9221120237041090560 := fun q => by rw [cD_T c1] at q; rw [q] at c1; exact not_num c1
  have cz := (cv (w := .g) (num_ne c1) nan0).2.2.1
  rw [ky0] at cz
  by_cases c2 : 0 ≤ Op.cmpValue (FP.dcmp x1.toUInt64 FP.dconst0) .g
  case neg =>
    refine tt (D, -2) (D, -2) ?_ ?_ ⟨rfl, h, hp⟩
    · unfold gX11_part
      rw [isn_T c1, if_neg (by decide), realOf_num c1, ob_some, if_neg c2]
    · unfold gX12_part
      simp only []
      rw [show fX12_fitted 7 x1 = cD x1 from rfl, if_neg ne, cD_T c1, fromBits_num c1, ob_some, if_neg c2]
  refine tt (u2 D 26 7 x1.toUInt64, 1) (u2 (u2 D 26 7 x1.toUInt64) 114 94 x1.toUInt64, 1) ?_ ?_ ⟨rfl, ?_, ?_⟩
  · unfold gX11_part
    rw [isn_T c1, if_neg (by decide), realOf_num c1, ob_some, if_pos c2]
    rfl
  · unfold gX12_part
    simp only []
    rw [show fX12_fitted 7 x1 = cD x1 from rfl, if_neg ne, cD_T c1, fromBits_num c1, ob_some, if_pos c2]
    rfl
  · obtain ⟨a0, a1, a2, a3, a4, a5, a6, a7, a8, a9, a10, a11, a12, a13, a14⟩ := h
    refine ⟨a0, a1, a2, a3, a4, a5, a6, a7, a8, fun p hp => ?_, a10, a11, ?_, ?_, a14⟩
    · simp (disch := omega) only [u2n, u2s]; exact a9 p hp
    · simp (disch := omega) only [u2n, u2s]
    · simp (disch := omega) only [u2n, u2s]; exact nn_of (num_ne c1)
  · rw [cz] at c2
    show 0 ≤ FP.Core.dkey (u2 (u2 D 26 7 x1.toUInt64) 114 94 x1.toUInt64 114 94)
    rw [u2_self]
    exact c2
