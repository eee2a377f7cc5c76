/-! ===== minute: judging ===== -/
theorem k43 {σ : Shp} {R : Nat → Nat → Option Nat} (hS : Skel σ R) {p : Nat} (hp : p < 9) : kdx σ (43 + p) = 20 ∧ lnx σ (43 + p) = 5 := by
  have g : ¬ (Int32.ofInt (p : Int) < 0 ∨ 9 ≤ Int32.toNatClampNeg (Int32.ofInt (p : Int))) := by rw [i_gd (by omega)]; exact id
  have a := kr42 hS g
  have b := lr42 hS g
  rw [i_tn (by omega), Int.toNat_natCast] at a b
  exact ⟨a, b⟩
/-- what is judged of a probe: out, why, off, near -/
def jd (st : Bool) (o w f n : Int32) : Int32 × Int32 × Int32 × Int32 := if st then (1, 2, 0, 0) else if o = 0 ∧ ¬ f < 3 then (1, 1, 0, 0) else if ¬ o = 0 ∧ ¬ n < 5 then (0, 0, 0, 0) else (o, w, f, n)
theorem jd_t {o w f n : Int32} : jd true o w f n = (1, 2, 0, 0) := rfl
theorem jd_0a {w f n : Int32} (c : f < 3) : jd false 0 w f n = (0, w, f, n) := by
  unfold jd
  rw [if_neg (by decide), if_neg (fun q => q.2 c), if_neg (fun q => q.1 rfl)]
theorem jd_0b {w f n : Int32} (c : ¬ f < 3) : jd false 0 w f n = (1, 1, 0, 0) := by
  unfold jd
  rw [if_neg (by decide), if_pos ⟨rfl, c⟩]
theorem jd_1a {w f n : Int32} (c : n < 5) : jd false 1 w f n = (1, w, f, n) := by
  unfold jd
  rw [if_neg (by decide), if_neg (fun q => absurd q.1 (by decide)), if_neg (fun q => q.2 c)]
theorem jd_1b {w f n : Int32} (c : ¬ n < 5) : jd false 1 w f n = (0, 0, 0, 0) := by
  unfold jd
  rw [if_neg (by decide), if_neg (fun q => absurd q.1 (by decide)), if_pos ⟨by decide, c⟩]
/-- the class's marks of a probe, out of these -/
def PC (I : Nat → Nat → Int32) (p : Nat) (r : Int32 × Int32 × Int32 × Int32) : Prop := I (43 + p) 0 = 1 - r.1 ∧ I (43 + p) 1 = r.2.1 ∧ I (43 + p) 2 = r.2.2.1 ∧ I (43 + p) 3 = r.2.2.2
theorem co0 {σ : Shp} {R : Nat → Nat → Option Nat} {I : Nat → Nat → Int32} {J : Nat → Nat → Int64} {D : Nat → Nat → UInt64} {p : Nat} {v : Int64} {m : UInt64} (hp : p < 9) : gX4_countOff σ I J D R (Int32.ofInt (p : Int)) 0 v m = some (u2 (u2 I (43 + p) 2 0) (43 + p) 3 0) := by
  unfold gX4_countOff
  simp (disch := omega) only [fail_r, no_r, nob_r, fI_o, Nat.reduceLeDiff, ↓reduceIte, not_true_eq_false, not_false_eq_true, false_imp_iff, true_imp_iff, and_true, true_and, and_self, implies_true, false_or, or_false, true_or, or_true, d10, d01, d00, d11, g_tn, Tot_some, Tot_none, Tot_ite, Tot_bind, ob_some, onl_n, onl_s, nat32, Int.toNat_natCast, i_add, i_sub, i_mul, i_addl, i_addr, i_subl, i_subr, i_mulr, i_addn, i_gd, i_tn, i_w, i_ltlT, i_ltlF, i_ltrT, i_ltrF, i_lelT, i_lelF, i_lerT, i_lerF, i_eqlT, i_eqlF, i_eqrT, i_eqrF, i_ltnT, i_ltnF, i_lenT, i_lenF, i_eqnT, i_eqnF, i_ltT, i_ltF, i_leT, i_leF, i_eqT, i_eqF, j_ltlT, j_ltlF, j_ltrT, j_ltrF, j_lelT, j_lelF, j_lerT, j_lerF, j_eqlT, j_eqlF, j_ltT, j_ltF, j_leT, j_leF, j_eqT, j_eqF, i_mull, l_tn, l_lt0, l_ne0, nleF, tX11_isStockT, tX11_isStockF, tX11_isBinT, tX11_isBinF, tX11_isPlanT, tX11_isPlanF, tX11_isValveT, tX11_isValveF, tX11_isLaneT, tX11_isLaneF, tX11_isGridFormT, tX11_isGridFormF, tX11_isFormT, tX11_isFormF, tX11_isTrayFormT, tX11_isTrayFormF, tX11_isPlacesFormT, tX11_isPlacesFormF, tX11_isTableT, tX11_isTableF, tX11_isProbeT, tX11_isProbeF, tX11_isHouseT, tX11_isHouseF, tX11_isPestT, tX11_isPestF, tX11_isStageT, tX11_isStageF, tX11_isPartT, tX11_isPartF, tX12_isBinT, tX12_isBinF, tX12_isTableT, tX12_isTableF, tX12_inT, tX12_inF, tX12_innT, tX12_innF, tX12_ingT, tX12_ingF, tX12_isStageT, tX12_isStageF, tX1_isByteT, tX1_isByteF]
/-- the class says off -/
def frC (J : Nat → Nat → Int64) (D : Nat → Nat → UInt64) (p : Nat) (v : Int64) : Bool := decide (J 52 p ≠ v) && decide (Zv (D 26 7) < (if Zv (J 52 p).toUInt64 ≤ Zv v.toUInt64 then - Zv (FP.dsub (J 52 p).toUInt64 v.toUInt64) else Zv (FP.dsub (J 52 p).toUInt64 v.toUInt64)))
theorem u64_ne {a b : Int64} (h : a ≠ b) : a.toUInt64 ≠ b.toUInt64 := fun q => h (Int64.toBitVec_inj.mp (BitVec.eq_of_toNat_eq (by show a.toUInt64.toNat = b.toUInt64.toNat; rw [q])))
theorem co1 {σ : Shp} {R : Nat → Nat → Option Nat} {I : Nat → Nat → Int32} {J : Nat → Nat → Int64} {D : Nat → Nat → UInt64} {p : Nat} {v : Int64} (hS : Skel σ R) (hp : p < 9) (hb : isNum (J 52 p)) (hv : isNum v) (hD : D 53 p = (J 52 p).toUInt64) (hP : FP.Core.val64 (D 26 7) ≠ .nan) (hP2 : 0 ≤ FP.Core.dkey (D 26 7)) : gX4_countOff σ I J D R (Int32.ofInt (p : Int)) 1 v v.toUInt64 = some (u2 (u2 I (43 + p) 2 (if frC J D p v then I (43 + p) 2 + 1 else 0)) (43 + p) 3 (if frC J D p v then 0 else I (43 + p) 3 + 1)) := by
  obtain ⟨k1, k2⟩ := k43 hS hp
  have b77 : ∀ s : Bool, gX4_countOff_b77 σ J D R I (Int32.ofInt (p : Int)) (if s then 1 else 0) = some (u2 (u2 I (43 + p) 2 (if s then I (43 + p) 2 + 1 else 0)) (43 + p) 3 (if s then 0 else I (43 + p) 3 + 1)) := by
    intro s
    have u : u2 I (43 + p) 2 (0 : Int32) (43 + p) 3 = I (43 + p) 3 := u2n (by omega)
    cases s
    · simp only [Bool.false_eq_true, if_false]
      unfold gX4_countOff_b77 gX4_countOff_b105
      simp (disch := omega) only [fail_r, no_r, nob_r, fI_o, Nat.reduceLeDiff, ↓reduceIte, not_true_eq_false, not_false_eq_true, false_imp_iff, true_imp_iff, and_true, true_and, and_self, implies_true, false_or, or_false, true_or, or_true, d10, d01, d00, d11, g_tn, Tot_some, Tot_none, Tot_ite, Tot_bind, ob_some, onl_n, onl_s, nat32, Int.toNat_natCast, i_add, i_sub, i_mul, i_addl, i_addr, i_subl, i_subr, i_mulr, i_addn, i_gd, i_tn, i_w, i_ltlT, i_ltlF, i_ltrT, i_ltrF, i_lelT, i_lelF, i_lerT, i_lerF, i_eqlT, i_eqlF, i_eqrT, i_eqrF, i_ltnT, i_ltnF, i_lenT, i_lenF, i_eqnT, i_eqnF, i_ltT, i_ltF, i_leT, i_leF, i_eqT, i_eqF, j_ltlT, j_ltlF, j_ltrT, j_ltrF, j_lelT, j_lelF, j_lerT, j_lerF, j_eqlT, j_eqlF, j_ltT, j_ltF, j_leT, j_leF, j_eqT, j_eqF, i_mull, l_tn, l_lt0, l_ne0, nleF, tX11_isStockT, tX11_isStockF, tX11_isBinT, tX11_isBinF, tX11_isPlanT, tX11_isPlanF, tX11_isValveT, tX11_isValveF, tX11_isLaneT, tX11_isLaneF, tX11_isGridFormT, tX11_isGridFormF, tX11_isFormT, tX11_isFormF, tX11_isTrayFormT, tX11_isTrayFormF, tX11_isPlacesFormT, tX11_isPlacesFormF, tX11_isTableT, tX11_isTableF, tX11_isProbeT, tX11_isProbeF, tX11_isHouseT, tX11_isHouseF, tX11_isPestT, tX11_isPestF, tX11_isStageT, tX11_isStageF, tX11_isPartT, tX11_isPartF, tX12_isBinT, tX12_isBinF, tX12_isTableT, tX12_isTableF, tX12_inT, tX12_inF, tX12_innT, tX12_innF, tX12_ingT, tX12_ingF, tX12_isStageT, tX12_isStageF, tX1_isByteT, tX1_isByteF, k1, k2, u]
    · simp only [if_true]
      unfold gX4_countOff_b77 gX4_countOff_b105
      simp (disch := omega) only [fail_r, no_r, nob_r, fI_o, Nat.reduceLeDiff, ↓reduceIte, not_true_eq_false, not_false_eq_true, false_imp_iff, true_imp_iff, and_true, true_and, and_self, implies_true, false_or, or_false, true_or, or_true, d10, d01, d00, d11, g_tn, Tot_some, Tot_none, Tot_ite, Tot_bind, ob_some, onl_n, onl_s, nat32, Int.toNat_natCast, i_add, i_sub, i_mul, i_addl, i_addr, i_subl, i_subr, i_mulr, i_addn, i_gd, i_tn, i_w, i_ltlT, i_ltlF, i_ltrT, i_ltrF, i_lelT, i_lelF, i_lerT, i_lerF, i_eqlT, i_eqlF, i_eqrT, i_eqrF, i_ltnT, i_ltnF, i_lenT, i_lenF, i_eqnT, i_eqnF, i_ltT, i_ltF, i_leT, i_leF, i_eqT, i_eqF, j_ltlT, j_ltlF, j_ltrT, j_ltrF, j_lelT, j_lelF, j_lerT, j_lerF, j_eqlT, j_eqlF, j_ltT, j_ltF, j_leT, j_leF, j_eqT, j_eqF, i_mull, l_tn, l_lt0, l_ne0, nleF, tX11_isStockT, tX11_isStockF, tX11_isBinT, tX11_isBinF, tX11_isPlanT, tX11_isPlanF, tX11_isValveT, tX11_isValveF, tX11_isLaneT, tX11_isLaneF, tX11_isGridFormT, tX11_isGridFormF, tX11_isFormT, tX11_isFormF, tX11_isTrayFormT, tX11_isTrayFormF, tX11_isPlacesFormT, tX11_isPlacesFormF, tX11_isTableT, tX11_isTableF, tX11_isProbeT, tX11_isProbeF, tX11_isHouseT, tX11_isHouseF, tX11_isPestT, tX11_isPestF, tX11_isStageT, tX11_isStageF, tX11_isPartT, tX11_isPartF, tX12_isBinT, tX12_isBinF, tX12_isTableT, tX12_isTableF, tX12_inT, tX12_inF, tX12_innT, tX12_innF, tX12_ingT, tX12_ingF, tX12_isStageT, tX12_isStageF, tX1_isByteT, tX1_isByteF, k1, k2]
  unfold gX4_countOff
  rw [if_neg (by decide), if_pos (by rw [i_gd (by omega)]; exact not_false), i_tn (by omega), Int.toNat_natCast]
  by_cases c : J 52 p = v
  · rw [if_pos c]
    have e : frC J D p v = false := by unfold frC; rw [decide_eq_false (fun q => q c)]; rfl
    rw [e]
    unfold gX4_countOff_b47
    have z1 : (0 : Int32) ≤ Op.cmpValue (FP.dcmp FP.dconst0 FP.dconst0) .g := by decide +kernel
    have z2 : Op.cmpValue (FP.dcmp FP.dconst0 (D 26 7)) .l ≤ 0 := by
      rw [(cv (w := .l) nan0 hP).2.1, ky0]; exact hP2
    rw [if_pos z1, if_pos z2]
    exact b77 false
  · rw [if_neg c, if_pos (by rw [i_ltl (by omega)]; omega), hD, if_pos (nn_of (sub_nn (num_ne hb) (num_ne hv) (u64_ne c)))]
    unfold gX4_countOff_b47
    rw [off_c (num_ne hb) (num_ne hv) hP (u64_ne c)]
    by_cases d : Zv (D 26 7) < (if Zv (J 52 p).toUInt64 ≤ Zv v.toUInt64 then - Zv (FP.dsub (J 52 p).toUInt64 v.toUInt64) else Zv (FP.dsub (J 52 p).toUInt64 v.toUInt64))
    · have e : frC J D p v = true := by unfold frC; rw [decide_eq_true c, decide_eq_true d]; rfl
      rw [if_pos d, e]
      exact b77 true
    · have e : frC J D p v = false := by unfold frC; rw [decide_eq_false d, Bool.and_false]
      rw [if_neg d, e]
      exact b77 false
theorem send {I : Nat → Nat → Int32} {p : Nat} {a b : Int32} (hp : p < 9) : gX4_sendTo I (Int32.ofInt (p : Int)) a b = some (u2 (u2 (u2 (u2 I (43 + p) 0 a) (43 + p) 1 b) (43 + p) 2 0) (43 + p) 3 0) := by
  unfold gX4_sendTo
  simp (disch := omega) only [fail_r, no_r, nob_r, fI_o, Nat.reduceLeDiff, ↓reduceIte, not_true_eq_false, not_false_eq_true, false_imp_iff, true_imp_iff, and_true, true_and, and_self, implies_true, false_or, or_false, true_or, or_true, d10, d01, d00, d11, g_tn, Tot_some, Tot_none, Tot_ite, Tot_bind, ob_some, onl_n, onl_s, nat32, Int.toNat_natCast, i_add, i_sub, i_mul, i_addl, i_addr, i_subl, i_subr, i_mulr, i_addn, i_gd, i_tn, i_w, i_ltlT, i_ltlF, i_ltrT, i_ltrF, i_lelT, i_lelF, i_lerT, i_lerF, i_eqlT, i_eqlF, i_eqrT, i_eqrF, i_ltnT, i_ltnF, i_lenT, i_lenF, i_eqnT, i_eqnF, i_ltT, i_ltF, i_leT, i_leF, i_eqT, i_eqF, j_ltlT, j_ltlF, j_ltrT, j_ltrF, j_lelT, j_lelF, j_lerT, j_lerF, j_eqlT, j_eqlF, j_ltT, j_ltF, j_leT, j_leF, j_eqT, j_eqF, i_mull, l_tn, l_lt0, l_ne0, nleF, tX11_isStockT, tX11_isStockF, tX11_isBinT, tX11_isBinF, tX11_isPlanT, tX11_isPlanF, tX11_isValveT, tX11_isValveF, tX11_isLaneT, tX11_isLaneF, tX11_isGridFormT, tX11_isGridFormF, tX11_isFormT, tX11_isFormF, tX11_isTrayFormT, tX11_isTrayFormF, tX11_isPlacesFormT, tX11_isPlacesFormF, tX11_isTableT, tX11_isTableF, tX11_isProbeT, tX11_isProbeF, tX11_isHouseT, tX11_isHouseF, tX11_isPestT, tX11_isPestF, tX11_isStageT, tX11_isStageF, tX11_isPartT, tX11_isPartF, tX12_isBinT, tX12_isBinF, tX12_isTableT, tX12_isTableF, tX12_inT, tX12_inF, tX12_innT, tX12_innF, tX12_ingT, tX12_ingF, tX12_isStageT, tX12_isStageF, tX1_isByteT, tX1_isByteF]
theorem sent {I : Nat → Nat → Int32} {p : Nat} {a b o : Int32} (h : a = 1 - o) : PC (u2 (u2 (u2 (u2 I (43 + p) 0 a) (43 + p) 1 b) (43 + p) 2 0) (43 + p) 3 0) p (o, b, 0, 0) ∧ ∀ c k, ¬ (c = 43 + p ∧ k < 4) → u2 (u2 (u2 (u2 I (43 + p) 0 a) (43 + p) 1 b) (43 + p) 2 0) (43 + p) 3 0 c k = I c k := by
  refine ⟨⟨?_, ?_, ?_, ?_⟩, fun c k hk => ?_⟩
  · simp (disch := omega) only [u2n, u2s]; exact h
  · simp (disch := omega) only [u2n, u2s]
  · simp (disch := omega) only [u2n, u2s]
  · simp (disch := omega) only [u2n, u2s]
  · simp (disch := omega) only [u2n, u2s]
/-- the class judges a probe -/
theorem jdC {σ : Shp} {R : Nat → Nat → Option Nat} {I : Nat → Nat → Int32} {J : Nat → Nat → Int64} {p : Nat} {any o w f n : Int32} (hp : p < 9) (ho : o = 0 ∨ o = 1) (h : PC I p (o, w, f, n)) : ∃ I', gX4_judge σ I J R (Int32.ofInt (p : Int)) any = some I' ∧ PC I' p (jd (decide (fX11_isNumber (J 52 p) ≠ 0 ∧ ¬ I (43 + p) 4 < 8 ∧ any ≠ 0)) o w f n) ∧ (∀ a k, ¬ (a = 43 + p ∧ k < 4) → I' a k = I a k) := by
  obtain ⟨h0, h1, h2, h3⟩ := id h
  have h0 : I (43 + p) 0 = 1 - o := h0
  have h2 : I (43 + p) 2 = f := h2
  have h3 : I (43 + p) 3 = n := h3
  have base : ∃ I', gX4_judge_b57 σ J R I (Int32.ofInt (p : Int)) (1 - o) = some I' ∧ PC I' p (jd false o w f n) ∧ (∀ a k, ¬ (a = 43 + p ∧ k < 4) → I' a k = I a k) := by
    rcases ho with rfl | rfl
    · have g0 : ((1 : Int32) - 0 = 0) = False := by decide
      by_cases c : f < 3
      · rw [jd_0a c]
        refine ⟨I, ?_, h, fun _ _ _ => rfl⟩
        unfold gX4_judge_b57 gX4_judge_b83
        simp (disch := omega) only [fail_r, no_r, nob_r, fI_o, Nat.reduceLeDiff, ↓reduceIte, not_true_eq_false, not_false_eq_true, false_imp_iff, true_imp_iff, and_true, true_and, and_self, implies_true, false_or, or_false, true_or, or_true, d10, d01, d00, d11, g_tn, Tot_some, Tot_none, Tot_ite, Tot_bind, ob_some, onl_n, onl_s, nat32, Int.toNat_natCast, i_add, i_sub, i_mul, i_addl, i_addr, i_subl, i_subr, i_mulr, i_addn, i_gd, i_tn, i_w, i_ltlT, i_ltlF, i_ltrT, i_ltrF, i_lelT, i_lelF, i_lerT, i_lerF, i_eqlT, i_eqlF, i_eqrT, i_eqrF, i_ltnT, i_ltnF, i_lenT, i_lenF, i_eqnT, i_eqnF, i_ltT, i_ltF, i_leT, i_leF, i_eqT, i_eqF, j_ltlT, j_ltlF, j_ltrT, j_ltrF, j_lelT, j_lelF, j_lerT, j_lerF, j_eqlT, j_eqlF, j_ltT, j_ltF, j_leT, j_leF, j_eqT, j_eqF, i_mull, l_tn, l_lt0, l_ne0, nleF, tX11_isStockT, tX11_isStockF, tX11_isBinT, tX11_isBinF, tX11_isPlanT, tX11_isPlanF, tX11_isValveT, tX11_isValveF, tX11_isLaneT, tX11_isLaneF, tX11_isGridFormT, tX11_isGridFormF, tX11_isFormT, tX11_isFormF, tX11_isTrayFormT, tX11_isTrayFormF, tX11_isPlacesFormT, tX11_isPlacesFormF, tX11_isTableT, tX11_isTableF, tX11_isProbeT, tX11_isProbeF, tX11_isHouseT, tX11_isHouseF, tX11_isPestT, tX11_isPestF, tX11_isStageT, tX11_isStageF, tX11_isPartT, tX11_isPartF, tX12_isBinT, tX12_isBinF, tX12_isTableT, tX12_isTableF, tX12_inT, tX12_inF, tX12_innT, tX12_innF, tX12_ingT, tX12_ingF, tX12_isStageT, tX12_isStageF, tX1_isByteT, tX1_isByteF, h2, c, g0]
      · rw [jd_0b c]
        have s := sent (I := I) (p := p) (a := 0) (b := 1) (o := 1) (by decide)
        refine ⟨_, ?_, s.1, s.2⟩
        have c' := eq_false c
        unfold gX4_judge_b57 gX4_judge_b83
        simp (disch := omega) only [fail_r, no_r, nob_r, fI_o, Nat.reduceLeDiff, ↓reduceIte, not_true_eq_false, not_false_eq_true, false_imp_iff, true_imp_iff, and_true, true_and, and_self, implies_true, false_or, or_false, true_or, or_true, d10, d01, d00, d11, g_tn, Tot_some, Tot_none, Tot_ite, Tot_bind, ob_some, onl_n, onl_s, nat32, Int.toNat_natCast, i_add, i_sub, i_mul, i_addl, i_addr, i_subl, i_subr, i_mulr, i_addn, i_gd, i_tn, i_w, i_ltlT, i_ltlF, i_ltrT, i_ltrF, i_lelT, i_lelF, i_lerT, i_lerF, i_eqlT, i_eqlF, i_eqrT, i_eqrF, i_ltnT, i_ltnF, i_lenT, i_lenF, i_eqnT, i_eqnF, i_ltT, i_ltF, i_leT, i_leF, i_eqT, i_eqF, j_ltlT, j_ltlF, j_ltrT, j_ltrF, j_lelT, j_lelF, j_lerT, j_lerF, j_eqlT, j_eqlF, j_ltT, j_ltF, j_leT, j_leF, j_eqT, j_eqF, i_mull, l_tn, l_lt0, l_ne0, nleF, tX11_isStockT, tX11_isStockF, tX11_isBinT, tX11_isBinF, tX11_isPlanT, tX11_isPlanF, tX11_isValveT, tX11_isValveF, tX11_isLaneT, tX11_isLaneF, tX11_isGridFormT, tX11_isGridFormF, tX11_isFormT, tX11_isFormF, tX11_isTrayFormT, tX11_isTrayFormF, tX11_isPlacesFormT, tX11_isPlacesFormF, tX11_isTableT, tX11_isTableF, tX11_isProbeT, tX11_isProbeF, tX11_isHouseT, tX11_isHouseF, tX11_isPestT, tX11_isPestF, tX11_isStageT, tX11_isStageF, tX11_isPartT, tX11_isPartF, tX12_isBinT, tX12_isBinF, tX12_isTableT, tX12_isTableF, tX12_inT, tX12_inF, tX12_innT, tX12_innF, tX12_ingT, tX12_ingF, tX12_isStageT, tX12_isStageF, tX1_isByteT, tX1_isByteF, h2, c', g0, send hp]
    · have g0 : ((1 : Int32) - 1 = 0) = True := by decide
      by_cases c : n < 5
      · rw [jd_1a c]
        refine ⟨I, ?_, h, fun _ _ _ => rfl⟩
        unfold gX4_judge_b57 gX4_judge_b83
        simp (disch := omega) only [fail_r, no_r, nob_r, fI_o, Nat.reduceLeDiff, ↓reduceIte, not_true_eq_false, not_false_eq_true, false_imp_iff, true_imp_iff, and_true, true_and, and_self, implies_true, false_or, or_false, true_or, or_true, d10, d01, d00, d11, g_tn, Tot_some, Tot_none, Tot_ite, Tot_bind, ob_some, onl_n, onl_s, nat32, Int.toNat_natCast, i_add, i_sub, i_mul, i_addl, i_addr, i_subl, i_subr, i_mulr, i_addn, i_gd, i_tn, i_w, i_ltlT, i_ltlF, i_ltrT, i_ltrF, i_lelT, i_lelF, i_lerT, i_lerF, i_eqlT, i_eqlF, i_eqrT, i_eqrF, i_ltnT, i_ltnF, i_lenT, i_lenF, i_eqnT, i_eqnF, i_ltT, i_ltF, i_leT, i_leF, i_eqT, i_eqF, j_ltlT, j_ltlF, j_ltrT, j_ltrF, j_lelT, j_lelF, j_lerT, j_lerF, j_eqlT, j_eqlF, j_ltT, j_ltF, j_leT, j_leF, j_eqT, j_eqF, i_mull, l_tn, l_lt0, l_ne0, nleF, tX11_isStockT, tX11_isStockF, tX11_isBinT, tX11_isBinF, tX11_isPlanT, tX11_isPlanF, tX11_isValveT, tX11_isValveF, tX11_isLaneT, tX11_isLaneF, tX11_isGridFormT, tX11_isGridFormF, tX11_isFormT, tX11_isFormF, tX11_isTrayFormT, tX11_isTrayFormF, tX11_isPlacesFormT, tX11_isPlacesFormF, tX11_isTableT, tX11_isTableF, tX11_isProbeT, tX11_isProbeF, tX11_isHouseT, tX11_isHouseF, tX11_isPestT, tX11_isPestF, tX11_isStageT, tX11_isStageF, tX11_isPartT, tX11_isPartF, tX12_isBinT, tX12_isBinF, tX12_isTableT, tX12_isTableF, tX12_inT, tX12_inF, tX12_innT, tX12_innF, tX12_ingT, tX12_ingF, tX12_isStageT, tX12_isStageF, tX1_isByteT, tX1_isByteF, h3, c, g0]
      · rw [jd_1b c]
        have s := sent (I := I) (p := p) (a := 1) (b := 0) (o := 0) (by decide)
        refine ⟨_, ?_, s.1, s.2⟩
        have c' := eq_false c
        unfold gX4_judge_b57 gX4_judge_b83
        simp (disch := omega) only [fail_r, no_r, nob_r, fI_o, Nat.reduceLeDiff, ↓reduceIte, not_true_eq_false, not_false_eq_true, false_imp_iff, true_imp_iff, and_true, true_and, and_self, implies_true, false_or, or_false, true_or, or_true, d10, d01, d00, d11, g_tn, Tot_some, Tot_none, Tot_ite, Tot_bind, ob_some, onl_n, onl_s, nat32, Int.toNat_natCast, i_add, i_sub, i_mul, i_addl, i_addr, i_subl, i_subr, i_mulr, i_addn, i_gd, i_tn, i_w, i_ltlT, i_ltlF, i_ltrT, i_ltrF, i_lelT, i_lelF, i_lerT, i_lerF, i_eqlT, i_eqlF, i_eqrT, i_eqrF, i_ltnT, i_ltnF, i_lenT, i_lenF, i_eqnT, i_eqnF, i_ltT, i_ltF, i_leT, i_leF, i_eqT, i_eqF, j_ltlT, j_ltlF, j_ltrT, j_ltrF, j_lelT, j_lelF, j_lerT, j_lerF, j_eqlT, j_eqlF, j_ltT, j_ltF, j_leT, j_leF, j_eqT, j_eqF, i_mull, l_tn, l_lt0, l_ne0, nleF, tX11_isStockT, tX11_isStockF, tX11_isBinT, tX11_isBinF, tX11_isPlanT, tX11_isPlanF, tX11_isValveT, tX11_isValveF, tX11_isLaneT, tX11_isLaneF, tX11_isGridFormT, tX11_isGridFormF, tX11_isFormT, tX11_isFormF, tX11_isTrayFormT, tX11_isTrayFormF, tX11_isPlacesFormT, tX11_isPlacesFormF, tX11_isTableT, tX11_isTableF, tX11_isProbeT, tX11_isProbeF, tX11_isHouseT, tX11_isHouseF, tX11_isPestT, tX11_isPestF, tX11_isStageT, tX11_isStageF, tX11_isPartT, tX11_isPartF, tX12_isBinT, tX12_isBinF, tX12_isTableT, tX12_isTableF, tX12_inT, tX12_inF, tX12_innT, tX12_innF, tX12_ingT, tX12_ingF, tX12_isStageT, tX12_isStageF, tX1_isByteT, tX1_isByteF, h3, c', g0, send hp]
  have b17 : gX4_judge σ I J R (Int32.ofInt (p : Int)) any = gX4_judge_b17 σ J R I (Int32.ofInt (p : Int)) any (1 - o) := by
    unfold gX4_judge
    rcases ho with rfl | rfl
    · have g : ((1 : Int32) - 0 = 1) = True := by decide
      simp (disch := omega) only [fail_r, no_r, nob_r, fI_o, Nat.reduceLeDiff, ↓reduceIte, not_true_eq_false, not_false_eq_true, false_imp_iff, true_imp_iff, and_true, true_and, and_self, implies_true, false_or, or_false, true_or, or_true, d10, d01, d00, d11, g_tn, Tot_some, Tot_none, Tot_ite, Tot_bind, ob_some, onl_n, onl_s, nat32, Int.toNat_natCast, i_add, i_sub, i_mul, i_addl, i_addr, i_subl, i_subr, i_mulr, i_addn, i_gd, i_tn, i_w, i_ltlT, i_ltlF, i_ltrT, i_ltrF, i_lelT, i_lelF, i_lerT, i_lerF, i_eqlT, i_eqlF, i_eqrT, i_eqrF, i_ltnT, i_ltnF, i_lenT, i_lenF, i_eqnT, i_eqnF, i_ltT, i_ltF, i_leT, i_leF, i_eqT, i_eqF, j_ltlT, j_ltlF, j_ltrT, j_ltrF, j_lelT, j_lelF, j_lerT, j_lerF, j_eqlT, j_eqlF, j_ltT, j_ltF, j_leT, j_leF, j_eqT, j_eqF, i_mull, l_tn, l_lt0, l_ne0, nleF, tX11_isStockT, tX11_isStockF, tX11_isBinT, tX11_isBinF, tX11_isPlanT, tX11_isPlanF, tX11_isValveT, tX11_isValveF, tX11_isLaneT, tX11_isLaneF, tX11_isGridFormT, tX11_isGridFormF, tX11_isFormT, tX11_isFormF, tX11_isTrayFormT, tX11_isTrayFormF, tX11_isPlacesFormT, tX11_isPlacesFormF, tX11_isTableT, tX11_isTableF, tX11_isProbeT, tX11_isProbeF, tX11_isHouseT, tX11_isHouseF, tX11_isPestT, tX11_isPestF, tX11_isStageT, tX11_isStageF, tX11_isPartT, tX11_isPartF, tX12_isBinT, tX12_isBinF, tX12_isTableT, tX12_isTableF, tX12_inT, tX12_inF, tX12_innT, tX12_innF, tX12_ingT, tX12_ingF, tX12_isStageT, tX12_isStageF, tX1_isByteT, tX1_isByteF, h0, g]
      rfl
    · have g : ((1 : Int32) - 1 = 1) = False := by decide
      simp (disch := omega) only [fail_r, no_r, nob_r, fI_o, Nat.reduceLeDiff, ↓reduceIte, not_true_eq_false, not_false_eq_true, false_imp_iff, true_imp_iff, and_true, true_and, and_self, implies_true, false_or, or_false, true_or, or_true, d10, d01, d00, d11, g_tn, Tot_some, Tot_none, Tot_ite, Tot_bind, ob_some, onl_n, onl_s, nat32, Int.toNat_natCast, i_add, i_sub, i_mul, i_addl, i_addr, i_subl, i_subr, i_mulr, i_addn, i_gd, i_tn, i_w, i_ltlT, i_ltlF, i_ltrT, i_ltrF, i_lelT, i_lelF, i_lerT, i_lerF, i_eqlT, i_eqlF, i_eqrT, i_eqrF, i_ltnT, i_ltnF, i_lenT, i_lenF, i_eqnT, i_eqnF, i_ltT, i_ltF, i_leT, i_leF, i_eqT, i_eqF, j_ltlT, j_ltlF, j_ltrT, j_ltrF, j_lelT, j_lelF, j_lerT, j_lerF, j_eqlT, j_eqlF, j_ltT, j_ltF, j_leT, j_leF, j_eqT, j_eqF, i_mull, l_tn, l_lt0, l_ne0, nleF, tX11_isStockT, tX11_isStockF, tX11_isBinT, tX11_isBinF, tX11_isPlanT, tX11_isPlanF, tX11_isValveT, tX11_isValveF, tX11_isLaneT, tX11_isLaneF, tX11_isGridFormT, tX11_isGridFormF, tX11_isFormT, tX11_isFormF, tX11_isTrayFormT, tX11_isTrayFormF, tX11_isPlacesFormT, tX11_isPlacesFormF, tX11_isTableT, tX11_isTableF, tX11_isProbeT, tX11_isProbeF, tX11_isHouseT, tX11_isHouseF, tX11_isPestT, tX11_isPestF, tX11_isStageT, tX11_isStageF, tX11_isPartT, tX11_isPartF, tX12_isBinT, tX12_isBinF, tX12_isTableT, tX12_isTableF, tX12_inT, tX12_inF, tX12_innT, tX12_innF, tX12_ingT, tX12_ingF, tX12_isStageT, tX12_isStageF, tX1_isByteT, tX1_isByteF, h0, g]
      rfl
  rw [b17]
  unfold gX4_judge_b17
  rw [if_pos (by rw [i_gd (by omega)]; exact not_false), i_tn (by omega), Int.toNat_natCast]
  by_cases c1 : fX11_isNumber (J 52 p) = 0
  · rw [if_pos c1, decide_eq_false (fun q => q.1 c1)]
    exact base
  · rw [if_neg c1, if_pos (by rw [i_ltl (by omega)]; omega), if_pos (by decide), show Int32.toNatClampNeg (4 : Int32) = 4 from rfl]
    by_cases c2 : I (43 + p) 4 < 8
    · rw [if_pos c2, decide_eq_false (fun q => q.2.1 c2)]
      exact base
    · rw [if_neg c2]
      by_cases c3 : any = 0
      · rw [if_pos c3, decide_eq_false (fun q => q.2.2 c3)]
        exact base
      · rw [if_neg c3, decide_eq_true (show fX11_isNumber (J 52 p) ≠ 0 ∧ ¬ I (43 + p) 4 < 8 ∧ any ≠ 0 from ⟨c1, c2, c3⟩), send hp, ob_some, jd_t]
        have s := sent (I := I) (p := p) (a := 0) (b := 2) (o := 1) (by decide)
        exact ⟨_, rfl, s.1, s.2⟩
/-- off and near of a probe that is looked at (l) and far (g) -/
def fN (l g : Bool) (f : Int32) : Int32 := if l then (if g then f + 1 else 0) else 0
def nN (l g : Bool) (n : Int32) : Int32 := if l then (if g then 0 else n + 1) else 0
/-- a turn of the class over a probe -/
theorem vt_step {σ : Shp} {R : Nat → Nat → Option Nat} {N : Nat} {I : Nat → Nat → Int32} {J : Nat → Nat → Int64} {D : Nat → Nat → UInt64} {h p : Nat} {any k o w f n : Int32} {m : UInt64} (hS : Skel σ R) (hh : h < 3) (hp : p < 9) (hk : k = 0 ∨ k = 1 ∧ isNum (J 55 h) ∧ m = (J 55 h).toUInt64) (hD : isNum (J 52 p) → D 53 p = (J 52 p).toUInt64) (hP : FP.Core.val64 (D 26 7) ≠ .nan) (hP2 : 0 ≤ FP.Core.dkey (D 26 7)) (ho : o = 0 ∨ o = 1) (hPC : PC I p (o, w, f, n)) : ∃ I', gX4_vote_l54 σ D R (N + 1) I J (Int32.ofInt (h : Int)) any k m (Int32.ofInt (p : Int)) = gX4_vote_l54 σ D R N I' J (Int32.ofInt (h : Int)) any k m (Int32.ofInt ((p + 3 : Nat) : Int)) ∧ PC I' p (jd (decide (fX11_isNumber (J 52 p) ≠ 0 ∧ ¬ I (43 + p) 4 < 8 ∧ any ≠ 0)) o w (fN (decide (k = 1) && decide (fX11_isNumber (J 52 p) ≠ 0)) (frC J D p (J 55 h)) f) (nN (decide (k = 1) && decide (fX11_isNumber (J 52 p) ≠ 0)) (frC J D p (J 55 h)) n)) ∧ (∀ a j, ¬ (a = 43 + p ∧ j < 4) → I' a j = I a j) := by
  have e3 : ((p : Int) + 3) = ((p + 3 : Nat) : Int) := by omega
  obtain ⟨h0, h1, h2, h3⟩ := id hPC
  have h2 : I (43 + p) 2 = f := h2
  have h3 : I (43 + p) 3 = n := h3
  have fin : ∀ (F2 N2 : Int32), ∃ I', (gX4_judge σ (u2 (u2 I (43 + p) 2 F2) (43 + p) 3 N2) J R (Int32.ofInt (p : Int)) any) = some I' ∧ PC I' p (jd (decide (fX11_isNumber (J 52 p) ≠ 0 ∧ ¬ I (43 + p) 4 < 8 ∧ any ≠ 0)) o w F2 N2) ∧ (∀ a j, ¬ (a = 43 + p ∧ j < 4) → I' a j = I a j) := by
    intro F2 N2
    have pc : PC (u2 (u2 I (43 + p) 2 F2) (43 + p) 3 N2) p (o, w, F2, N2) := by
      refine ⟨?_, ?_, ?_, ?_⟩
      · simp (disch := omega) only [u2n, u2s]; exact h0
      · simp (disch := omega) only [u2n, u2s]; exact h1
      · simp (disch := omega) only [u2n, u2s]
      · simp (disch := omega) only [u2n, u2s]
    obtain ⟨I', j1, j2, j3⟩ := jdC (σ := σ) (R := R) (J := J) (any := any) hp ho pc
    rw [show u2 (u2 I (43 + p) 2 F2) (43 + p) 3 N2 (43 + p) 4 = I (43 + p) 4 by simp (disch := omega) only [u2n, u2s]] at j2
    exact ⟨I', j1, j2, fun a j ha => by rw [j3 a j ha]; simp (disch := omega) only [u2n, u2s]⟩
  rw [gX4_vote_l54, if_neg (by rw [i_ler (by omega)]; omega)]
  rcases hk with rfl | ⟨rfl, v1, rfl⟩
  · rw [if_pos rfl, if_pos (by rw [i_gd (by omega)]; exact not_false), co0 hp, ob_some]
    obtain ⟨I', j1, j2, j3⟩ := fin 0 0
    rw [j1, ob_some, i_addl, e3]
    exact ⟨I', rfl, j2, j3⟩
  · rw [if_neg (by decide), if_pos (by rw [i_gd (by omega)]; exact not_false), i_tn (by omega), Int.toNat_natCast]
    by_cases c1 : isNum (J 52 p)
    · rw [isn_T c1, if_neg (by decide), if_pos (by rw [i_gd (by omega)]; exact not_false), i_tn (by omega), Int.toNat_natCast, co1 hS hp c1 v1 (hD c1) hP hP2, ob_some]
      obtain ⟨I', j1, j2, j3⟩ := fin (if frC J D p (J 55 h) then I (43 + p) 2 + 1 else 0) (if frC J D p (J 55 h) then 0 else I (43 + p) 3 + 1)
      rw [j1, ob_some, i_addl, e3]
      rw [isn_T c1, h2, h3] at j2
      exact ⟨I', rfl, j2, j3⟩
    · rw [isn_F c1, if_pos rfl, if_pos (by rw [i_gd (by omega)]; exact not_false), co0 hp, ob_some]
      obtain ⟨I', j1, j2, j3⟩ := fin 0 0
      rw [j1, ob_some, i_addl, e3]
      rw [isn_F c1] at j2
      exact ⟨I', rfl, j2, j3⟩
