/-! ===== minute: the model's vote ===== -/
def mvM (I : Nat → Nat → Int32) (J : Nat → Nat → Int64) (p : Nat) : Int32 := if I 114 85 ≤ 1 then 0 else if J 165 p = J 166 p then 0 else 1
def smM (I : Nat → Nat → Int32) (J : Nat → Nat → Int64) (p : Nat) : Int32 := if I 114 85 ≤ 1 then 1 else if J 165 p = J 166 p then I 171 p + 1 else 1
theorem narB0 : vp_nar .boolean 0 = 0 := by decide +kernel
theorem narB1 : vp_nar .boolean 1 = 1 := by decide +kernel
theorem ci_step {σ : Shp} {R : Nat → Nat → Option Nat} {n : Nat} {I : Nat → Nat → Int32} {J : Nat → Nat → Int64} {D : Nat → Nat → UInt64} {x1 : Int32} {p c : Nat} (hS : Skel σ R) (hp : p < 9) (hc : c < 9) : gX12_countIn_l4 σ J D R (n + 1) I x1 (Int32.ofInt (c : Int)) (Int32.ofInt (p : Int)) = gX12_countIn_l4 σ J D R n (u2 (u2 I 172 p (mvM I J p)) 171 p (smM I J p)) x1 (Int32.ofInt ((c + (rdM J p).toNat : Nat) : Int)) (Int32.ofInt ((p + 3 : Nat) : Int)) := by
  have e3 : ((p : Int) + 3) = ((p + 3 : Nat) : Int) := by omega
  have e1 : ((c : Int) + 1) = ((c + 1 : Nat) : Int) := by omega
  have e0 : Int32.ofInt (c : Int) + 0 = Int32.ofInt (c : Int) := by rw [show (0 : Int32) = Int32.ofInt 0 from rfl, i_add, Int.add_zero]
  have k1 := hS.k 172 24 (by decide) rfl
  have k2 := hS.l 172 9 (by decide) rfl
  have rn := reads_n (J := J) hp
  have b24 : ∀ s : Int32, gX12_countIn_b24 (gX12_countIn_l4 σ J D R n) σ J D R I x1 (Int32.ofInt (p : Int)) (Int32.ofInt (c : Int)) s = gX12_countIn_l4 σ J D R n (u2 (u2 I 172 p (mvM I J p)) 171 p (smM I J p)) x1 (Int32.ofInt (c : Int) + s) (Int32.ofInt ((p + 3 : Nat) : Int)) := by
    intro s
    unfold gX12_countIn_b24 gX12_countIn_b60
    by_cases c1 : I 114 85 ≤ 1
    · have f1 : mvM I J p = 0 := if_pos c1
      have f2 : smM I J p = 1 := if_pos c1
      rw [f1, f2]
      simp (disch := omega) only [fail_r, no_r, nob_r, fI_o, Nat.reduceLeDiff, ↓reduceIte, not_true_eq_false, not_false_eq_true, false_imp_iff, true_imp_iff, and_true, true_and, and_self, implies_true, false_or, or_false, true_or, or_true, d10, d01, d00, d11, g_tn, Tot_some, Tot_none, Tot_ite, Tot_bind, ob_some, onl_n, onl_s, nat32, Int.toNat_natCast, i_add, i_sub, i_mul, i_addl, i_addr, i_subl, i_subr, i_mulr, i_addn, i_gd, i_tn, i_w, i_ltlT, i_ltlF, i_ltrT, i_ltrF, i_lelT, i_lelF, i_lerT, i_lerF, i_eqlT, i_eqlF, i_eqrT, i_eqrF, i_ltnT, i_ltnF, i_lenT, i_lenF, i_eqnT, i_eqnF, i_ltT, i_ltF, i_leT, i_leF, i_eqT, i_eqF, j_ltlT, j_ltlF, j_ltrT, j_ltrF, j_lelT, j_lelF, j_lerT, j_lerF, j_eqlT, j_eqlF, j_ltT, j_ltF, j_leT, j_leF, j_eqT, j_eqF, i_mull, l_tn, l_lt0, l_ne0, nleF, tX11_isStockT, tX11_isStockF, tX11_isBinT, tX11_isBinF, tX11_isPlanT, tX11_isPlanF, tX11_isValveT, tX11_isValveF, tX11_isLaneT, tX11_isLaneF, tX11_isGridFormT, tX11_isGridFormF, tX11_isFormT, tX11_isFormF, tX11_isTrayFormT, tX11_isTrayFormF, tX11_isPlacesFormT, tX11_isPlacesFormF, tX11_isTableT, tX11_isTableF, tX11_isProbeT, tX11_isProbeF, tX11_isHouseT, tX11_isHouseF, tX11_isPestT, tX11_isPestF, tX11_isStageT, tX11_isStageF, tX11_isPartT, tX11_isPartF, tX12_isBinT, tX12_isBinF, tX12_isTableT, tX12_isTableF, tX12_inT, tX12_inF, tX12_innT, tX12_innF, tX12_ingT, tX12_ingF, tX12_isStageT, tX12_isStageF, tX1_isByteT, tX1_isByteF, c1, k1, k2, narB0, u2n, e3]
    · have c1' := eq_false c1
      by_cases c2 : J 165 p = J 166 p
      · have f1 : mvM I J p = 0 := by unfold mvM; rw [if_neg c1, if_pos c2]
        have f2 : smM I J p = I 171 p + 1 := by unfold smM; rw [if_neg c1, if_pos c2]
        rw [f1, f2]
        simp (disch := omega) only [fail_r, no_r, nob_r, fI_o, Nat.reduceLeDiff, ↓reduceIte, not_true_eq_false, not_false_eq_true, false_imp_iff, true_imp_iff, and_true, true_and, and_self, implies_true, false_or, or_false, true_or, or_true, d10, d01, d00, d11, g_tn, Tot_some, Tot_none, Tot_ite, Tot_bind, ob_some, onl_n, onl_s, nat32, Int.toNat_natCast, i_add, i_sub, i_mul, i_addl, i_addr, i_subl, i_subr, i_mulr, i_addn, i_gd, i_tn, i_w, i_ltlT, i_ltlF, i_ltrT, i_ltrF, i_lelT, i_lelF, i_lerT, i_lerF, i_eqlT, i_eqlF, i_eqrT, i_eqrF, i_ltnT, i_ltnF, i_lenT, i_lenF, i_eqnT, i_eqnF, i_ltT, i_ltF, i_leT, i_leF, i_eqT, i_eqF, j_ltlT, j_ltlF, j_ltrT, j_ltrF, j_lelT, j_lelF, j_lerT, j_lerF, j_eqlT, j_eqlF, j_ltT, j_ltF, j_leT, j_leF, j_eqT, j_eqF, i_mull, l_tn, l_lt0, l_ne0, nleF, tX11_isStockT, tX11_isStockF, tX11_isBinT, tX11_isBinF, tX11_isPlanT, tX11_isPlanF, tX11_isValveT, tX11_isValveF, tX11_isLaneT, tX11_isLaneF, tX11_isGridFormT, tX11_isGridFormF, tX11_isFormT, tX11_isFormF, tX11_isTrayFormT, tX11_isTrayFormF, tX11_isPlacesFormT, tX11_isPlacesFormF, tX11_isTableT, tX11_isTableF, tX11_isProbeT, tX11_isProbeF, tX11_isHouseT, tX11_isHouseF, tX11_isPestT, tX11_isPestF, tX11_isStageT, tX11_isStageF, tX11_isPartT, tX11_isPartF, tX12_isBinT, tX12_isBinF, tX12_isTableT, tX12_isTableF, tX12_inT, tX12_inF, tX12_innT, tX12_innF, tX12_ingT, tX12_ingF, tX12_isStageT, tX12_isStageF, tX1_isByteT, tX1_isByteF, c1', c2, k1, k2, narB0, u2n, u2s, e3]
      · have f1 : mvM I J p = 1 := by unfold mvM; rw [if_neg c1, if_neg c2]
        have f2 : smM I J p = 1 := by unfold smM; rw [if_neg c1, if_neg c2]
        have c2' := eq_false c2
        rw [f1, f2]
        simp (disch := omega) only [fail_r, no_r, nob_r, fI_o, Nat.reduceLeDiff, ↓reduceIte, not_true_eq_false, not_false_eq_true, false_imp_iff, true_imp_iff, and_true, true_and, and_self, implies_true, false_or, or_false, true_or, or_true, d10, d01, d00, d11, g_tn, Tot_some, Tot_none, Tot_ite, Tot_bind, ob_some, onl_n, onl_s, nat32, Int.toNat_natCast, i_add, i_sub, i_mul, i_addl, i_addr, i_subl, i_subr, i_mulr, i_addn, i_gd, i_tn, i_w, i_ltlT, i_ltlF, i_ltrT, i_ltrF, i_lelT, i_lelF, i_lerT, i_lerF, i_eqlT, i_eqlF, i_eqrT, i_eqrF, i_ltnT, i_ltnF, i_lenT, i_lenF, i_eqnT, i_eqnF, i_ltT, i_ltF, i_leT, i_leF, i_eqT, i_eqF, j_ltlT, j_ltlF, j_ltrT, j_ltrF, j_lelT, j_lelF, j_lerT, j_lerF, j_eqlT, j_eqlF, j_ltT, j_ltF, j_leT, j_leF, j_eqT, j_eqF, i_mull, l_tn, l_lt0, l_ne0, nleF, tX11_isStockT, tX11_isStockF, tX11_isBinT, tX11_isBinF, tX11_isPlanT, tX11_isPlanF, tX11_isValveT, tX11_isValveF, tX11_isLaneT, tX11_isLaneF, tX11_isGridFormT, tX11_isGridFormF, tX11_isFormT, tX11_isFormF, tX11_isTrayFormT, tX11_isTrayFormF, tX11_isPlacesFormT, tX11_isPlacesFormF, tX11_isTableT, tX11_isTableF, tX11_isProbeT, tX11_isProbeF, tX11_isHouseT, tX11_isHouseF, tX11_isPestT, tX11_isPestF, tX11_isStageT, tX11_isStageF, tX11_isPartT, tX11_isPartF, tX12_isBinT, tX12_isBinF, tX12_isTableT, tX12_isTableF, tX12_inT, tX12_inF, tX12_innT, tX12_innF, tX12_ingT, tX12_ingF, tX12_isStageT, tX12_isStageF, tX1_isByteT, tX1_isByteF, c1', c2', k1, k2, narB1, u2n, u2s, e3]
  rw [gX12_countIn_l4, if_neg (by rw [i_ler (by omega)]; omega), rn, ob_some]
  by_cases c1 : J 165 p = 9221120237041090560
  · have e : rdM J p = false := by unfold rdM; rw [decide_eq_false (fun q => q c1)]
    rw [if_pos c1, if_pos rfl, b24, e, e0]
    rfl
  · have e : rdM J p = true := by unfold rdM; rw [decide_eq_true c1]
    rw [if_neg c1, if_neg (by decide), b24, e, i_addl, e1]
    rfl
/-- the model says off -/
def frM (J : Nat → Nat → Int64) (D : Nat → Nat → UInt64) (p : Nat) (v : Int64) : Bool := decide (J 165 p ≠ v) && decide (Zv (D 114 94) < (if Zv (J 165 p).toUInt64 ≤ Zv v.toUInt64 then - Zv (FP.dsub (J 165 p).toUInt64 v.toUInt64) else Zv (FP.dsub (J 165 p).toUInt64 v.toUInt64)))
theorem isOff_n {J : Nat → Nat → Int64} {D : Nat → Nat → UInt64} {h p : Nat} (hh : h < 3) (hp : p < 9) (hb : isNum (J 165 p)) (hv : isNum (J 173 h)) (hP : FP.Core.val64 (D 114 94) ≠ .nan) : gX12_isOff J D (Int32.ofInt (p : Int)) (Int32.ofInt (h : Int)) = some (if frM J D p (J 173 h) then 1 else 0) := by
  unfold gX12_isOff
  rw [if_pos (by rw [i_gd (by omega)]; exact not_false), i_tn (by omega), Int.toNat_natCast, fromBits_num hb, ob_some, if_pos (by rw [i_gd (by omega)]; exact not_false), i_tn (by omega), Int.toNat_natCast, fromBits_num hv, ob_some]
  by_cases c : J 165 p = J 173 h
  · have e : frM J D p (J 173 h) = false := by unfold frM; rw [decide_eq_false (fun q => q c)]; rfl
    rw [if_pos c, e]
    rfl
  · rw [if_neg c]
    refine Eq.trans (off_m (num_ne hb) (num_ne hv) hP (u64_ne c)) ?_
    by_cases d : Zv (D 114 94) < (if Zv (J 165 p).toUInt64 ≤ Zv (J 173 h).toUInt64 then - Zv (FP.dsub (J 165 p).toUInt64 (J 173 h).toUInt64) else Zv (FP.dsub (J 165 p).toUInt64 (J 173 h).toUInt64))
    · have e : frM J D p (J 173 h) = true := by unfold frM; rw [decide_eq_true c, decide_eq_true d]; rfl
      rw [if_pos d, e]
      rfl
    · have e : frM J D p (J 173 h) = false := by unfold frM; rw [decide_eq_false d, Bool.and_false]
      rw [if_neg d, e]
      rfl
/-- is a probe looked at -/
def lkM (J : Nat → Nat → Int64) (h p c : Nat) : Bool := rdM J p && (decide (c = 3) && decide (J 173 h ≠ 9221120237041090560))
theorem cn_step {σ : Shp} {R : Nat → Nat → Option Nat} {n : Nat} {I : Nat → Nat → Int32} {J : Nat → Nat → Int64} {D : Nat → Nat → UInt64} {h p c : Nat} (hS : Skel σ R) (hh : h < 3) (hp : p < 9) (hc : c < 9) (hb : NumC (J 165 p)) (hv : NumC (J 173 h)) (hP : FP.Core.val64 (D 114 94) ≠ .nan) : gX12_countIn_l104 σ J D R (n + 1) I (Int32.ofInt (h : Int)) (Int32.ofInt (c : Int)) (Int32.ofInt (p : Int)) = gX12_countIn_l104 σ J D R n (u2 (u2 I 169 p (fN (lkM J h p c) (frM J D p (J 173 h)) (I 169 p))) 170 p (nN (lkM J h p c) (frM J D p (J 173 h)) (I 170 p))) (Int32.ofInt (h : Int)) (Int32.ofInt (c : Int)) (Int32.ofInt ((p + 3 : Nat) : Int)) := by
  have e3 : ((p : Int) + 3) = ((p + 3 : Nat) : Int) := by omega
  have k1 := hS.k 169 20 (by decide) rfl
  have k2 := hS.l 169 9 (by decide) rfl
  have rn := reads_n (J := J) hp
  have b0 : gX12_countIn_b141 (gX12_countIn_l104 σ J D R n) σ J D R I (Int32.ofInt (h : Int)) (Int32.ofInt (c : Int)) (Int32.ofInt (p : Int)) 0 = gX12_countIn_l104 σ J D R n (u2 (u2 I 169 p 0) 170 p 0) (Int32.ofInt (h : Int)) (Int32.ofInt (c : Int)) (Int32.ofInt ((p + 3 : Nat) : Int)) := by
    unfold gX12_countIn_b141 gX12_countIn_b162 gX12_countIn_b186
    simp (disch := omega) only [fail_r, no_r, nob_r, fI_o, Nat.reduceLeDiff, ↓reduceIte, not_true_eq_false, not_false_eq_true, false_imp_iff, true_imp_iff, and_true, true_and, and_self, implies_true, false_or, or_false, true_or, or_true, d10, d01, d00, d11, g_tn, Tot_some, Tot_none, Tot_ite, Tot_bind, ob_some, onl_n, onl_s, nat32, Int.toNat_natCast, i_add, i_sub, i_mul, i_addl, i_addr, i_subl, i_subr, i_mulr, i_addn, i_gd, i_tn, i_w, i_ltlT, i_ltlF, i_ltrT, i_ltrF, i_lelT, i_lelF, i_lerT, i_lerF, i_eqlT, i_eqlF, i_eqrT, i_eqrF, i_ltnT, i_ltnF, i_lenT, i_lenF, i_eqnT, i_eqnF, i_ltT, i_ltF, i_leT, i_leF, i_eqT, i_eqF, j_ltlT, j_ltlF, j_ltrT, j_ltrF, j_lelT, j_lelF, j_lerT, j_lerF, j_eqlT, j_eqlF, j_ltT, j_ltF, j_leT, j_leF, j_eqT, j_eqF, i_mull, l_tn, l_lt0, l_ne0, nleF, tX11_isStockT, tX11_isStockF, tX11_isBinT, tX11_isBinF, tX11_isPlanT, tX11_isPlanF, tX11_isValveT, tX11_isValveF, tX11_isLaneT, tX11_isLaneF, tX11_isGridFormT, tX11_isGridFormF, tX11_isFormT, tX11_isFormF, tX11_isTrayFormT, tX11_isTrayFormF, tX11_isPlacesFormT, tX11_isPlacesFormF, tX11_isTableT, tX11_isTableF, tX11_isProbeT, tX11_isProbeF, tX11_isHouseT, tX11_isHouseF, tX11_isPestT, tX11_isPestF, tX11_isStageT, tX11_isStageF, tX11_isPartT, tX11_isPartF, tX12_isBinT, tX12_isBinF, tX12_isTableT, tX12_isTableF, tX12_inT, tX12_inF, tX12_innT, tX12_innF, tX12_ingT, tX12_ingF, tX12_isStageT, tX12_isStageF, tX1_isByteT, tX1_isByteF, k1, k2, e3]
  have nol : lkM J h p c = false → gX12_countIn_l104 σ J D R n (u2 (u2 I 169 p 0) 170 p 0) (Int32.ofInt (h : Int)) (Int32.ofInt (c : Int)) (Int32.ofInt ((p + 3 : Nat) : Int)) = gX12_countIn_l104 σ J D R n (u2 (u2 I 169 p (fN (lkM J h p c) (frM J D p (J 173 h)) (I 169 p))) 170 p (nN (lkM J h p c) (frM J D p (J 173 h)) (I 170 p))) (Int32.ofInt (h : Int)) (Int32.ofInt (c : Int)) (Int32.ofInt ((p + 3 : Nat) : Int)) := fun e => by
    rw [e]; rfl
  rw [gX12_countIn_l104, if_neg (by rw [i_ler (by omega)]; omega), rn, ob_some]
  by_cases c1 : J 165 p = 9221120237041090560
  · have e : lkM J h p c = false := by unfold lkM rdM; rw [decide_eq_false (fun q => q c1)]; rfl
    rw [if_pos c1, if_pos rfl, b0]
    exact nol e
  · rw [if_neg c1, if_neg (by decide)]
    by_cases c2 : c = 3
    · rw [if_pos (by rw [c2]; rfl), if_pos (by rw [i_gd (by omega)]; exact not_false), i_tn (by omega), Int.toNat_natCast]
      by_cases c3 : J 173 h = 9221120237041090560
      · have e : lkM J h p c = false := by unfold lkM; rw [decide_eq_false (show ¬ J 173 h ≠ 9221120237041090560 from fun q => q c3), Bool.and_false, Bool.and_false]
        rw [if_pos c3, b0]
        exact nol e
      · have e : lkM J h p c = true := by unfold lkM rdM; rw [decide_eq_true c1, decide_eq_true c2, decide_eq_true c3]; rfl
        have nb : isNum (J 165 p) := by rcases hb with q | q <;> first | exact q | exact absurd q c1
        have nv : isNum (J 173 h) := by rcases hv with q | q <;> first | exact q | exact absurd q c3
        have of := isOff_n hh hp nb nv hP
        rw [if_neg c3, e]
        unfold gX12_countIn_b141
        rw [if_neg (by decide), of, ob_some]
        cases frM J D p (J 173 h)
        · have sF : (if false = true then (1 : Int32) else 0) = 0 := rfl
          rw [sF, if_pos rfl]
          show _ = gX12_countIn_l104 σ J D R n (u2 (u2 I 169 p 0) 170 p (I 170 p + 1)) (Int32.ofInt (h : Int)) (Int32.ofInt (c : Int)) (Int32.ofInt ((p + 3 : Nat) : Int))
          unfold gX12_countIn_b162 gX12_countIn_b186
          simp (disch := omega) only [fail_r, no_r, nob_r, fI_o, Nat.reduceLeDiff, ↓reduceIte, not_true_eq_false, not_false_eq_true, false_imp_iff, true_imp_iff, and_true, true_and, and_self, implies_true, false_or, or_false, true_or, or_true, d10, d01, d00, d11, g_tn, Tot_some, Tot_none, Tot_ite, Tot_bind, ob_some, onl_n, onl_s, nat32, Int.toNat_natCast, i_add, i_sub, i_mul, i_addl, i_addr, i_subl, i_subr, i_mulr, i_addn, i_gd, i_tn, i_w, i_ltlT, i_ltlF, i_ltrT, i_ltrF, i_lelT, i_lelF, i_lerT, i_lerF, i_eqlT, i_eqlF, i_eqrT, i_eqrF, i_ltnT, i_ltnF, i_lenT, i_lenF, i_eqnT, i_eqnF, i_ltT, i_ltF, i_leT, i_leF, i_eqT, i_eqF, j_ltlT, j_ltlF, j_ltrT, j_ltrF, j_lelT, j_lelF, j_lerT, j_lerF, j_eqlT, j_eqlF, j_ltT, j_ltF, j_leT, j_leF, j_eqT, j_eqF, i_mull, l_tn, l_lt0, l_ne0, nleF, tX11_isStockT, tX11_isStockF, tX11_isBinT, tX11_isBinF, tX11_isPlanT, tX11_isPlanF, tX11_isValveT, tX11_isValveF, tX11_isLaneT, tX11_isLaneF, tX11_isGridFormT, tX11_isGridFormF, tX11_isFormT, tX11_isFormF, tX11_isTrayFormT, tX11_isTrayFormF, tX11_isPlacesFormT, tX11_isPlacesFormF, tX11_isTableT, tX11_isTableF, tX11_isProbeT, tX11_isProbeF, tX11_isHouseT, tX11_isHouseF, tX11_isPestT, tX11_isPestF, tX11_isStageT, tX11_isStageF, tX11_isPartT, tX11_isPartF, tX12_isBinT, tX12_isBinF, tX12_isTableT, tX12_isTableF, tX12_inT, tX12_inF, tX12_innT, tX12_innF, tX12_ingT, tX12_ingF, tX12_isStageT, tX12_isStageF, tX1_isByteT, tX1_isByteF, k1, k2, u2n, e3]
        · have sT : (if true = true then (1 : Int32) else 0) = 1 := rfl
          rw [sT, if_neg (by decide)]
          show _ = gX12_countIn_l104 σ J D R n (u2 (u2 I 169 p (I 169 p + 1)) 170 p 0) (Int32.ofInt (h : Int)) (Int32.ofInt (c : Int)) (Int32.ofInt ((p + 3 : Nat) : Int))
          unfold gX12_countIn_b162 gX12_countIn_b186
          simp (disch := omega) only [fail_r, no_r, nob_r, fI_o, Nat.reduceLeDiff, ↓reduceIte, not_true_eq_false, not_false_eq_true, false_imp_iff, true_imp_iff, and_true, true_and, and_self, implies_true, false_or, or_false, true_or, or_true, d10, d01, d00, d11, g_tn, Tot_some, Tot_none, Tot_ite, Tot_bind, ob_some, onl_n, onl_s, nat32, Int.toNat_natCast, i_add, i_sub, i_mul, i_addl, i_addr, i_subl, i_subr, i_mulr, i_addn, i_gd, i_tn, i_w, i_ltlT, i_ltlF, i_ltrT, i_ltrF, i_lelT, i_lelF, i_lerT, i_lerF, i_eqlT, i_eqlF, i_eqrT, i_eqrF, i_ltnT, i_ltnF, i_lenT, i_lenF, i_eqnT, i_eqnF, i_ltT, i_ltF, i_leT, i_leF, i_eqT, i_eqF, j_ltlT, j_ltlF, j_ltrT, j_ltrF, j_lelT, j_lelF, j_lerT, j_lerF, j_eqlT, j_eqlF, j_ltT, j_ltF, j_leT, j_leF, j_eqT, j_eqF, i_mull, l_tn, l_lt0, l_ne0, nleF, tX11_isStockT, tX11_isStockF, tX11_isBinT, tX11_isBinF, tX11_isPlanT, tX11_isPlanF, tX11_isValveT, tX11_isValveF, tX11_isLaneT, tX11_isLaneF, tX11_isGridFormT, tX11_isGridFormF, tX11_isFormT, tX11_isFormF, tX11_isTrayFormT, tX11_isTrayFormF, tX11_isPlacesFormT, tX11_isPlacesFormF, tX11_isTableT, tX11_isTableF, tX11_isProbeT, tX11_isProbeF, tX11_isHouseT, tX11_isHouseF, tX11_isPestT, tX11_isPestF, tX11_isStageT, tX11_isStageF, tX11_isPartT, tX11_isPartF, tX12_isBinT, tX12_isBinF, tX12_isTableT, tX12_isTableF, tX12_inT, tX12_inF, tX12_innT, tX12_innF, tX12_ingT, tX12_ingF, tX12_isStageT, tX12_isStageF, tX1_isByteT, tX1_isByteF, k1, k2, u2n, e3]
    · have e : lkM J h p c = false := by unfold lkM; rw [decide_eq_false c2, Bool.false_and, Bool.and_false]
      rw [if_neg (by rw [i_eql (by omega)]; omega), b0]
      exact nol e
/-- the model's marks of a probe -/
def PM (I : Nat → Nat → Int32) (p : Nat) (r : Int32 × Int32 × Int32 × Int32) : Prop := I 167 p = r.1 ∧ I 168 p = r.2.1 ∧ I 169 p = r.2.2.1 ∧ I 170 p = r.2.2.2
/-- another one moved -/
def oS (I : Nat → Nat → Int32) (p : Nat) (x : Int32) (q : Nat) : Int32 := if x = 0 then (if q = p then 0 else if I 172 q = 0 then 0 else 1) else 1
theorem ot_step {q12 : (Nat → Nat → Int32) → (Nat → Nat → Int64) → (Int32) → (Int32) → (Option ((Nat → Nat → Int32) × (Nat → Nat → Int64)))} {σ : Shp} {R : Nat → Nat → Option Nat} {n : Nat} {I : Nat → Nat → Int32} {J : Nat → Nat → Int64} {D : Nat → Nat → UInt64} {x1 x3 : Int32} {p q : Nat} (hp : p < 9) (hq : q < 9) : gX12_vote_l23 q12 σ D R (n + 1) I J x1 (Int32.ofInt (p : Int)) x3 (Int32.ofInt (q : Int)) = gX12_vote_l23 q12 σ D R n I J x1 (Int32.ofInt (p : Int)) (oS I p x3 q) (Int32.ofInt ((q + 3 : Nat) : Int)) := by
  have e3 : ((q : Int) + 3) = ((q + 3 : Nat) : Int) := by omega
  rw [gX12_vote_l23, if_neg (by rw [i_ler (by omega)]; omega)]
  unfold oS
  by_cases c1 : x3 = 0
  · rw [if_pos c1, if_pos c1]
    by_cases c2 : q = p
    · rw [if_pos c2, if_pos (by rw [c2]), i_addl, e3]
    · rw [if_neg c2, if_neg (by rw [i_eq (by omega) (by omega)]; omega), if_pos (by rw [i_gd (by omega)]; exact not_false), i_tn (by omega), Int.toNat_natCast]
      by_cases c3 : I 172 q = 0
      · rw [if_pos c3, if_pos c3, i_addl, e3]
      · rw [if_neg c3, if_neg c3, i_addl, e3]
  · rw [if_neg c1, if_neg c1, i_addl, e3]
theorem b164 {q12 : (Nat → Nat → Int32) → (Nat → Nat → Int64) → (Int32) → (Int32) → (Option ((Nat → Nat → Int32) × (Nat → Nat → Int64)))} {σ : Shp} {R : Nat → Nat → Option Nat} {I : Nat → Nat → Int32} {J : Nat → Nat → Int64} {D : Nat → Nat → UInt64} {x1 a b : Int32} {p : Nat} (hp : p < 9) (hab : a = 0 ∧ b = 0 ∨ a = 0 ∧ b = 1 ∨ a = 1 ∧ b = 1) : ∃ I', gX12_vote_b164 q12 σ D R I J x1 (Int32.ofInt (p : Int)) a b = q12 I' J x1 (Int32.ofInt ((p + 3 : Nat) : Int)) ∧ PM I' p (b, (if a = 0 then b else 2), 0, 0) ∧ (∀ c k, ¬ ((167 ≤ c ∧ c ≤ 170) ∧ k = p) → I' c k = I c k) := by
  have e3 : ((p : Int) + 3) = ((p + 3 : Nat) : Int) := by omega
  have mk : ∀ (u w : Int32), PM (u2 (u2 (u2 (u2 I 167 p u) 168 p w) 169 p 0) 170 p 0) p (u, w, 0, 0) ∧ (∀ c k, ¬ ((167 ≤ c ∧ c ≤ 170) ∧ k = p) → u2 (u2 (u2 (u2 I 167 p u) 168 p w) 169 p 0) 170 p 0 c k = I c k) := fun u w => by
    refine ⟨⟨?_, ?_, ?_, ?_⟩, fun c k hk => ?_⟩
    · simp (disch := omega) only [u2n, u2s]
    · simp (disch := omega) only [u2n, u2s]
    · simp (disch := omega) only [u2n, u2s]
    · simp (disch := omega) only [u2n, u2s]
    · simp (disch := omega) only [u2n, u2s]
  rcases hab with ⟨rfl, rfl⟩ | ⟨rfl, rfl⟩ | ⟨rfl, rfl⟩
  · refine ⟨_, ?_, (mk 0 0).1, (mk 0 0).2⟩
    unfold gX12_vote_b164
    simp (disch := omega) only [fail_r, no_r, nob_r, fI_o, Nat.reduceLeDiff, ↓reduceIte, not_true_eq_false, not_false_eq_true, false_imp_iff, true_imp_iff, and_true, true_and, and_self, implies_true, false_or, or_false, true_or, or_true, d10, d01, d00, d11, g_tn, Tot_some, Tot_none, Tot_ite, Tot_bind, ob_some, onl_n, onl_s, nat32, Int.toNat_natCast, i_add, i_sub, i_mul, i_addl, i_addr, i_subl, i_subr, i_mulr, i_addn, i_gd, i_tn, i_w, i_ltlT, i_ltlF, i_ltrT, i_ltrF, i_lelT, i_lelF, i_lerT, i_lerF, i_eqlT, i_eqlF, i_eqrT, i_eqrF, i_ltnT, i_ltnF, i_lenT, i_lenF, i_eqnT, i_eqnF, i_ltT, i_ltF, i_leT, i_leF, i_eqT, i_eqF, j_ltlT, j_ltlF, j_ltrT, j_ltrF, j_lelT, j_lelF, j_lerT, j_lerF, j_eqlT, j_eqlF, j_ltT, j_ltF, j_leT, j_leF, j_eqT, j_eqF, i_mull, l_tn, l_lt0, l_ne0, nleF, tX11_isStockT, tX11_isStockF, tX11_isBinT, tX11_isBinF, tX11_isPlanT, tX11_isPlanF, tX11_isValveT, tX11_isValveF, tX11_isLaneT, tX11_isLaneF, tX11_isGridFormT, tX11_isGridFormF, tX11_isFormT, tX11_isFormF, tX11_isTrayFormT, tX11_isTrayFormF, tX11_isPlacesFormT, tX11_isPlacesFormF, tX11_isTableT, tX11_isTableF, tX11_isProbeT, tX11_isProbeF, tX11_isHouseT, tX11_isHouseF, tX11_isPestT, tX11_isPestF, tX11_isStageT, tX11_isStageF, tX11_isPartT, tX11_isPartF, tX12_isBinT, tX12_isBinF, tX12_isTableT, tX12_isTableF, tX12_inT, tX12_inF, tX12_innT, tX12_innF, tX12_ingT, tX12_ingF, tX12_isStageT, tX12_isStageF, tX1_isByteT, tX1_isByteF, narB0, e3]
  · refine ⟨_, ?_, (mk 1 1).1, (mk 1 1).2⟩
    unfold gX12_vote_b164
    simp (disch := omega) only [fail_r, no_r, nob_r, fI_o, Nat.reduceLeDiff, ↓reduceIte, not_true_eq_false, not_false_eq_true, false_imp_iff, true_imp_iff, and_true, true_and, and_self, implies_true, false_or, or_false, true_or, or_true, d10, d01, d00, d11, g_tn, Tot_some, Tot_none, Tot_ite, Tot_bind, ob_some, onl_n, onl_s, nat32, Int.toNat_natCast, i_add, i_sub, i_mul, i_addl, i_addr, i_subl, i_subr, i_mulr, i_addn, i_gd, i_tn, i_w, i_ltlT, i_ltlF, i_ltrT, i_ltrF, i_lelT, i_lelF, i_lerT, i_lerF, i_eqlT, i_eqlF, i_eqrT, i_eqrF, i_ltnT, i_ltnF, i_lenT, i_lenF, i_eqnT, i_eqnF, i_ltT, i_ltF, i_leT, i_leF, i_eqT, i_eqF, j_ltlT, j_ltlF, j_ltrT, j_ltrF, j_lelT, j_lelF, j_lerT, j_lerF, j_eqlT, j_eqlF, j_ltT, j_ltF, j_leT, j_leF, j_eqT, j_eqF, i_mull, l_tn, l_lt0, l_ne0, nleF, tX11_isStockT, tX11_isStockF, tX11_isBinT, tX11_isBinF, tX11_isPlanT, tX11_isPlanF, tX11_isValveT, tX11_isValveF, tX11_isLaneT, tX11_isLaneF, tX11_isGridFormT, tX11_isGridFormF, tX11_isFormT, tX11_isFormF, tX11_isTrayFormT, tX11_isTrayFormF, tX11_isPlacesFormT, tX11_isPlacesFormF, tX11_isTableT, tX11_isTableF, tX11_isProbeT, tX11_isProbeF, tX11_isHouseT, tX11_isHouseF, tX11_isPestT, tX11_isPestF, tX11_isStageT, tX11_isStageF, tX11_isPartT, tX11_isPartF, tX12_isBinT, tX12_isBinF, tX12_isTableT, tX12_isTableF, tX12_inT, tX12_inF, tX12_innT, tX12_innF, tX12_ingT, tX12_ingF, tX12_isStageT, tX12_isStageF, tX1_isByteT, tX1_isByteF, narB1, e3]
  · refine ⟨_, ?_, (mk 1 2).1, (mk 1 2).2⟩
    unfold gX12_vote_b164
    simp (disch := omega) only [fail_r, no_r, nob_r, fI_o, Nat.reduceLeDiff, ↓reduceIte, not_true_eq_false, not_false_eq_true, false_imp_iff, true_imp_iff, and_true, true_and, and_self, implies_true, false_or, or_false, true_or, or_true, d10, d01, d00, d11, g_tn, Tot_some, Tot_none, Tot_ite, Tot_bind, ob_some, onl_n, onl_s, nat32, Int.toNat_natCast, i_add, i_sub, i_mul, i_addl, i_addr, i_subl, i_subr, i_mulr, i_addn, i_gd, i_tn, i_w, i_ltlT, i_ltlF, i_ltrT, i_ltrF, i_lelT, i_lelF, i_lerT, i_lerF, i_eqlT, i_eqlF, i_eqrT, i_eqrF, i_ltnT, i_ltnF, i_lenT, i_lenF, i_eqnT, i_eqnF, i_ltT, i_ltF, i_leT, i_leF, i_eqT, i_eqF, j_ltlT, j_ltlF, j_ltrT, j_ltrF, j_lelT, j_lelF, j_lerT, j_lerF, j_eqlT, j_eqlF, j_ltT, j_ltF, j_leT, j_leF, j_eqT, j_eqF, i_mull, l_tn, l_lt0, l_ne0, nleF, tX11_isStockT, tX11_isStockF, tX11_isBinT, tX11_isBinF, tX11_isPlanT, tX11_isPlanF, tX11_isValveT, tX11_isValveF, tX11_isLaneT, tX11_isLaneF, tX11_isGridFormT, tX11_isGridFormF, tX11_isFormT, tX11_isFormF, tX11_isTrayFormT, tX11_isTrayFormF, tX11_isPlacesFormT, tX11_isPlacesFormF, tX11_isTableT, tX11_isTableF, tX11_isProbeT, tX11_isProbeF, tX11_isHouseT, tX11_isHouseF, tX11_isPestT, tX11_isPestF, tX11_isStageT, tX11_isStageF, tX11_isPartT, tX11_isPartF, tX12_isBinT, tX12_isBinF, tX12_isTableT, tX12_isTableF, tX12_inT, tX12_inF, tX12_innT, tX12_innF, tX12_ingT, tX12_ingF, tX12_isStageT, tX12_isStageF, tX1_isByteT, tX1_isByteF, narB1, e3]
theorem b90 {q12 : (Nat → Nat → Int32) → (Nat → Nat → Int64) → (Int32) → (Int32) → (Option ((Nat → Nat → Int32) × (Nat → Nat → Int64)))} {σ : Shp} {R : Nat → Nat → Option Nat} {I : Nat → Nat → Int32} {J : Nat → Nat → Int64} {D : Nat → Nat → UInt64} {x1 o w f n : Int32} {p : Nat} {st : Bool} (hp : p < 9) (ho : o = 0 ∨ o = 1) (h : PM I p (o, w, f, n)) : ∃ I', gX12_vote_b90 q12 σ D R I J x1 (Int32.ofInt (p : Int)) (if st then 1 else 0) = q12 I' J x1 (Int32.ofInt ((p + 3 : Nat) : Int)) ∧ PM I' p (jd st o w f n) ∧ (∀ c k, ¬ ((167 ≤ c ∧ c ≤ 170) ∧ k = p) → I' c k = I c k) := by
  have e3 : ((p : Int) + 3) = ((p + 3 : Nat) : Int) := by omega
  obtain ⟨h0, h1, h2, h3⟩ := id h
  have h0 : I 167 p = o := h0
  have h2 : I 169 p = f := h2
  have h3 : I 170 p = n := h3
  cases st
  · have sF : (if false = true then (1 : Int32) else 0) = 0 := rfl
    rw [sF]
    rcases ho with rfl | rfl
    · by_cases c : f < 3
      · rw [jd_0a c]
        refine ⟨I, ?_, h, fun _ _ _ => rfl⟩
        unfold gX12_vote_b90 gX12_vote_b121
        simp (disch := omega) only [fail_r, no_r, nob_r, fI_o, Nat.reduceLeDiff, ↓reduceIte, not_true_eq_false, not_false_eq_true, false_imp_iff, true_imp_iff, and_true, true_and, and_self, implies_true, false_or, or_false, true_or, or_true, d10, d01, d00, d11, g_tn, Tot_some, Tot_none, Tot_ite, Tot_bind, ob_some, onl_n, onl_s, nat32, Int.toNat_natCast, i_add, i_sub, i_mul, i_addl, i_addr, i_subl, i_subr, i_mulr, i_addn, i_gd, i_tn, i_w, i_ltlT, i_ltlF, i_ltrT, i_ltrF, i_lelT, i_lelF, i_lerT, i_lerF, i_eqlT, i_eqlF, i_eqrT, i_eqrF, i_ltnT, i_ltnF, i_lenT, i_lenF, i_eqnT, i_eqnF, i_ltT, i_ltF, i_leT, i_leF, i_eqT, i_eqF, j_ltlT, j_ltlF, j_ltrT, j_ltrF, j_lelT, j_lelF, j_lerT, j_lerF, j_eqlT, j_eqlF, j_ltT, j_ltF, j_leT, j_leF, j_eqT, j_eqF, i_mull, l_tn, l_lt0, l_ne0, nleF, tX11_isStockT, tX11_isStockF, tX11_isBinT, tX11_isBinF, tX11_isPlanT, tX11_isPlanF, tX11_isValveT, tX11_isValveF, tX11_isLaneT, tX11_isLaneF, tX11_isGridFormT, tX11_isGridFormF, tX11_isFormT, tX11_isFormF, tX11_isTrayFormT, tX11_isTrayFormF, tX11_isPlacesFormT, tX11_isPlacesFormF, tX11_isTableT, tX11_isTableF, tX11_isProbeT, tX11_isProbeF, tX11_isHouseT, tX11_isHouseF, tX11_isPestT, tX11_isPestF, tX11_isStageT, tX11_isStageF, tX11_isPartT, tX11_isPartF, tX12_isBinT, tX12_isBinF, tX12_isTableT, tX12_isTableF, tX12_inT, tX12_inF, tX12_innT, tX12_innF, tX12_ingT, tX12_ingF, tX12_isStageT, tX12_isStageF, tX1_isByteT, tX1_isByteF, h0, h2, c, e3]
      · rw [jd_0b c]
        have c' := eq_false c
        obtain ⟨I', r1, r2, r3⟩ := b164 (q12 := q12) (σ := σ) (R := R) (I := I) (J := J) (D := D) (x1 := x1) (a := 0) (b := 1) hp (Or.inr (Or.inl ⟨rfl, rfl⟩))
        refine ⟨I', ?_, r2, r3⟩
        unfold gX12_vote_b90 gX12_vote_b121
        simp (disch := omega) only [fail_r, no_r, nob_r, fI_o, Nat.reduceLeDiff, ↓reduceIte, not_true_eq_false, not_false_eq_true, false_imp_iff, true_imp_iff, and_true, true_and, and_self, implies_true, false_or, or_false, true_or, or_true, d10, d01, d00, d11, g_tn, Tot_some, Tot_none, Tot_ite, Tot_bind, ob_some, onl_n, onl_s, nat32, Int.toNat_natCast, i_add, i_sub, i_mul, i_addl, i_addr, i_subl, i_subr, i_mulr, i_addn, i_gd, i_tn, i_w, i_ltlT, i_ltlF, i_ltrT, i_ltrF, i_lelT, i_lelF, i_lerT, i_lerF, i_eqlT, i_eqlF, i_eqrT, i_eqrF, i_ltnT, i_ltnF, i_lenT, i_lenF, i_eqnT, i_eqnF, i_ltT, i_ltF, i_leT, i_leF, i_eqT, i_eqF, j_ltlT, j_ltlF, j_ltrT, j_ltrF, j_lelT, j_lelF, j_lerT, j_lerF, j_eqlT, j_eqlF, j_ltT, j_ltF, j_leT, j_leF, j_eqT, j_eqF, i_mull, l_tn, l_lt0, l_ne0, nleF, tX11_isStockT, tX11_isStockF, tX11_isBinT, tX11_isBinF, tX11_isPlanT, tX11_isPlanF, tX11_isValveT, tX11_isValveF, tX11_isLaneT, tX11_isLaneF, tX11_isGridFormT, tX11_isGridFormF, tX11_isFormT, tX11_isFormF, tX11_isTrayFormT, tX11_isTrayFormF, tX11_isPlacesFormT, tX11_isPlacesFormF, tX11_isTableT, tX11_isTableF, tX11_isProbeT, tX11_isProbeF, tX11_isHouseT, tX11_isHouseF, tX11_isPestT, tX11_isPestF, tX11_isStageT, tX11_isStageF, tX11_isPartT, tX11_isPartF, tX12_isBinT, tX12_isBinF, tX12_isTableT, tX12_isTableF, tX12_inT, tX12_inF, tX12_innT, tX12_innF, tX12_ingT, tX12_ingF, tX12_isStageT, tX12_isStageF, tX1_isByteT, tX1_isByteF, h0, h2, c', r1]
    · by_cases c : n < 5
      · rw [jd_1a c]
        refine ⟨I, ?_, h, fun _ _ _ => rfl⟩
        unfold gX12_vote_b90 gX12_vote_b121
        simp (disch := omega) only [fail_r, no_r, nob_r, fI_o, Nat.reduceLeDiff, ↓reduceIte, not_true_eq_false, not_false_eq_true, false_imp_iff, true_imp_iff, and_true, true_and, and_self, implies_true, false_or, or_false, true_or, or_true, d10, d01, d00, d11, g_tn, Tot_some, Tot_none, Tot_ite, Tot_bind, ob_some, onl_n, onl_s, nat32, Int.toNat_natCast, i_add, i_sub, i_mul, i_addl, i_addr, i_subl, i_subr, i_mulr, i_addn, i_gd, i_tn, i_w, i_ltlT, i_ltlF, i_ltrT, i_ltrF, i_lelT, i_lelF, i_lerT, i_lerF, i_eqlT, i_eqlF, i_eqrT, i_eqrF, i_ltnT, i_ltnF, i_lenT, i_lenF, i_eqnT, i_eqnF, i_ltT, i_ltF, i_leT, i_leF, i_eqT, i_eqF, j_ltlT, j_ltlF, j_ltrT, j_ltrF, j_lelT, j_lelF, j_lerT, j_lerF, j_eqlT, j_eqlF, j_ltT, j_ltF, j_leT, j_leF, j_eqT, j_eqF, i_mull, l_tn, l_lt0, l_ne0, nleF, tX11_isStockT, tX11_isStockF, tX11_isBinT, tX11_isBinF, tX11_isPlanT, tX11_isPlanF, tX11_isValveT, tX11_isValveF, tX11_isLaneT, tX11_isLaneF, tX11_isGridFormT, tX11_isGridFormF, tX11_isFormT, tX11_isFormF, tX11_isTrayFormT, tX11_isTrayFormF, tX11_isPlacesFormT, tX11_isPlacesFormF, tX11_isTableT, tX11_isTableF, tX11_isProbeT, tX11_isProbeF, tX11_isHouseT, tX11_isHouseF, tX11_isPestT, tX11_isPestF, tX11_isStageT, tX11_isStageF, tX11_isPartT, tX11_isPartF, tX12_isBinT, tX12_isBinF, tX12_isTableT, tX12_isTableF, tX12_inT, tX12_inF, tX12_innT, tX12_innF, tX12_ingT, tX12_ingF, tX12_isStageT, tX12_isStageF, tX1_isByteT, tX1_isByteF, h0, h3, c, e3]
      · rw [jd_1b c]
        have c' := eq_false c
        obtain ⟨I', r1, r2, r3⟩ := b164 (q12 := q12) (σ := σ) (R := R) (I := I) (J := J) (D := D) (x1 := x1) (a := 0) (b := 0) hp (Or.inl ⟨rfl, rfl⟩)
        refine ⟨I', ?_, r2, r3⟩
        unfold gX12_vote_b90 gX12_vote_b121
        simp (disch := omega) only [fail_r, no_r, nob_r, fI_o, Nat.reduceLeDiff, ↓reduceIte, not_true_eq_false, not_false_eq_true, false_imp_iff, true_imp_iff, and_true, true_and, and_self, implies_true, false_or, or_false, true_or, or_true, d10, d01, d00, d11, g_tn, Tot_some, Tot_none, Tot_ite, Tot_bind, ob_some, onl_n, onl_s, nat32, Int.toNat_natCast, i_add, i_sub, i_mul, i_addl, i_addr, i_subl, i_subr, i_mulr, i_addn, i_gd, i_tn, i_w, i_ltlT, i_ltlF, i_ltrT, i_ltrF, i_lelT, i_lelF, i_lerT, i_lerF, i_eqlT, i_eqlF, i_eqrT, i_eqrF, i_ltnT, i_ltnF, i_lenT, i_lenF, i_eqnT, i_eqnF, i_ltT, i_ltF, i_leT, i_leF, i_eqT, i_eqF, j_ltlT, j_ltlF, j_ltrT, j_ltrF, j_lelT, j_lelF, j_lerT, j_lerF, j_eqlT, j_eqlF, j_ltT, j_ltF, j_leT, j_leF, j_eqT, j_eqF, i_mull, l_tn, l_lt0, l_ne0, nleF, tX11_isStockT, tX11_isStockF, tX11_isBinT, tX11_isBinF, tX11_isPlanT, tX11_isPlanF, tX11_isValveT, tX11_isValveF, tX11_isLaneT, tX11_isLaneF, tX11_isGridFormT, tX11_isGridFormF, tX11_isFormT, tX11_isFormF, tX11_isTrayFormT, tX11_isTrayFormF, tX11_isPlacesFormT, tX11_isPlacesFormF, tX11_isTableT, tX11_isTableF, tX11_isProbeT, tX11_isProbeF, tX11_isHouseT, tX11_isHouseF, tX11_isPestT, tX11_isPestF, tX11_isStageT, tX11_isStageF, tX11_isPartT, tX11_isPartF, tX12_isBinT, tX12_isBinF, tX12_isTableT, tX12_isTableF, tX12_inT, tX12_inF, tX12_innT, tX12_innF, tX12_ingT, tX12_ingF, tX12_isStageT, tX12_isStageF, tX1_isByteT, tX1_isByteF, h0, h3, c', r1]
  · have sT : (if true = true then (1 : Int32) else 0) = 1 := rfl
    rw [sT, jd_t]
    obtain ⟨I', r1, r2, r3⟩ := b164 (q12 := q12) (σ := σ) (R := R) (I := I) (J := J) (D := D) (x1 := x1) (a := 1) (b := 1) hp (Or.inr (Or.inr ⟨rfl, rfl⟩))
    refine ⟨I', ?_, r2, r3⟩
    unfold gX12_vote_b90 gX12_vote_b121
    simp (disch := omega) only [fail_r, no_r, nob_r, fI_o, Nat.reduceLeDiff, ↓reduceIte, not_true_eq_false, not_false_eq_true, false_imp_iff, true_imp_iff, and_true, true_and, and_self, implies_true, false_or, or_false, true_or, or_true, d10, d01, d00, d11, g_tn, Tot_some, Tot_none, Tot_ite, Tot_bind, ob_some, onl_n, onl_s, nat32, Int.toNat_natCast, i_add, i_sub, i_mul, i_addl, i_addr, i_subl, i_subr, i_mulr, i_addn, i_gd, i_tn, i_w, i_ltlT, i_ltlF, i_ltrT, i_ltrF, i_lelT, i_lelF, i_lerT, i_lerF, i_eqlT, i_eqlF, i_eqrT, i_eqrF, i_ltnT, i_ltnF, i_lenT, i_lenF, i_eqnT, i_eqnF, i_ltT, i_ltF, i_leT, i_leF, i_eqT, i_eqF, j_ltlT, j_ltlF, j_ltrT, j_ltrF, j_lelT, j_lelF, j_lerT, j_lerF, j_eqlT, j_eqlF, j_ltT, j_ltF, j_leT, j_leF, j_eqT, j_eqF, i_mull, l_tn, l_lt0, l_ne0, nleF, tX11_isStockT, tX11_isStockF, tX11_isBinT, tX11_isBinF, tX11_isPlanT, tX11_isPlanF, tX11_isValveT, tX11_isValveF, tX11_isLaneT, tX11_isLaneF, tX11_isGridFormT, tX11_isGridFormF, tX11_isFormT, tX11_isFormF, tX11_isTrayFormT, tX11_isTrayFormF, tX11_isPlacesFormT, tX11_isPlacesFormF, tX11_isTableT, tX11_isTableF, tX11_isProbeT, tX11_isProbeF, tX11_isHouseT, tX11_isHouseF, tX11_isPestT, tX11_isPestF, tX11_isStageT, tX11_isStageF, tX11_isPartT, tX11_isPartF, tX12_isBinT, tX12_isBinF, tX12_isTableT, tX12_isTableF, tX12_inT, tX12_inF, tX12_innT, tX12_innF, tX12_ingT, tX12_ingF, tX12_isStageT, tX12_isStageF, tX1_isByteT, tX1_isByteF, r1]
/-- did another one of the house move -/
def oth (I : Nat → Nat → Int32) (h p : Nat) : Int32 := oS I p (oS I p (oS I p 0 h) (h + 3)) (h + 6)
theorem vm_step {σ : Shp} {R : Nat → Nat → Option Nat} {n : Nat} {I : Nat → Nat → Int32} {J : Nat → Nat → Int64} {D : Nat → Nat → UInt64} {o w f g : Int32} {h p : Nat} (hh : h < 3) (hp : p < 9) (ho : o = 0 ∨ o = 1) (hM : PM I p (o, w, f, g)) : ∃ I', gX12_vote_l12 σ D R (n + 1) I J (Int32.ofInt (h : Int)) (Int32.ofInt (p : Int)) = gX12_vote_l12 σ D R n I' J (Int32.ofInt (h : Int)) (Int32.ofInt ((p + 3 : Nat) : Int)) ∧ PM I' p (jd (rdM J p && decide (¬ I 171 p < 8 ∧ oth I h p ≠ 0)) o w f g) ∧ (∀ c k, ¬ ((167 ≤ c ∧ c ≤ 170) ∧ k = p) → I' c k = I c k) := by
  obtain ⟨F, hF⟩ : ∃ F, FUx = F := ⟨_, rfl⟩
  have hF' : F = 2000000 := by rw [← hF, FUx_eq]
  obtain ⟨z, rfl⟩ : ∃ z, F = z + 4 := ⟨F - 4, by omega⟩
  have rn := reads_n (J := J) hp
  rw [gX12_vote_l12, if_neg (by rw [i_ler (by omega)]; omega), hF, ot_step hp (by omega), ot_step hp (by omega), show h + 3 + 3 = h + 6 by omega, ot_step hp (by omega), show h + 6 + 3 = h + 9 by omega]
  rw [gX12_vote_l23, if_pos (by rw [i_ler (by omega)]; omega), rn, ob_some]
  rw [show oS I p (oS I p (oS I p 0 h) (h + 3)) (h + 6) = oth I h p from rfl]
  have b9 := fun st => b90 (q12 := gX12_vote_l12 σ D R n) (σ := σ) (R := R) (I := I) (J := J) (D := D) (x1 := Int32.ofInt (h : Int)) (st := st) hp ho hM
  by_cases c1 : J 165 p = 9221120237041090560
  · have e : rdM J p = false := by unfold rdM; rw [decide_eq_false (fun q => q c1)]
    rw [if_pos c1, if_pos rfl, e, Bool.false_and]
    exact b9 false
  · have e : rdM J p = true := by unfold rdM; rw [decide_eq_true c1]
    rw [if_neg c1, if_neg (by decide), if_pos (by rw [i_gd (by omega)]; exact not_false), i_tn (by omega), Int.toNat_natCast, e, Bool.true_and]
    by_cases c2 : I 171 p < 8
    · rw [if_pos c2, decide_eq_false (fun q => q.1 c2)]
      exact b9 false
    · rw [if_neg c2]
      by_cases c3 : oth I h p = 0
      · rw [if_pos c3, decide_eq_false (fun q => q.2 c3)]
        exact b9 false
      · rw [if_neg c3, decide_eq_true (show ¬ I 171 p < 8 ∧ oth I h p ≠ 0 from ⟨c2, c3⟩)]
        exact b9 true
theorem bf_step {σ : Shp} {R : Nat → Nat → Option Nat} {n : Nat} {I : Nat → Nat → Int32} {J : Nat → Nat → Int64} {D : Nat → Nat → UInt64} {p : Nat} (hp : p < 9) : gX12_vote_l219 σ D R (n + 1) I J (Int32.ofInt (p : Int)) = gX12_vote_l219 σ D R n I (u2 J 166 p (J 165 p)) (Int32.ofInt ((p + 3 : Nat) : Int)) := by
  have e3 : ((p : Int) + 3) = ((p + 3 : Nat) : Int) := by omega
  rw [gX12_vote_l219]
  simp (disch := omega) only [fail_r, no_r, nob_r, fI_o, Nat.reduceLeDiff, ↓reduceIte, not_true_eq_false, not_false_eq_true, false_imp_iff, true_imp_iff, and_true, true_and, and_self, implies_true, false_or, or_false, true_or, or_true, d10, d01, d00, d11, g_tn, Tot_some, Tot_none, Tot_ite, Tot_bind, ob_some, onl_n, onl_s, nat32, Int.toNat_natCast, i_add, i_sub, i_mul, i_addl, i_addr, i_subl, i_subr, i_mulr, i_addn, i_gd, i_tn, i_w, i_ltlT, i_ltlF, i_ltrT, i_ltrF, i_lelT, i_lelF, i_lerT, i_lerF, i_eqlT, i_eqlF, i_eqrT, i_eqrF, i_ltnT, i_ltnF, i_lenT, i_lenF, i_eqnT, i_eqnF, i_ltT, i_ltF, i_leT, i_leF, i_eqT, i_eqF, j_ltlT, j_ltlF, j_ltrT, j_ltrF, j_lelT, j_lelF, j_lerT, j_lerF, j_eqlT, j_eqlF, j_ltT, j_ltF, j_leT, j_leF, j_eqT, j_eqF, i_mull, l_tn, l_lt0, l_ne0, nleF, tX11_isStockT, tX11_isStockF, tX11_isBinT, tX11_isBinF, tX11_isPlanT, tX11_isPlanF, tX11_isValveT, tX11_isValveF, tX11_isLaneT, tX11_isLaneF, tX11_isGridFormT, tX11_isGridFormF, tX11_isFormT, tX11_isFormF, tX11_isTrayFormT, tX11_isTrayFormF, tX11_isPlacesFormT, tX11_isPlacesFormF, tX11_isTableT, tX11_isTableF, tX11_isProbeT, tX11_isProbeF, tX11_isHouseT, tX11_isHouseF, tX11_isPestT, tX11_isPestF, tX11_isStageT, tX11_isStageF, tX11_isPartT, tX11_isPartF, tX12_isBinT, tX12_isBinF, tX12_isTableT, tX12_isTableF, tX12_inT, tX12_inF, tX12_innT, tX12_innF, tX12_ingT, tX12_ingF, tX12_isStageT, tX12_isStageF, tX1_isByteT, tX1_isByteF, e3]
