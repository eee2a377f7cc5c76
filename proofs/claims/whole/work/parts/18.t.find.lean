/-! ===== minute: the model finds the value ===== -/
theorem kk_eq (x : Int64) : (if (0 : Int64) ≤ x then x else ((x &&& (9223372036854775807 : Int64)) ^^^ (-1 : Int64))) = Int64.ofInt (okk x) := by
  have hb := x.toUInt64.toNat_lt
  unfold okk
  by_cases z : x.toUInt64.toNat < 2 ^ 63
  · rw [if_pos (by rw [t_le0]; exact z), if_pos z]
    exact j_nat rfl
  · rw [if_neg (by rw [t_le0]; exact z), if_neg z, t_and63]
    have e : (Int64.ofInt ((x.toUInt64.toNat % 2 ^ 63 : Nat) : Int) ^^^ (-1 : Int64)).toBitVec.toNat = 2 ^ 64 - 1 - x.toUInt64.toNat % 2 ^ 63 := by
      rw [Int64.toBitVec_xor, show ((-1 : Int64)).toBitVec = BitVec.allOnes 64 by decide, BitVec.xor_allOnes, BitVec.toNat_not, jn (by omega)]
    rw [← Int64.toInt_inj, tiJ (by omega) (by omega)]
    show (Int64.ofInt ((x.toUInt64.toNat % 2 ^ 63 : Nat) : Int) ^^^ (-1 : Int64)).toBitVec.toInt = _
    rw [BitVec.toInt_eq_toNat_cond, e, if_neg (by omega)]
    omega
theorem below_n (x y : Int64) : fX12_isBelow x y = if okk x < okk y then 1 else 0 := by
  have hx := kk_eq x
  have hy := kk_eq y
  have bx := okk_b x
  have by' := okk_b y
  have g : ∀ s0 : Int64, s0 = Int64.ofInt (okk x) → fX12_isBelow_b19 y s0 = if okk x < okk y then 1 else 0 := by
    intro s0 hs
    unfold fX12_isBelow_b19
    have fin : ∀ y' : Int64, y' = Int64.ofInt (okk y) → (if y' ≤ s0 then (0 : Int32) else 1) = if okk x < okk y then 1 else 0 := by
      intro y' h'
      have cc : (y' ≤ s0) = (okk y ≤ okk x) := by rw [h', hs]; exact j_le by' bx
      by_cases c : okk y ≤ okk x
      · rw [if_pos (cc.mpr c), if_neg (by omega)]
      · rw [if_neg (fun q => c (cc.mp q)), if_pos (by omega)]
    by_cases z : (0 : Int64) ≤ y
    · rw [if_pos z] at hy ⊢
      exact fin y hy
    · rw [if_neg z] at hy ⊢
      exact fin _ hy
  unfold fX12_isBelow
  by_cases z : (0 : Int64) ≤ x
  · rw [if_pos z] at hx ⊢
    exact g x hx
  · rw [if_neg z] at hx ⊢
    exact g _ hx
theorem okk_inj {a b : Int64} (h : okk a = okk b) : a = b := by
  have ha := a.toUInt64.toNat_lt
  have hb := b.toUInt64.toNat_lt
  refine Int64.toBitVec_inj.mp (BitVec.eq_of_toNat_eq ?_)
  show a.toUInt64.toNat = b.toUInt64.toNat
  unfold okk at h
  split at h <;> split at h <;> omega
/-- does a probe read; is it looked at -/
def rdM (J : Nat → Nat → Int64) (p : Nat) : Bool := decide (J 165 p ≠ 9221120237041090560)
def inM (I : Nat → Nat → Int32) (J : Nat → Nat → Int64) (p : Nat) : Bool := rdM J p && decide (I 167 p = 0)
def ltM (J : Nat → Nat → Int64) (q p : Nat) : Bool := decide (okk (J 165 q) < okk (J 165 p)) || (decide (J 165 q = J 165 p) && decide (q < p))
theorem reads_n {J : Nat → Nat → Int64} {p : Nat} (hp : p < 9) : gX12_reads J (Int32.ofInt (p : Int)) = some (if J 165 p = 9221120237041090560 then 0 else 1) := by
  unfold gX12_reads
  rw [if_pos (by rw [i_gd (by omega)]; exact not_false), i_tn (by omega), Int.toNat_natCast]
  by_cases c : J 165 p = 9221120237041090560
  · rw [if_pos c, if_pos c]
  · rw [if_neg c, if_neg c]
theorem fn_step {σ : Shp} {R : Nat → Nat → Option Nat} {n : Nat} {I : Nat → Nat → Int32} {J : Nat → Nat → Int64} {x1 : Int32} {p c : Nat} (hp : p < 9) (hc : c < 9) : gX12_find_l4 σ I R (n + 1) J x1 (Int32.ofInt (c : Int)) (Int32.ofInt (p : Int)) = gX12_find_l4 σ I R n J x1 (Int32.ofInt ((c + (inM I J p).toNat : Nat) : Int)) (Int32.ofInt ((p + 3 : Nat) : Int)) := by
  have e3 : ((p : Int) + 3) = ((p + 3 : Nat) : Int) := by omega
  have e1 : ((c : Int) + 1) = ((c + 1 : Nat) : Int) := by omega
  have e0 : Int32.ofInt (c : Int) + 0 = Int32.ofInt (c : Int) := by rw [show (0 : Int32) = Int32.ofInt 0 from rfl, i_add, Int.add_zero]
  have rn := reads_n (J := J) hp
  rw [gX12_find_l4]
  by_cases c1 : J 165 p = 9221120237041090560
  · have e : inM I J p = false := by unfold inM rdM; rw [decide_eq_false (fun q => q c1)]; rfl
    rw [e]
    show _ = gX12_find_l4 σ I R n J x1 (Int32.ofInt (c : Int)) _
    rw [if_pos c1] at rn
    simp (disch := omega) only [fail_r, no_r, nob_r, fI_o, Nat.reduceLeDiff, ↓reduceIte, not_true_eq_false, not_false_eq_true, false_imp_iff, true_imp_iff, and_true, true_and, and_self, implies_true, false_or, or_false, true_or, or_true, d10, d01, d00, d11, g_tn, Tot_some, Tot_none, Tot_ite, Tot_bind, ob_some, onl_n, onl_s, nat32, Int.toNat_natCast, i_add, i_sub, i_mul, i_addl, i_addr, i_subl, i_subr, i_mulr, i_addn, i_gd, i_tn, i_w, i_ltlT, i_ltlF, i_ltrT, i_ltrF, i_lelT, i_lelF, i_lerT, i_lerF, i_eqlT, i_eqlF, i_eqrT, i_eqrF, i_ltnT, i_ltnF, i_lenT, i_lenF, i_eqnT, i_eqnF, i_ltT, i_ltF, i_leT, i_leF, i_eqT, i_eqF, j_ltlT, j_ltlF, j_ltrT, j_ltrF, j_lelT, j_lelF, j_lerT, j_lerF, j_eqlT, j_eqlF, j_ltT, j_ltF, j_leT, j_leF, j_eqT, j_eqF, i_mull, l_tn, l_lt0, l_ne0, nleF, tX11_isStockT, tX11_isStockF, tX11_isBinT, tX11_isBinF, tX11_isPlanT, tX11_isPlanF, tX11_isValveT, tX11_isValveF, tX11_isLaneT, tX11_isLaneF, tX11_isGridFormT, tX11_isGridFormF, tX11_isFormT, tX11_isFormF, tX11_isTrayFormT, tX11_isTrayFormF, tX11_isPlacesFormT, tX11_isPlacesFormF, tX11_isTableT, tX11_isTableF, tX11_isProbeT, tX11_isProbeF, tX11_isHouseT, tX11_isHouseF, tX11_isPestT, tX11_isPestF, tX11_isStageT, tX11_isStageF, tX11_isPartT, tX11_isPartF, tX12_isBinT, tX12_isBinF, tX12_isTableT, tX12_isTableF, tX12_inT, tX12_inF, tX12_innT, tX12_innF, tX12_ingT, tX12_ingF, tX12_isStageT, tX12_isStageF, tX1_isByteT, tX1_isByteF, rn, e3, e0]
  · rw [if_neg c1] at rn
    by_cases c2 : I 167 p = 0
    · have e : inM I J p = true := by unfold inM rdM; rw [decide_eq_true c1, decide_eq_true c2]; rfl
      rw [e]
      show _ = gX12_find_l4 σ I R n J x1 (Int32.ofInt ((c + 1 : Nat) : Int)) _
      simp (disch := omega) only [fail_r, no_r, nob_r, fI_o, Nat.reduceLeDiff, ↓reduceIte, not_true_eq_false, not_false_eq_true, false_imp_iff, true_imp_iff, and_true, true_and, and_self, implies_true, false_or, or_false, true_or, or_true, d10, d01, d00, d11, g_tn, Tot_some, Tot_none, Tot_ite, Tot_bind, ob_some, onl_n, onl_s, nat32, Int.toNat_natCast, i_add, i_sub, i_mul, i_addl, i_addr, i_subl, i_subr, i_mulr, i_addn, i_gd, i_tn, i_w, i_ltlT, i_ltlF, i_ltrT, i_ltrF, i_lelT, i_lelF, i_lerT, i_lerF, i_eqlT, i_eqlF, i_eqrT, i_eqrF, i_ltnT, i_ltnF, i_lenT, i_lenF, i_eqnT, i_eqnF, i_ltT, i_ltF, i_leT, i_leF, i_eqT, i_eqF, j_ltlT, j_ltlF, j_ltrT, j_ltrF, j_lelT, j_lelF, j_lerT, j_lerF, j_eqlT, j_eqlF, j_ltT, j_ltF, j_leT, j_leF, j_eqT, j_eqF, i_mull, l_tn, l_lt0, l_ne0, nleF, tX11_isStockT, tX11_isStockF, tX11_isBinT, tX11_isBinF, tX11_isPlanT, tX11_isPlanF, tX11_isValveT, tX11_isValveF, tX11_isLaneT, tX11_isLaneF, tX11_isGridFormT, tX11_isGridFormF, tX11_isFormT, tX11_isFormF, tX11_isTrayFormT, tX11_isTrayFormF, tX11_isPlacesFormT, tX11_isPlacesFormF, tX11_isTableT, tX11_isTableF, tX11_isProbeT, tX11_isProbeF, tX11_isHouseT, tX11_isHouseF, tX11_isPestT, tX11_isPestF, tX11_isStageT, tX11_isStageF, tX11_isPartT, tX11_isPartF, tX12_isBinT, tX12_isBinF, tX12_isTableT, tX12_isTableF, tX12_inT, tX12_inF, tX12_innT, tX12_innF, tX12_ingT, tX12_ingF, tX12_isStageT, tX12_isStageF, tX1_isByteT, tX1_isByteF, rn, e3, c2, e1]
    · have e : inM I J p = false := by unfold inM; rw [decide_eq_false c2, Bool.and_false]
      rw [e]
      show _ = gX12_find_l4 σ I R n J x1 (Int32.ofInt (c : Int)) _
      have c2' := eq_false c2
      simp (disch := omega) only [fail_r, no_r, nob_r, fI_o, Nat.reduceLeDiff, ↓reduceIte, not_true_eq_false, not_false_eq_true, false_imp_iff, true_imp_iff, and_true, true_and, and_self, implies_true, false_or, or_false, true_or, or_true, d10, d01, d00, d11, g_tn, Tot_some, Tot_none, Tot_ite, Tot_bind, ob_some, onl_n, onl_s, nat32, Int.toNat_natCast, i_add, i_sub, i_mul, i_addl, i_addr, i_subl, i_subr, i_mulr, i_addn, i_gd, i_tn, i_w, i_ltlT, i_ltlF, i_ltrT, i_ltrF, i_lelT, i_lelF, i_lerT, i_lerF, i_eqlT, i_eqlF, i_eqrT, i_eqrF, i_ltnT, i_ltnF, i_lenT, i_lenF, i_eqnT, i_eqnF, i_ltT, i_ltF, i_leT, i_leF, i_eqT, i_eqF, j_ltlT, j_ltlF, j_ltrT, j_ltrF, j_lelT, j_lelF, j_lerT, j_lerF, j_eqlT, j_eqlF, j_ltT, j_ltF, j_leT, j_leF, j_eqT, j_eqF, i_mull, l_tn, l_lt0, l_ne0, nleF, tX11_isStockT, tX11_isStockF, tX11_isBinT, tX11_isBinF, tX11_isPlanT, tX11_isPlanF, tX11_isValveT, tX11_isValveF, tX11_isLaneT, tX11_isLaneF, tX11_isGridFormT, tX11_isGridFormF, tX11_isFormT, tX11_isFormF, tX11_isTrayFormT, tX11_isTrayFormF, tX11_isPlacesFormT, tX11_isPlacesFormF, tX11_isTableT, tX11_isTableF, tX11_isProbeT, tX11_isProbeF, tX11_isHouseT, tX11_isHouseF, tX11_isPestT, tX11_isPestF, tX11_isStageT, tX11_isStageF, tX11_isPartT, tX11_isPartF, tX12_isBinT, tX12_isBinF, tX12_isTableT, tX12_isTableF, tX12_inT, tX12_inF, tX12_innT, tX12_innF, tX12_ingT, tX12_ingF, tX12_isStageT, tX12_isStageF, tX1_isByteT, tX1_isByteF, rn, e3, c2', e0]
theorem ah_step {q52 : (Nat → Nat → Int64) → (Int32) → (Int32) → (Int32) → (Option ((Nat → Nat → Int64)))} {σ : Shp} {R : Nat → Nat → Option Nat} {n : Nat} {I : Nat → Nat → Int32} {J : Nat → Nat → Int64} {x1 x2 : Int32} {p q a : Nat} (hp : p < 9) (hq : q < 9) (ha : a < 9) : gX12_find_l68 q52 σ I R (n + 1) J x1 x2 (Int32.ofInt (p : Int)) (Int32.ofInt (a : Int)) (Int32.ofInt (q : Int)) = gX12_find_l68 q52 σ I R n J x1 x2 (Int32.ofInt (p : Int)) (Int32.ofInt ((a + (inM I J q && ltM J q p).toNat : Nat) : Int)) (Int32.ofInt ((q + 3 : Nat) : Int)) := by
  have e3 : ((q : Int) + 3) = ((q + 3 : Nat) : Int) := by omega
  have e1 : ((a : Int) + 1) = ((a + 1 : Nat) : Int) := by omega
  have e0 : Int32.ofInt (a : Int) + 0 = Int32.ofInt (a : Int) := by rw [show (0 : Int32) = Int32.ofInt 0 from rfl, i_add, Int.add_zero]
  have rn := reads_n (J := J) hq
  have b122 : ∀ s : Bool, gX12_find_b122 q52 (gX12_find_l68 q52 σ I R n) σ I R J x1 x2 (Int32.ofInt (p : Int)) (Int32.ofInt (a : Int)) (Int32.ofInt (q : Int)) (if s then 1 else 0) = gX12_find_l68 q52 σ I R n J x1 x2 (Int32.ofInt (p : Int)) (Int32.ofInt ((a + (inM I J q && s).toNat : Nat) : Int)) (Int32.ofInt ((q + 3 : Nat) : Int)) := by
    intro s
    unfold gX12_find_b122
    by_cases c1 : J 165 q = 9221120237041090560
    · have e : inM I J q = false := by unfold inM rdM; rw [decide_eq_false (fun w => w c1)]; rfl
      rw [e, Bool.false_and]
      show _ = gX12_find_l68 q52 σ I R n J x1 x2 (Int32.ofInt (p : Int)) (Int32.ofInt (a : Int)) _
      rw [if_pos c1] at rn
      simp (disch := omega) only [fail_r, no_r, nob_r, fI_o, Nat.reduceLeDiff, ↓reduceIte, not_true_eq_false, not_false_eq_true, false_imp_iff, true_imp_iff, and_true, true_and, and_self, implies_true, false_or, or_false, true_or, or_true, d10, d01, d00, d11, g_tn, Tot_some, Tot_none, Tot_ite, Tot_bind, ob_some, onl_n, onl_s, nat32, Int.toNat_natCast, i_add, i_sub, i_mul, i_addl, i_addr, i_subl, i_subr, i_mulr, i_addn, i_gd, i_tn, i_w, i_ltlT, i_ltlF, i_ltrT, i_ltrF, i_lelT, i_lelF, i_lerT, i_lerF, i_eqlT, i_eqlF, i_eqrT, i_eqrF, i_ltnT, i_ltnF, i_lenT, i_lenF, i_eqnT, i_eqnF, i_ltT, i_ltF, i_leT, i_leF, i_eqT, i_eqF, j_ltlT, j_ltlF, j_ltrT, j_ltrF, j_lelT, j_lelF, j_lerT, j_lerF, j_eqlT, j_eqlF, j_ltT, j_ltF, j_leT, j_leF, j_eqT, j_eqF, i_mull, l_tn, l_lt0, l_ne0, nleF, tX11_isStockT, tX11_isStockF, tX11_isBinT, tX11_isBinF, tX11_isPlanT, tX11_isPlanF, tX11_isValveT, tX11_isValveF, tX11_isLaneT, tX11_isLaneF, tX11_isGridFormT, tX11_isGridFormF, tX11_isFormT, tX11_isFormF, tX11_isTrayFormT, tX11_isTrayFormF, tX11_isPlacesFormT, tX11_isPlacesFormF, tX11_isTableT, tX11_isTableF, tX11_isProbeT, tX11_isProbeF, tX11_isHouseT, tX11_isHouseF, tX11_isPestT, tX11_isPestF, tX11_isStageT, tX11_isStageF, tX11_isPartT, tX11_isPartF, tX12_isBinT, tX12_isBinF, tX12_isTableT, tX12_isTableF, tX12_inT, tX12_inF, tX12_innT, tX12_innF, tX12_ingT, tX12_ingF, tX12_isStageT, tX12_isStageF, tX1_isByteT, tX1_isByteF, rn, e3, e0]
    · rw [if_neg c1] at rn
      by_cases c2 : I 167 q = 0
      · have e : inM I J q = true := by unfold inM rdM; rw [decide_eq_true c1, decide_eq_true c2]; rfl
        rw [e, Bool.true_and]
        cases s
        · show _ = gX12_find_l68 q52 σ I R n J x1 x2 (Int32.ofInt (p : Int)) (Int32.ofInt (a : Int)) _
          have sF : (if false = true then (1 : Int32) else 0) = 0 := rfl
          rw [sF]
          simp (disch := omega) only [fail_r, no_r, nob_r, fI_o, Nat.reduceLeDiff, ↓reduceIte, not_true_eq_false, not_false_eq_true, false_imp_iff, true_imp_iff, and_true, true_and, and_self, implies_true, false_or, or_false, true_or, or_true, d10, d01, d00, d11, g_tn, Tot_some, Tot_none, Tot_ite, Tot_bind, ob_some, onl_n, onl_s, nat32, Int.toNat_natCast, i_add, i_sub, i_mul, i_addl, i_addr, i_subl, i_subr, i_mulr, i_addn, i_gd, i_tn, i_w, i_ltlT, i_ltlF, i_ltrT, i_ltrF, i_lelT, i_lelF, i_lerT, i_lerF, i_eqlT, i_eqlF, i_eqrT, i_eqrF, i_ltnT, i_ltnF, i_lenT, i_lenF, i_eqnT, i_eqnF, i_ltT, i_ltF, i_leT, i_leF, i_eqT, i_eqF, j_ltlT, j_ltlF, j_ltrT, j_ltrF, j_lelT, j_lelF, j_lerT, j_lerF, j_eqlT, j_eqlF, j_ltT, j_ltF, j_leT, j_leF, j_eqT, j_eqF, i_mull, l_tn, l_lt0, l_ne0, nleF, tX11_isStockT, tX11_isStockF, tX11_isBinT, tX11_isBinF, tX11_isPlanT, tX11_isPlanF, tX11_isValveT, tX11_isValveF, tX11_isLaneT, tX11_isLaneF, tX11_isGridFormT, tX11_isGridFormF, tX11_isFormT, tX11_isFormF, tX11_isTrayFormT, tX11_isTrayFormF, tX11_isPlacesFormT, tX11_isPlacesFormF, tX11_isTableT, tX11_isTableF, tX11_isProbeT, tX11_isProbeF, tX11_isHouseT, tX11_isHouseF, tX11_isPestT, tX11_isPestF, tX11_isStageT, tX11_isStageF, tX11_isPartT, tX11_isPartF, tX12_isBinT, tX12_isBinF, tX12_isTableT, tX12_isTableF, tX12_inT, tX12_inF, tX12_innT, tX12_innF, tX12_ingT, tX12_ingF, tX12_isStageT, tX12_isStageF, tX1_isByteT, tX1_isByteF, rn, e3, c2, e0]
        · show _ = gX12_find_l68 q52 σ I R n J x1 x2 (Int32.ofInt (p : Int)) (Int32.ofInt ((a + 1 : Nat) : Int)) _
          have sT : (if true = true then (1 : Int32) else 0) = 1 := rfl
          rw [sT]
          simp (disch := omega) only [fail_r, no_r, nob_r, fI_o, Nat.reduceLeDiff, ↓reduceIte, not_true_eq_false, not_false_eq_true, false_imp_iff, true_imp_iff, and_true, true_and, and_self, implies_true, false_or, or_false, true_or, or_true, d10, d01, d00, d11, g_tn, Tot_some, Tot_none, Tot_ite, Tot_bind, ob_some, onl_n, onl_s, nat32, Int.toNat_natCast, i_add, i_sub, i_mul, i_addl, i_addr, i_subl, i_subr, i_mulr, i_addn, i_gd, i_tn, i_w, i_ltlT, i_ltlF, i_ltrT, i_ltrF, i_lelT, i_lelF, i_lerT, i_lerF, i_eqlT, i_eqlF, i_eqrT, i_eqrF, i_ltnT, i_ltnF, i_lenT, i_lenF, i_eqnT, i_eqnF, i_ltT, i_ltF, i_leT, i_leF, i_eqT, i_eqF, j_ltlT, j_ltlF, j_ltrT, j_ltrF, j_lelT, j_lelF, j_lerT, j_lerF, j_eqlT, j_eqlF, j_ltT, j_ltF, j_leT, j_leF, j_eqT, j_eqF, i_mull, l_tn, l_lt0, l_ne0, nleF, tX11_isStockT, tX11_isStockF, tX11_isBinT, tX11_isBinF, tX11_isPlanT, tX11_isPlanF, tX11_isValveT, tX11_isValveF, tX11_isLaneT, tX11_isLaneF, tX11_isGridFormT, tX11_isGridFormF, tX11_isFormT, tX11_isFormF, tX11_isTrayFormT, tX11_isTrayFormF, tX11_isPlacesFormT, tX11_isPlacesFormF, tX11_isTableT, tX11_isTableF, tX11_isProbeT, tX11_isProbeF, tX11_isHouseT, tX11_isHouseF, tX11_isPestT, tX11_isPestF, tX11_isStageT, tX11_isStageF, tX11_isPartT, tX11_isPartF, tX12_isBinT, tX12_isBinF, tX12_isTableT, tX12_isTableF, tX12_inT, tX12_inF, tX12_innT, tX12_innF, tX12_ingT, tX12_ingF, tX12_isStageT, tX12_isStageF, tX1_isByteT, tX1_isByteF, rn, e3, c2, e1]
      · have e : inM I J q = false := by unfold inM; rw [decide_eq_false c2, Bool.and_false]
        rw [e, Bool.false_and]
        show _ = gX12_find_l68 q52 σ I R n J x1 x2 (Int32.ofInt (p : Int)) (Int32.ofInt (a : Int)) _
        have c2' := eq_false c2
        simp (disch := omega) only [fail_r, no_r, nob_r, fI_o, Nat.reduceLeDiff, ↓reduceIte, not_true_eq_false, not_false_eq_true, false_imp_iff, true_imp_iff, and_true, true_and, and_self, implies_true, false_or, or_false, true_or, or_true, d10, d01, d00, d11, g_tn, Tot_some, Tot_none, Tot_ite, Tot_bind, ob_some, onl_n, onl_s, nat32, Int.toNat_natCast, i_add, i_sub, i_mul, i_addl, i_addr, i_subl, i_subr, i_mulr, i_addn, i_gd, i_tn, i_w, i_ltlT, i_ltlF, i_ltrT, i_ltrF, i_lelT, i_lelF, i_lerT, i_lerF, i_eqlT, i_eqlF, i_eqrT, i_eqrF, i_ltnT, i_ltnF, i_lenT, i_lenF, i_eqnT, i_eqnF, i_ltT, i_ltF, i_leT, i_leF, i_eqT, i_eqF, j_ltlT, j_ltlF, j_ltrT, j_ltrF, j_lelT, j_lelF, j_lerT, j_lerF, j_eqlT, j_eqlF, j_ltT, j_ltF, j_leT, j_leF, j_eqT, j_eqF, i_mull, l_tn, l_lt0, l_ne0, nleF, tX11_isStockT, tX11_isStockF, tX11_isBinT, tX11_isBinF, tX11_isPlanT, tX11_isPlanF, tX11_isValveT, tX11_isValveF, tX11_isLaneT, tX11_isLaneF, tX11_isGridFormT, tX11_isGridFormF, tX11_isFormT, tX11_isFormF, tX11_isTrayFormT, tX11_isTrayFormF, tX11_isPlacesFormT, tX11_isPlacesFormF, tX11_isTableT, tX11_isTableF, tX11_isProbeT, tX11_isProbeF, tX11_isHouseT, tX11_isHouseF, tX11_isPestT, tX11_isPestF, tX11_isStageT, tX11_isStageF, tX11_isPartT, tX11_isPartF, tX12_isBinT, tX12_isBinF, tX12_isTableT, tX12_isTableF, tX12_inT, tX12_inF, tX12_innT, tX12_innF, tX12_ingT, tX12_ingF, tX12_isStageT, tX12_isStageF, tX1_isByteT, tX1_isByteF, rn, e3, c2', e0]
  rw [gX12_find_l68, if_neg (by rw [i_ler (by omega)]; omega), if_pos (by rw [i_gd (by omega)]; exact not_false), if_pos (by rw [i_gd (by omega)]; exact not_false), i_tn (by omega), i_tn (by omega), Int.toNat_natCast, Int.toNat_natCast, below_n]
  by_cases d1 : okk (J 165 q) < okk (J 165 p)
  · have e : ltM J q p = true := by unfold ltM; rw [decide_eq_true d1]; rfl
    rw [if_pos d1, if_neg (by decide), e]
    exact b122 true
  · rw [if_neg d1, if_pos rfl]
    by_cases d2 : J 165 q = J 165 p
    · rw [if_pos d2]
      by_cases d3 : q < p
      · have e : ltM J q p = true := by unfold ltM; rw [decide_eq_true d2, decide_eq_true d3, Bool.and_true, Bool.or_true]
        rw [if_neg (by rw [i_le (by omega) (by omega)]; omega), e]
        exact b122 true
      · have e : ltM J q p = false := by unfold ltM; rw [decide_eq_false d1, decide_eq_false d3, Bool.and_false]; rfl
        rw [if_pos (by rw [i_le (by omega) (by omega)]; omega), e]
        exact b122 false
    · have e : ltM J q p = false := by unfold ltM; rw [decide_eq_false d1, decide_eq_false d2]; rfl
      rw [if_neg d2, e]
      exact b122 false
theorem ah_end {q52 : (Nat → Nat → Int64) → (Int32) → (Int32) → (Int32) → (Option ((Nat → Nat → Int64)))} {σ : Shp} {R : Nat → Nat → Option Nat} {n : Nat} {I : Nat → Nat → Int32} {J : Nat → Nat → Int64} {h p q a c : Nat} (hh : h < 3) (hp : p < 9) (hq : 9 ≤ q ∧ q < 100) (ha : a < 9) (hc : 1 ≤ c ∧ c < 9) : gX12_find_l68 q52 σ I R (n + 1) J (Int32.ofInt (h : Int)) (Int32.ofInt (c : Int)) (Int32.ofInt (p : Int)) (Int32.ofInt (a : Int)) (Int32.ofInt (q : Int)) = q52 (if inM I J p && decide (a = (c - 1) / 2) then u2 J 173 h (J 165 p) else J) (Int32.ofInt (h : Int)) (Int32.ofInt (c : Int)) (Int32.ofInt ((p + 3 : Nat) : Int)) := by
  have e3 : ((p : Int) + 3) = ((p + 3 : Nat) : Int) := by omega
  have eh : (Int32.ofInt (a : Int) = (Int32.ofInt (c : Int) - 1) / 2) = (a = (c - 1) / 2) := by
    rw [i_subl, show (c : Int) - 1 = ((c - 1 : Nat) : Int) by omega, i_hn (by omega), i_eq (by omega) (by omega)]
    apply propext
    omega
  have rn := reads_n (J := J) hp
  rw [gX12_find_l68, if_pos (by rw [i_ler (by omega)]; omega), rn, ob_some, i_addl, e3]
  by_cases c1 : J 165 p = 9221120237041090560
  · have e : inM I J p = false := by unfold inM rdM; rw [decide_eq_false (fun w => w c1)]; rfl
    rw [e, if_pos c1, if_pos rfl]
    rfl
  · rw [if_neg c1, if_neg (by decide), if_pos (by rw [i_gd (by omega)]; exact not_false), i_tn (by omega), Int.toNat_natCast]
    by_cases c2 : I 167 p = 0
    · have e : inM I J p = true := by unfold inM rdM; rw [decide_eq_true c1, decide_eq_true c2]; rfl
      rw [e, if_pos c2]
      simp only [eh]
      rw [Bool.true_and]
      by_cases c3 : a = (c - 1) / 2
      · rw [if_pos c3, if_pos (by rw [i_ltl (by omega)]; omega), if_pos (by rw [i_gd (by omega)]; exact not_false), i_tn (by omega), Int.toNat_natCast, decide_eq_true c3]
        rfl
      · rw [if_neg c3, decide_eq_false c3]
        rfl
    · have e : inM I J p = false := by unfold inM; rw [decide_eq_false c2, Bool.and_false]
      rw [e, if_neg c2]
      rfl
/-- how many are ahead of a probe -/
def ahd (I : Nat → Nat → Int32) (J : Nat → Nat → Int64) (h p : Nat) : Nat := (inM I J h && ltM J h p).toNat + (inM I J (h + 3) && ltM J (h + 3) p).toNat + (inM I J (h + 6) && ltM J (h + 6) p).toNat
theorem bt1 (b : Bool) : b.toNat ≤ 1 := by cases b <;> decide
theorem fv_step {σ : Shp} {R : Nat → Nat → Option Nat} {n : Nat} {I : Nat → Nat → Int32} {J : Nat → Nat → Int64} {h p c : Nat} (hh : h < 3) (hp : p < 9) (hc : 1 ≤ c ∧ c < 9) : gX12_find_l52 σ I R (n + 1) J (Int32.ofInt (h : Int)) (Int32.ofInt (c : Int)) (Int32.ofInt (p : Int)) = gX12_find_l52 σ I R n (if inM I J p && decide (ahd I J h p = (c - 1) / 2) then u2 J 173 h (J 165 p) else J) (Int32.ofInt (h : Int)) (Int32.ofInt (c : Int)) (Int32.ofInt ((p + 3 : Nat) : Int)) := by
  obtain ⟨F, hF⟩ : ∃ F, FUx = F := ⟨_, rfl⟩
  have hF' : F = 2000000 := by rw [← hF, FUx_eq]
  obtain ⟨f, rfl⟩ : ∃ f, F = f + 4 := ⟨F - 4, by omega⟩
  have b0 := bt1 (inM I J h && ltM J h p)
  have b1 := bt1 (inM I J (h + 3) && ltM J (h + 3) p)
  have b2 := bt1 (inM I J (h + 6) && ltM J (h + 6) p)
  rw [gX12_find_l52, if_neg (by rw [i_ler (by omega)]; omega), if_neg (by rw [i_pos (by omega)]; omega), hF]
  have z : (0 : Int32) = Int32.ofInt ((0 : Nat) : Int) := rfl
  rw [z, ah_step hp (by omega) (by decide), Nat.zero_add, ah_step hp (by omega) (by omega), show h + 3 + 3 = h + 6 by omega, ah_step hp (by omega) (by omega), show h + 6 + 3 = h + 9 by omega, ah_end hh hp (by omega) (by omega) hc]
  rfl
def vM (e0 e1 e2 x y z : Bool) (a b c : Int64) : Int64 :=
  if e2 && decide ((e0 && y).toNat + (e1 && z).toNat = (e0.toNat + e1.toNat + e2.toNat - 1) / 2) then c else if e1 && decide ((e0 && x).toNat + (e2 && !z).toNat = (e0.toNat + e1.toNat + e2.toNat - 1) / 2) then b else if e0 && decide ((e1 && !x).toNat + (e2 && !y).toNat = (e0.toNat + e1.toNat + e2.toNat - 1) / 2) then a else 9221120237041090560
theorem vMC {e0 e1 e2 x y z : Bool} {a b c : Int64} (h1 : x = true → z = true → y = true) (h2 : x = false → z = false → y = false) : vM e0 e1 e2 x y z a b c = vC e0 e1 e2 x y z a b c := by
  cases x <;> cases y <;> cases z <;> first | (exact absurd (h1 rfl rfl) (by decide)) | (exact absurd (h2 rfl rfl) (by decide)) | (cases e0 <;> cases e1 <;> cases e2 <;> rfl)
theorem lt_a {J : Nat → Nat → Int64} {q p : Nat} (h : q < p) : ltM J q p = decide (okk (J 165 q) ≤ okk (J 165 p)) := by
  unfold ltM
  by_cases c : okk (J 165 q) ≤ okk (J 165 p)
  · rw [decide_eq_true c]
    by_cases d : okk (J 165 q) < okk (J 165 p)
    · rw [decide_eq_true d]; rfl
    · rw [decide_eq_true (okk_inj (a := J 165 q) (b := J 165 p) (by omega)), decide_eq_true h, Bool.and_true, Bool.or_true]
  · rw [decide_eq_false c, decide_eq_false (by omega), decide_eq_false (fun q => c (by rw [q]; exact Int.le_refl _))]
    rfl
theorem lt_b {J : Nat → Nat → Int64} {q p : Nat} (h : p < q) : ltM J q p = !decide (okk (J 165 p) ≤ okk (J 165 q)) := by
  unfold ltM
  rw [decide_eq_false (show ¬ q < p by omega), Bool.and_false, Bool.or_false]
  by_cases c : okk (J 165 p) ≤ okk (J 165 q)
  · rw [decide_eq_true c, decide_eq_false (by omega)]; rfl
  · rw [decide_eq_false c, decide_eq_true (by omega)]; rfl
theorem lt_c {J : Nat → Nat → Int64} {p : Nat} : ltM J p p = false := by
  unfold ltM
  rw [decide_eq_false (show ¬ p < p by omega), Bool.and_false, Bool.or_false, decide_eq_false (by omega)]
/-- the model's value -/
theorem find_all {σ : Shp} {R : Nat → Nat → Option Nat} {I : Nat → Nat → Int32} {J : Nat → Nat → Int64} {h : Nat} (hh : h < 3) : ∃ J', gX12_find σ I J R (Int32.ofInt (h : Int)) = some J' ∧ J' 173 h = vC (inM I J h) (inM I J (h + 3)) (inM I J (h + 6)) (decide (okk (J 165 h) ≤ okk (J 165 (h + 3)))) (decide (okk (J 165 h) ≤ okk (J 165 (h + 6)))) (decide (okk (J 165 (h + 3)) ≤ okk (J 165 (h + 6)))) (J 165 h) (J 165 (h + 3)) (J 165 (h + 6)) ∧ (∀ a k, ¬ (a = 173 ∧ k = h) → J' a k = J a k) := by
  obtain ⟨F, hF⟩ : ∃ F, FUx = F := ⟨_, rfl⟩
  have hF' : F = 2000000 := by rw [← hF, FUx_eq]
  obtain ⟨f, rfl⟩ : ∃ f, F = f + 4 := ⟨F - 4, by omega⟩
  have b0 := bt1 (inM I J h)
  have b1 := bt1 (inM I J (h + 3))
  have b2 := bt1 (inM I J (h + 6))
  unfold gX12_find
  have z : (0 : Int32) = Int32.ofInt ((0 : Nat) : Int) := rfl
  rw [hF, z, fn_step (by omega) (by decide), Nat.zero_add, fn_step (by omega) (by omega), show h + 3 + 3 = h + 6 by omega, fn_step (by omega) (by omega), show h + 6 + 3 = h + 9 by omega]
  rw [gX12_find_l4, if_pos (by rw [i_ler (by omega)]; omega), if_pos (by rw [i_gd (by omega)]; exact not_false), i_tn (by omega), Int.toNat_natCast, hF]
  have tri1 : decide (okk (J 165 h) ≤ okk (J 165 (h + 3))) = true → decide (okk (J 165 (h + 3)) ≤ okk (J 165 (h + 6))) = true → decide (okk (J 165 h) ≤ okk (J 165 (h + 6))) = true := fun a b => decide_eq_true (Int.le_trans (of_decide_eq_true a) (of_decide_eq_true b))
  have tri2 : decide (okk (J 165 h) ≤ okk (J 165 (h + 3))) = false → decide (okk (J 165 (h + 3)) ≤ okk (J 165 (h + 6))) = false → decide (okk (J 165 h) ≤ okk (J 165 (h + 6))) = false := fun a b => decide_eq_false (by have := of_decide_eq_false a; have := of_decide_eq_false b; omega)
  rw [← vMC tri1 tri2]
  -- the memory with no number first
  generalize hJ2 : u2 J 173 h (9221120237041090560 : Int64) = J2
  have j1 : ∀ a, a ≠ 173 → J2 a = J a := fun a ha => by rw [← hJ2]; funext k; exact u2n (by omega)
  have j2 : J2 173 h = 9221120237041090560 := by rw [← hJ2]; exact u2_self _ _ _ _
  have j3 : ∀ a k, ¬ (a = 173 ∧ k = h) → J2 a k = J a k := fun a k ha => by rw [← hJ2]; exact u2n ha
  have im : ∀ (K : Nat → Nat → Int64), (∀ a, a ≠ 173 → K a = J a) → ∀ p, inM I K p = inM I J p := fun K hK p => by unfold inM rdM; rw [hK 165 (by decide)]
  have lm : ∀ (K : Nat → Nat → Int64), (∀ a, a ≠ 173 → K a = J a) → ∀ q p, ltM K q p = ltM J q p := fun K hK q p => by unfold ltM; rw [hK 165 (by decide)]
  have am : ∀ (K : Nat → Nat → Int64), (∀ a, a ≠ 173 → K a = J a) → ∀ p, ahd I K h p = ahd I J h p := fun K hK p => by unfold ahd; rw [im K hK, im K hK, im K hK, lm K hK, lm K hK, lm K hK]
  have a0 : ahd I J h h = (inM I J (h + 3) && !decide (okk (J 165 h) ≤ okk (J 165 (h + 3)))).toNat + (inM I J (h + 6) && !decide (okk (J 165 h) ≤ okk (J 165 (h + 6)))).toNat := by
    unfold ahd
    rw [lt_c, lt_b (by omega), lt_b (by omega), Bool.and_false]
    simp
  have a1 : ahd I J h (h + 3) = (inM I J h && decide (okk (J 165 h) ≤ okk (J 165 (h + 3)))).toNat + (inM I J (h + 6) && !decide (okk (J 165 (h + 3)) ≤ okk (J 165 (h + 6)))).toNat := by
    unfold ahd
    rw [lt_c, lt_a (by omega), lt_b (by omega), Bool.and_false]
    simp
  have a2 : ahd I J h (h + 6) = (inM I J h && decide (okk (J 165 h) ≤ okk (J 165 (h + 6)))).toNat + (inM I J (h + 3) && decide (okk (J 165 (h + 3)) ≤ okk (J 165 (h + 6)))).toNat := by
    unfold ahd
    rw [lt_c, lt_a (by omega), lt_a (by omega), Bool.and_false]
    simp
  by_cases c0 : (inM I J h).toNat + (inM I J (h + 3)).toNat + (inM I J (h + 6)).toNat = 0
  · rw [c0, gX12_find_l52, if_neg (by rw [i_ler (by omega)]; omega), if_pos (by decide)]
    refine ⟨J2, rfl, ?_, j3⟩
    rw [j2]
    have n0 : inM I J h = false := by cases q : inM I J h with | false => rfl | true => rw [q] at c0; simp at c0
    have n1 : inM I J (h + 3) = false := by cases q : inM I J (h + 3) with | false => rfl | true => rw [q] at c0; simp at c0
    have n2 : inM I J (h + 6) = false := by cases q : inM I J (h + 6) with | false => rfl | true => rw [q] at c0; simp at c0
    rw [n0, n1, n2]
    rfl
  · generalize hn : (inM I J h).toNat + (inM I J (h + 3)).toNat + (inM I J (h + 6)).toNat = n at *
    have step : ∀ (K : Nat → Nat → Int64) (p : Nat) (g : Nat), (∀ a, a ≠ 173 → K a = J a) → p < 9 → gX12_find_l52 σ I R (g + 1) K (Int32.ofInt (h : Int)) (Int32.ofInt (n : Int)) (Int32.ofInt (p : Int)) = gX12_find_l52 σ I R g (if inM I J p && decide (ahd I J h p = (n - 1) / 2) then u2 K 173 h (J 165 p) else K) (Int32.ofInt (h : Int)) (Int32.ofInt (n : Int)) (Int32.ofInt ((p + 3 : Nat) : Int)) := fun K p g hK hp => by
      rw [fv_step hh hp (by omega), im K hK, am K hK, hK 165 (by decide)]
    have keep : ∀ (K : Nat → Nat → Int64) (b : Bool) (v : Int64), (∀ a, a ≠ 173 → K a = J a) → ∀ a, a ≠ 173 → (if b then u2 K 173 h v else K) a = J a := fun K b v hK a ha => by
      cases b
      · exact hK a ha
      · rw [if_pos rfl, ← hK a ha]; funext k; exact u2n (by omega)
    have keep2 : ∀ (K : Nat → Nat → Int64) (b : Bool) (v : Int64), (∀ a k, ¬ (a = 173 ∧ k = h) → K a k = J a k) → ∀ a k, ¬ (a = 173 ∧ k = h) → (if b then u2 K 173 h v else K) a k = J a k := fun K b v hK a k ha => by
      cases b
      · exact hK a k ha
      · rw [if_pos rfl, u2n ha]; exact hK a k ha
    have val : ∀ (K : Nat → Nat → Int64) (b : Bool) (v : Int64), (if b then u2 K 173 h v else K) 173 h = if b then v else K 173 h := fun K b v => by
      cases b
      · rfl
      · rw [if_pos rfl, if_pos rfl, u2_self]
    rw [step J2 h (f + 3) j1 (by omega)]
    rw [step _ (h + 3) (f + 2) (keep J2 _ _ j1) (by omega), show h + 3 + 3 = h + 6 by omega]
    rw [step _ (h + 6) (f + 1) (keep _ _ _ (keep J2 _ _ j1)) (by omega), show h + 6 + 3 = h + 9 by omega]
    rw [gX12_find_l52, if_pos (by rw [i_ler (by omega)]; omega)]
    refine ⟨_, rfl, ?_, keep2 _ _ _ (keep2 _ _ _ (keep2 _ _ _ j3))⟩
    rw [val, val, val, j2, a0, a1, a2]
    unfold vM
    rw [hn]
