/-! ===== minute: the class's vote ===== -/
theorem mr_step {σ : Shp} {R : Nat → Nat → Option Nat} {n : Nat} {J : Nat → Nat → Int64} {p c : Nat} (hp : p < 9) (hc : c < 9) : gX4_manyReading_l4 σ J R (n + 1) (Int32.ofInt (c : Int)) (Int32.ofInt (p : Int)) = gX4_manyReading_l4 σ J R n (Int32.ofInt ((c + (decide (fX11_isNumber (J 52 p) ≠ 0)).toNat : Nat) : Int)) (Int32.ofInt ((p + 3 : Nat) : Int)) := by
  have e3 : ((p : Int) + 3) = ((p + 3 : Nat) : Int) := by omega
  have e1 : ((c : Int) + 1) = ((c + 1 : Nat) : Int) := by omega
  rw [gX4_manyReading_l4]
  by_cases d : fX11_isNumber (J 52 p) = 0
  · rw [decide_eq_false (fun q => q d)]
    show _ = gX4_manyReading_l4 σ J R n (Int32.ofInt (c : Int)) _
    simp (disch := omega) only [fail_r, no_r, nob_r, fI_o, Nat.reduceLeDiff, ↓reduceIte, not_true_eq_false, not_false_eq_true, false_imp_iff, true_imp_iff, and_true, true_and, and_self, implies_true, false_or, or_false, true_or, or_true, d10, d01, d00, d11, g_tn, Tot_some, Tot_none, Tot_ite, Tot_bind, ob_some, onl_n, onl_s, nat32, Int.toNat_natCast, i_add, i_sub, i_mul, i_addl, i_addr, i_subl, i_subr, i_mulr, i_addn, i_gd, i_tn, i_w, i_ltlT, i_ltlF, i_ltrT, i_ltrF, i_lelT, i_lelF, i_lerT, i_lerF, i_eqlT, i_eqlF, i_eqrT, i_eqrF, i_ltnT, i_ltnF, i_lenT, i_lenF, i_eqnT, i_eqnF, i_ltT, i_ltF, i_leT, i_leF, i_eqT, i_eqF, j_ltlT, j_ltlF, j_ltrT, j_ltrF, j_lelT, j_lelF, j_lerT, j_lerF, j_eqlT, j_eqlF, j_ltT, j_ltF, j_leT, j_leF, j_eqT, j_eqF, i_mull, l_tn, l_lt0, l_ne0, nleF, tX11_isStockT, tX11_isStockF, tX11_isBinT, tX11_isBinF, tX11_isPlanT, tX11_isPlanF, tX11_isValveT, tX11_isValveF, tX11_isLaneT, tX11_isLaneF, tX11_isGridFormT, tX11_isGridFormF, tX11_isFormT, tX11_isFormF, tX11_isTrayFormT, tX11_isTrayFormF, tX11_isPlacesFormT, tX11_isPlacesFormF, tX11_isTableT, tX11_isTableF, tX11_isProbeT, tX11_isProbeF, tX11_isHouseT, tX11_isHouseF, tX11_isPestT, tX11_isPestF, tX11_isStageT, tX11_isStageF, tX11_isPartT, tX11_isPartF, tX12_isBinT, tX12_isBinF, tX12_isTableT, tX12_isTableF, tX12_inT, tX12_inF, tX12_innT, tX12_innF, tX12_ingT, tX12_ingF, tX12_isStageT, tX12_isStageF, tX1_isByteT, tX1_isByteF, d, e3]
  · rw [decide_eq_true d]
    show _ = gX4_manyReading_l4 σ J R n (Int32.ofInt ((c + 1 : Nat) : Int)) _
    have d' := eq_false d
    simp (disch := omega) only [fail_r, no_r, nob_r, fI_o, Nat.reduceLeDiff, ↓reduceIte, not_true_eq_false, not_false_eq_true, false_imp_iff, true_imp_iff, and_true, true_and, and_self, implies_true, false_or, or_false, true_or, or_true, d10, d01, d00, d11, g_tn, Tot_some, Tot_none, Tot_ite, Tot_bind, ob_some, onl_n, onl_s, nat32, Int.toNat_natCast, i_add, i_sub, i_mul, i_addl, i_addr, i_subl, i_subr, i_mulr, i_addn, i_gd, i_tn, i_w, i_ltlT, i_ltlF, i_ltrT, i_ltrF, i_lelT, i_lelF, i_lerT, i_lerF, i_eqlT, i_eqlF, i_eqrT, i_eqrF, i_ltnT, i_ltnF, i_lenT, i_lenF, i_eqnT, i_eqnF, i_ltT, i_ltF, i_leT, i_leF, i_eqT, i_eqF, j_ltlT, j_ltlF, j_ltrT, j_ltrF, j_lelT, j_lelF, j_lerT, j_lerF, j_eqlT, j_eqlF, j_ltT, j_ltF, j_leT, j_leF, j_eqT, j_eqF, i_mull, l_tn, l_lt0, l_ne0, nleF, tX11_isStockT, tX11_isStockF, tX11_isBinT, tX11_isBinF, tX11_isPlanT, tX11_isPlanF, tX11_isValveT, tX11_isValveF, tX11_isLaneT, tX11_isLaneF, tX11_isGridFormT, tX11_isGridFormF, tX11_isFormT, tX11_isFormF, tX11_isTrayFormT, tX11_isTrayFormF, tX11_isPlacesFormT, tX11_isPlacesFormF, tX11_isTableT, tX11_isTableF, tX11_isProbeT, tX11_isProbeF, tX11_isHouseT, tX11_isHouseF, tX11_isPestT, tX11_isPestF, tX11_isStageT, tX11_isStageF, tX11_isPartT, tX11_isPartF, tX12_isBinT, tX12_isBinF, tX12_isTableT, tX12_isTableF, tX12_inT, tX12_inF, tX12_innT, tX12_innF, tX12_ingT, tX12_ingF, tX12_isStageT, tX12_isStageF, tX1_isByteT, tX1_isByteF, d', e3, e1]
/-- how many of a house read -/
def nrd (J : Nat → Nat → Int64) (h : Nat) : Nat := (decide (fX11_isNumber (J 52 h) ≠ 0)).toNat + (decide (fX11_isNumber (J 52 (h + 3)) ≠ 0)).toNat + (decide (fX11_isNumber (J 52 (h + 6)) ≠ 0)).toNat
theorem mr_all {σ : Shp} {R : Nat → Nat → Option Nat} {J : Nat → Nat → Int64} {h : Nat} (hh : h < 3) : gX4_manyReading σ J R (Int32.ofInt (h : Int)) = some (Int32.ofInt (nrd J h : Int)) := by
  obtain ⟨F, hF⟩ : ∃ F, FUx = F := ⟨_, rfl⟩
  have hF' : F = 2000000 := by rw [← hF, FUx_eq]
  obtain ⟨f, rfl⟩ : ∃ f, F = f + 4 := ⟨F - 4, by omega⟩
  have b0 := bt1 (decide (fX11_isNumber (J 52 h) ≠ 0))
  have b1 := bt1 (decide (fX11_isNumber (J 52 (h + 3)) ≠ 0))
  have z : (0 : Int32) = Int32.ofInt ((0 : Nat) : Int) := rfl
  unfold gX4_manyReading
  rw [hF, z, mr_step (by omega) (by decide), Nat.zero_add, mr_step (by omega) (by omega), show h + 3 + 3 = h + 6 by omega, mr_step (by omega) (by omega), show h + 6 + 3 = h + 9 by omega, gX4_manyReading_l4, if_pos (by rw [i_ler (by omega)]; omega)]
  rfl
theorem vr_step {σ : Shp} {R : Nat → Nat → Option Nat} {n : Nat} {J : Nat → Nat → Int64} {D : Nat → Nat → UInt64} {h p : Nat} (hh : h < 3) (hp : p < 9) : gX4_valueReal_l2 σ J D R (n + 1) (Int32.ofInt (h : Int)) (Int32.ofInt (p : Int)) = if J 52 p = J 55 h then some (D 53 p) else gX4_valueReal_l2 σ J D R n (Int32.ofInt (h : Int)) (Int32.ofInt ((p + 3 : Nat) : Int)) := by
  have e3 : ((p : Int) + 3) = ((p + 3 : Nat) : Int) := by omega
  rw [gX4_valueReal_l2]
  by_cases c : J 52 p = J 55 h
  · rw [if_pos c]
    simp (disch := omega) only [fail_r, no_r, nob_r, fI_o, Nat.reduceLeDiff, ↓reduceIte, not_true_eq_false, not_false_eq_true, false_imp_iff, true_imp_iff, and_true, true_and, and_self, implies_true, false_or, or_false, true_or, or_true, d10, d01, d00, d11, g_tn, Tot_some, Tot_none, Tot_ite, Tot_bind, ob_some, onl_n, onl_s, nat32, Int.toNat_natCast, i_add, i_sub, i_mul, i_addl, i_addr, i_subl, i_subr, i_mulr, i_addn, i_gd, i_tn, i_w, i_ltlT, i_ltlF, i_ltrT, i_ltrF, i_lelT, i_lelF, i_lerT, i_lerF, i_eqlT, i_eqlF, i_eqrT, i_eqrF, i_ltnT, i_ltnF, i_lenT, i_lenF, i_eqnT, i_eqnF, i_ltT, i_ltF, i_leT, i_leF, i_eqT, i_eqF, j_ltlT, j_ltlF, j_ltrT, j_ltrF, j_lelT, j_lelF, j_lerT, j_lerF, j_eqlT, j_eqlF, j_ltT, j_ltF, j_leT, j_leF, j_eqT, j_eqF, i_mull, l_tn, l_lt0, l_ne0, nleF, tX11_isStockT, tX11_isStockF, tX11_isBinT, tX11_isBinF, tX11_isPlanT, tX11_isPlanF, tX11_isValveT, tX11_isValveF, tX11_isLaneT, tX11_isLaneF, tX11_isGridFormT, tX11_isGridFormF, tX11_isFormT, tX11_isFormF, tX11_isTrayFormT, tX11_isTrayFormF, tX11_isPlacesFormT, tX11_isPlacesFormF, tX11_isTableT, tX11_isTableF, tX11_isProbeT, tX11_isProbeF, tX11_isHouseT, tX11_isHouseF, tX11_isPestT, tX11_isPestF, tX11_isStageT, tX11_isStageF, tX11_isPartT, tX11_isPartF, tX12_isBinT, tX12_isBinF, tX12_isTableT, tX12_isTableF, tX12_inT, tX12_inF, tX12_innT, tX12_innF, tX12_ingT, tX12_ingF, tX12_isStageT, tX12_isStageF, tX1_isByteT, tX1_isByteF, c]
  · rw [if_neg c]
    have c' := eq_false c
    simp (disch := omega) only [fail_r, no_r, nob_r, fI_o, Nat.reduceLeDiff, ↓reduceIte, not_true_eq_false, not_false_eq_true, false_imp_iff, true_imp_iff, and_true, true_and, and_self, implies_true, false_or, or_false, true_or, or_true, d10, d01, d00, d11, g_tn, Tot_some, Tot_none, Tot_ite, Tot_bind, ob_some, onl_n, onl_s, nat32, Int.toNat_natCast, i_add, i_sub, i_mul, i_addl, i_addr, i_subl, i_subr, i_mulr, i_addn, i_gd, i_tn, i_w, i_ltlT, i_ltlF, i_ltrT, i_ltrF, i_lelT, i_lelF, i_lerT, i_lerF, i_eqlT, i_eqlF, i_eqrT, i_eqrF, i_ltnT, i_ltnF, i_lenT, i_lenF, i_eqnT, i_eqnF, i_ltT, i_ltF, i_leT, i_leF, i_eqT, i_eqF, j_ltlT, j_ltlF, j_ltrT, j_ltrF, j_lelT, j_lelF, j_lerT, j_lerF, j_eqlT, j_eqlF, j_ltT, j_ltF, j_leT, j_leF, j_eqT, j_eqF, i_mull, l_tn, l_lt0, l_ne0, nleF, tX11_isStockT, tX11_isStockF, tX11_isBinT, tX11_isBinF, tX11_isPlanT, tX11_isPlanF, tX11_isValveT, tX11_isValveF, tX11_isLaneT, tX11_isLaneF, tX11_isGridFormT, tX11_isGridFormF, tX11_isFormT, tX11_isFormF, tX11_isTrayFormT, tX11_isTrayFormF, tX11_isPlacesFormT, tX11_isPlacesFormF, tX11_isTableT, tX11_isTableF, tX11_isProbeT, tX11_isProbeF, tX11_isHouseT, tX11_isHouseF, tX11_isPestT, tX11_isPestF, tX11_isStageT, tX11_isStageF, tX11_isPartT, tX11_isPartF, tX12_isBinT, tX12_isBinF, tX12_isTableT, tX12_isTableF, tX12_inT, tX12_inF, tX12_innT, tX12_innF, tX12_ingT, tX12_ingF, tX12_isStageT, tX12_isStageF, tX1_isByteT, tX1_isByteF, c', e3]
theorem vr_all {σ : Shp} {R : Nat → Nat → Option Nat} {J : Nat → Nat → Int64} {D : Nat → Nat → UInt64} {h : Nat} (hh : h < 3) (hD : ∀ p, p < 9 → isNum (J 52 p) → D 53 p = (J 52 p).toUInt64) : ∃ m, gX4_valueReal σ J D R (Int32.ofInt (h : Int)) = some m ∧ (isNum (J 55 h) → (J 52 h = J 55 h ∨ J 52 (h + 3) = J 55 h ∨ J 52 (h + 6) = J 55 h) → m = (J 55 h).toUInt64) := by
  obtain ⟨F, hF⟩ : ∃ F, FUx = F := ⟨_, rfl⟩
  have hF' : F = 2000000 := by rw [← hF, FUx_eq]
  obtain ⟨f, rfl⟩ : ∃ f, F = f + 4 := ⟨F - 4, by omega⟩
  have ee : gX4_valueReal_l2 σ J D R (f + 1) (Int32.ofInt (h : Int)) (Int32.ofInt ((h + 9 : Nat) : Int)) = some FP.dconst0 := by
    rw [gX4_valueReal_l2, if_pos (by rw [i_ler (by omega)]; omega)]
  unfold gX4_valueReal
  rw [hF, vr_step hh (by omega), vr_step hh (by omega), show h + 3 + 3 = h + 6 by omega, vr_step hh (by omega), show h + 6 + 3 = h + 9 by omega, ee]
  by_cases c0 : J 52 h = J 55 h
  · rw [if_pos c0]
    exact ⟨_, rfl, fun n _ => by rw [hD h (by omega) (by rw [c0]; exact n), c0]⟩
  · rw [if_neg c0]
    by_cases c1 : J 52 (h + 3) = J 55 h
    · rw [if_pos c1]
      exact ⟨_, rfl, fun n _ => by rw [hD (h + 3) (by omega) (by rw [c1]; exact n), c1]⟩
    · rw [if_neg c1]
      by_cases c2 : J 52 (h + 6) = J 55 h
      · rw [if_pos c2]
        exact ⟨_, rfl, fun n _ => by rw [hD (h + 6) (by omega) (by rw [c2]; exact n), c2]⟩
      · rw [if_neg c2]
        exact ⟨_, rfl, fun _ w => by rcases w with w | w | w <;> contradiction⟩
/-- the value of a house, the class's way -/
def valC3 (I : Nat → Nat → Int32) (J : Nat → Nat → Int64) (h : Nat) : Int64 := vC (inr I J h) (inr I J (h + 3)) (inr I J (h + 6)) (decide (okk (J 52 h) ≤ okk (J 52 (h + 3)))) (decide (okk (J 52 h) ≤ okk (J 52 (h + 6)))) (decide (okk (J 52 (h + 3)) ≤ okk (J 52 (h + 6)))) (J 52 h) (J 52 (h + 3)) (J 52 (h + 6))
theorem vC_mem {e0 e1 e2 x y z : Bool} {a b c : Int64} : vC e0 e1 e2 x y z a b c = 9221120237041090560 ∨ a = vC e0 e1 e2 x y z a b c ∨ b = vC e0 e1 e2 x y z a b c ∨ c = vC e0 e1 e2 x y z a b c := by
  cases e0 <;> cases e1 <;> cases e2 <;> cases x <;> cases y <;> cases z <;> first | exact Or.inl rfl | exact Or.inr (Or.inl rfl) | exact Or.inr (Or.inr (Or.inl rfl)) | exact Or.inr (Or.inr (Or.inr rfl))
/-- is a house judged -/
def jgd (J : Nat → Nat → Int64) (h : Nat) (v : Int64) : Bool := decide (fX11_isNumber v ≠ 0) && decide (nrd J h = 3)
/-- what the class makes of a probe -/
def resC (I : Nat → Nat → Int32) (J : Nat → Nat → Int64) (D : Nat → Nat → UInt64) (h p : Nat) (o : Int32) : Int32 × Int32 × Int32 × Int32 := jd (decide (fX11_isNumber (J 52 p) ≠ 0 ∧ ¬ fsmH I J p < 8 ∧ or3 (fmvH I J h) (fmvH I J (h + 3)) (fmvH I J (h + 6)) ≠ 0)) o (I (43 + p) 1) (fN (jgd J h (valC3 I J h) && decide (fX11_isNumber (J 52 p) ≠ 0)) (frC J D p (valC3 I J h)) (I (43 + p) 2)) (nN (jgd J h (valC3 I J h) && decide (fX11_isNumber (J 52 p) ≠ 0)) (frC J D p (valC3 I J h)) (I (43 + p) 3))
theorem vote_C {σ : Shp} {R : Nat → Nat → Option Nat} {I : Nat → Nat → Int32} {J : Nat → Nat → Int64} {D : Nat → Nat → UInt64} {h : Nat} {o : Nat → Int32} (hS : Skel σ R) (hh : h < 3) (hD : ∀ p, p < 9 → isNum (J 52 p) → D 53 p = (J 52 p).toUInt64) (hP : FP.Core.val64 (D 26 7) ≠ .nan) (hP2 : 0 ≤ FP.Core.dkey (D 26 7)) (ho : ∀ p, p < 9 → (o p = 0 ∨ o p = 1) ∧ I (43 + p) 0 = 1 - o p) : ∃ I' J', gX4_vote σ I J D R (Int32.ofInt (h : Int)) = some (I', J') ∧ (∀ p, (p = h ∨ p = h + 3 ∨ p = h + 6) → PC I' p (resC I J D h p (o p)) ∧ I' (43 + p) 4 = fsmH I J p ∧ J' 54 p = J 52 p) ∧ J' 55 h = valC3 I J h ∧ (∀ a k, ¬ ((a = 43 + h ∨ a = 43 + (h + 3) ∨ a = 43 + (h + 6)) ∧ k < 5) → I' a k = I a k) ∧ (∀ a k, ¬ (a = 54 ∧ (k = h ∨ k = h + 3 ∨ k = h + 6)) → ¬ a = 56 → ¬ (a = 55 ∧ k = h) → J' a k = J a k) := by
  obtain ⟨F, hF⟩ : ∃ F, FUx = F := ⟨_, rfl⟩
  have hF' : F = 2000000 := by rw [← hF, FUx_eq]
  obtain ⟨f, rfl⟩ : ∃ f, F = f + 4 := ⟨F - 4, by omega⟩
  unfold resC
  -- minutes alike
  have cs := cs_all (σ := σ) (R := R) (I := I) (J := J) hh
  generalize hI3 : u2 (u2 (u2 I (43 + h) 4 (fsmH I J h)) (43 + (h + 3)) 4 (fsmH I J (h + 3))) (43 + (h + 6)) 4 (fsmH I J (h + 6)) = I3 at cs
  generalize hJ3 : u2 (u2 (u2 J 54 h (J 52 h)) 54 (h + 3) (J 52 (h + 3))) 54 (h + 6) (J 52 (h + 6)) = J3 at cs
  generalize hA : or3 (fmvH I J h) (fmvH I J (h + 3)) (fmvH I J (h + 6)) = any at cs ⊢
  have i3 : ∀ a k, ¬ ((a = 43 + h ∨ a = 43 + (h + 3) ∨ a = 43 + (h + 6)) ∧ k = 4) → I3 a k = I a k := fun a k q => by rw [← hI3]; simp (disch := omega) only [u2n, u2s]
  have i4 : ∀ p, (p = h ∨ p = h + 3 ∨ p = h + 6) → I3 (43 + p) 4 = fsmH I J p := fun p q => by
    rw [← hI3]
    rcases q with rfl | rfl | rfl <;> simp (disch := omega) only [u2n, u2s]
  have j3 : ∀ a k, ¬ (a = 54 ∧ (k = h ∨ k = h + 3 ∨ k = h + 6)) → J3 a k = J a k := fun a k q => by rw [← hJ3]; simp (disch := omega) only [u2n, u2s]
  have j4 : ∀ p, (p = h ∨ p = h + 3 ∨ p = h + 6) → J3 54 p = J 52 p := fun p q => by
    rw [← hJ3]
    rcases q with rfl | rfl | rfl <;> simp (disch := omega) only [u2n, u2s]
  have j52 : J3 52 = J 52 := by funext k; exact j3 52 k (by omega)
  have ri : ∀ p, inr I3 J3 p = inr I J p := fun p => by unfold inr; rw [j52, i3 (43 + p) 0 (by omega)]
  -- the middle
  obtain ⟨J4, m1, m2⟩ := mid_all (σ := σ) (R := R) (I := I3) (J := J3) hS hh
  have mv : vC (inr I3 J3 h) (inr I3 J3 (h + 3)) (inr I3 J3 (h + 6)) (decide (okk (J3 52 h) ≤ okk (J3 52 (h + 3)))) (decide (okk (J3 52 h) ≤ okk (J3 52 (h + 6)))) (decide (okk (J3 52 (h + 3)) ≤ okk (J3 52 (h + 6)))) (J3 52 h) (J3 52 (h + 3)) (J3 52 (h + 6)) = valC3 I J h := by rw [ri, ri, ri, j52]; rfl
  rw [mv] at m1
  have vm := vC_mem (e0 := inr I J h) (e1 := inr I J (h + 3)) (e2 := inr I J (h + 6)) (x := decide (okk (J 52 h) ≤ okk (J 52 (h + 3)))) (y := decide (okk (J 52 h) ≤ okk (J 52 (h + 6)))) (z := decide (okk (J 52 (h + 3)) ≤ okk (J 52 (h + 6)))) (a := J 52 h) (b := J 52 (h + 3)) (c := J 52 (h + 6))
  have vm : valC3 I J h = 9221120237041090560 ∨ J 52 h = valC3 I J h ∨ J 52 (h + 3) = valC3 I J h ∨ J 52 (h + 6) = valC3 I J h := vm
  generalize hv : valC3 I J h = v at *
  generalize hJ5 : u2 J4 55 h v = J5
  have j5 : J5 52 = J 52 := by rw [← hJ5]; funext k; rw [u2n (by omega), m2 52 (by decide), j52]
  have j55 : J5 55 h = v := by rw [← hJ5, u2_self]
  have nr5 : nrd J5 h = nrd J h := by unfold nrd; rw [j5]
  have fr5 : ∀ p, frC J5 D p v = frC J D p v := fun p => by unfold frC; rw [j5]
  have hD5 : ∀ p, p < 9 → isNum (J5 52 p) → D 53 p = (J5 52 p).toUInt64 := fun p hp => by rw [j5]; exact hD p hp
  obtain ⟨m, vr1, vr2⟩ := vr_all (σ := σ) (R := R) (J := J5) (D := D) hh hD5
  rw [j5, j55] at vr2
  -- the turns over the probes
  have turns : ∀ k : Int32, (k = 0 ∨ k = 1 ∧ isNum v ∧ m = v.toUInt64) → ∃ I', gX4_vote_l54 σ D R (f + 4) I3 J5 (Int32.ofInt (h : Int)) any k m (Int32.ofInt (h : Int)) = some (I', J5) ∧ (∀ p, (p = h ∨ p = h + 3 ∨ p = h + 6) → PC I' p (jd (decide (fX11_isNumber (J 52 p) ≠ 0 ∧ ¬ fsmH I J p < 8 ∧ any ≠ 0)) (o p) (I (43 + p) 1) (fN (decide (k = 1) && decide (fX11_isNumber (J 52 p) ≠ 0)) (frC J D p v) (I (43 + p) 2)) (nN (decide (k = 1) && decide (fX11_isNumber (J 52 p) ≠ 0)) (frC J D p v) (I (43 + p) 3))) ∧ I' (43 + p) 4 = fsmH I J p) ∧ (∀ a j, ¬ ((a = 43 + h ∨ a = 43 + (h + 3) ∨ a = 43 + (h + 6)) ∧ j < 5) → I' a j = I a j) := by
    intro k hk
    have hk5 : k = 0 ∨ k = 1 ∧ isNum (J5 55 h) ∧ m = (J5 55 h).toUInt64 := by rw [j55]; exact hk
    have pc : ∀ (K : Nat → Nat → Int32) p, p < 9 → (∀ j, j < 4 → K (43 + p) j = I (43 + p) j) → PC K p (o p, I (43 + p) 1, I (43 + p) 2, I (43 + p) 3) := fun K p hp hK => ⟨(hK 0 (by decide)).trans (ho p hp).2, hK 1 (by decide), hK 2 (by decide), hK 3 (by decide)⟩
    obtain ⟨I4, s1, s2, s3⟩ := vt_step (N := f + 3) (any := any) (h := h) (p := h) hS hh (by omega) hk5 (hD5 h (by omega)) hP hP2 (ho h (by omega)).1 (pc I3 h (by omega) (fun j hj => i3 _ _ (by omega)))
    rw [j5, j55, fr5, i4 h (Or.inl rfl)] at s2
    obtain ⟨I5, t1, t2, t3⟩ := vt_step (N := f + 2) (any := any) (h := h) (p := h + 3) hS hh (by omega) hk5 (hD5 (h + 3) (by omega)) hP hP2 (ho (h + 3) (by omega)).1 (pc I4 (h + 3) (by omega) (fun j hj => by rw [s3 _ _ (by omega), i3 _ _ (by omega)]))
    rw [j5, j55, fr5, s3 _ _ (by omega), i4 (h + 3) (Or.inr (Or.inl rfl))] at t2
    obtain ⟨I6, w1, w2, w3⟩ := vt_step (N := f + 1) (any := any) (h := h) (p := h + 6) hS hh (by omega) hk5 (hD5 (h + 6) (by omega)) hP hP2 (ho (h + 6) (by omega)).1 (pc I5 (h + 6) (by omega) (fun j hj => by rw [t3 _ _ (by omega), s3 _ _ (by omega), i3 _ _ (by omega)]))
    rw [j5, j55, fr5, t3 _ _ (by omega), s3 _ _ (by omega), i4 (h + 6) (Or.inr (Or.inr rfl))] at w2
    refine ⟨I6, ?_, fun p hp => ?_, fun a j q => ?_⟩
    · rw [s1, t1, show h + 3 + 3 = h + 6 by omega, w1, show h + 6 + 3 = h + 9 by omega, gX4_vote_l54, if_pos (by rw [i_ler (by omega)]; omega)]
    · rcases hp with rfl | rfl | rfl
      · refine ⟨?_, ?_⟩
        · obtain ⟨a1, a2, a3, a4⟩ := s2
          exact ⟨by rw [w3 _ _ (by omega), t3 _ _ (by omega)]; exact a1, by rw [w3 _ _ (by omega), t3 _ _ (by omega)]; exact a2, by rw [w3 _ _ (by omega), t3 _ _ (by omega)]; exact a3, by rw [w3 _ _ (by omega), t3 _ _ (by omega)]; exact a4⟩
        · rw [w3 _ _ (by omega), t3 _ _ (by omega), s3 _ _ (by omega), i4 _ (Or.inl rfl)]
      · refine ⟨?_, ?_⟩
        · obtain ⟨a1, a2, a3, a4⟩ := t2
          exact ⟨by rw [w3 _ _ (by omega)]; exact a1, by rw [w3 _ _ (by omega)]; exact a2, by rw [w3 _ _ (by omega)]; exact a3, by rw [w3 _ _ (by omega)]; exact a4⟩
        · rw [w3 _ _ (by omega), t3 _ _ (by omega), s3 _ _ (by omega), i4 _ (Or.inr (Or.inl rfl))]
      · exact ⟨w2, by rw [w3 _ _ (by omega), t3 _ _ (by omega), s3 _ _ (by omega), i4 _ (Or.inr (Or.inr rfl))]⟩
    · rw [w3 _ _ (by omega), t3 _ _ (by omega), s3 _ _ (by omega), i3 _ _ (by omega)]
  have jx : ∀ a k, ¬ (a = 54 ∧ (k = h ∨ k = h + 3 ∨ k = h + 6)) → ¬ a = 56 → ¬ (a = 55 ∧ k = h) → J5 a k = J a k := fun a k q1 q2 q3 => by
    rw [← hJ5, u2n q3, m2 a q2, j3 a k q1]
  have j54 : ∀ p, (p = h ∨ p = h + 3 ∨ p = h + 6) → J5 54 p = J 52 p := fun p q => by
    rw [← hJ5, u2n (by omega), m2 54 (by decide), j4 p q]
  have done : ∀ k : Int32, (k = 0 ∨ k = 1 ∧ isNum v ∧ m = v.toUInt64) → decide (k = 1) = jgd J h v → gX4_vote σ I J D R (Int32.ofInt (h : Int)) = gX4_vote_l54 σ D R (f + 4) I3 J5 (Int32.ofInt (h : Int)) any k m (Int32.ofInt (h : Int)) → ∃ I' J', gX4_vote σ I J D R (Int32.ofInt (h : Int)) = some (I', J') ∧ (∀ p, (p = h ∨ p = h + 3 ∨ p = h + 6) → PC I' p (jd (decide (fX11_isNumber (J 52 p) ≠ 0 ∧ ¬ fsmH I J p < 8 ∧ any ≠ 0)) (o p) (I (43 + p) 1) (fN (jgd J h v && decide (fX11_isNumber (J 52 p) ≠ 0)) (frC J D p v) (I (43 + p) 2)) (nN (jgd J h v && decide (fX11_isNumber (J 52 p) ≠ 0)) (frC J D p v) (I (43 + p) 3))) ∧ I' (43 + p) 4 = fsmH I J p ∧ J' 54 p = J 52 p) ∧ J' 55 h = v ∧ (∀ a k, ¬ ((a = 43 + h ∨ a = 43 + (h + 3) ∨ a = 43 + (h + 6)) ∧ k < 5) → I' a k = I a k) ∧ (∀ a k, ¬ (a = 54 ∧ (k = h ∨ k = h + 3 ∨ k = h + 6)) → ¬ a = 56 → ¬ (a = 55 ∧ k = h) → J' a k = J a k) := by
    intro k hk hj e
    obtain ⟨I', t1, t2, t3⟩ := turns k hk
    refine ⟨I', J5, e.trans t1, fun p hp => ?_, j55, t3, jx⟩
    have := t2 p hp
    rw [hj] at this
    exact ⟨this.1, this.2, j54 p hp⟩
  have v0 : gX4_vote σ I J D R (Int32.ofInt (h : Int)) = if fX11_isNumber v = 0 then gX4_vote_l54 σ D R (f + 4) I3 J5 (Int32.ofInt (h : Int)) any 0 m (Int32.ofInt (h : Int)) else if Int32.ofInt (nrd J h : Int) < 3 then gX4_vote_l54 σ D R (f + 4) I3 J5 (Int32.ofInt (h : Int)) any 0 m (Int32.ofInt (h : Int)) else gX4_vote_l54 σ D R (f + 4) I3 J5 (Int32.ofInt (h : Int)) any 1 m (Int32.ofInt (h : Int)) := by
    unfold gX4_vote
    rw [cs, ob_some]
    dsimp only
    rw [m1, ob_some]
    dsimp only
    rw [if_pos (by rw [i_gd (by omega)]; exact not_false), i_tn (by omega), Int.toNat_natCast, hJ5, j55, mr_all hh, nr5, ob_some, vr1, ob_some, hF]
    rfl
  have b0 := bt1 (decide (fX11_isNumber (J 52 h) ≠ 0))
  have b1 := bt1 (decide (fX11_isNumber (J 52 (h + 3)) ≠ 0))
  have b2 := bt1 (decide (fX11_isNumber (J 52 (h + 6)) ≠ 0))
  have nb : nrd J h ≤ 3 := by unfold nrd; omega
  by_cases c1 : fX11_isNumber v = 0
  · refine done 0 (Or.inl rfl) ?_ (v0.trans (if_pos c1))
    unfold jgd
    rw [decide_eq_false (show ¬ fX11_isNumber v ≠ 0 from fun q => q c1)]
    rfl
  · by_cases c2 : nrd J h = 3
    · have nv : isNum v := by
        by_cases q : isNum v
        · exact q
        · exact absurd (isn_F q) c1
      refine done 1 (Or.inr ⟨rfl, nv, vr2 nv ?_⟩) ?_ (v0.trans ((if_neg c1).trans (if_neg (by rw [i_ltl (by omega)]; omega))))
      · rcases vm with q | q
        · rw [q] at nv; exact absurd nv not_num
        · exact q
      · unfold jgd
        rw [decide_eq_true c1, decide_eq_true c2]
        rfl
    · refine done 0 (Or.inl rfl) ?_ (v0.trans ((if_neg c1).trans (if_pos (by rw [i_ltl (by omega)]; omega))))
      unfold jgd
      rw [decide_eq_false c2, Bool.and_false]
      rfl
