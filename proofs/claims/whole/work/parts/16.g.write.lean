/-! ===== pages: write, the call ===== -/
theorem cpC {σ : Shp} {I : Nat → Nat → Int32} {J : Nat → Nat → Int64} {R : Nat → Nat → Option Nat} {e n : Nat} {F : Nat} (hF : F = 2000000) (he : e < 20) (hn : n ≤ 64) (h4 : I 108 4 = Int32.ofInt (e : Int)) : ∃ I1, gX1_written_l76 σ J R F I (Int32.ofInt (n : Int)) 0 = gX1_written_b124 σ J R (if n = 0 then I1 else u2 I1 108 4 (Int32.ofInt ((e + 1 : Nat) : Int))) (Int32.ofInt (n : Int)) ∧ Ag [(109, 110)] I I1 ∧ ∀ k, I1 109 k = if 64 * e ≤ k ∧ k < 64 * e + n then I 110 (k - 64 * e) else I 109 k := by
  have lp : ∀ (u j f : Nat) (I1 : Nat → Nat → Int32), u < f → j + u = n → Ag [(109, 110)] I I1 → (∀ k, I1 109 k = if 64 * e ≤ k ∧ k < 64 * e + j then I 110 (k - 64 * e) else I 109 k) → ∃ I2, gX1_written_l76 σ J R f I1 (Int32.ofInt (n : Int)) (Int32.ofInt j) = gX1_written_b124 σ J R (if n = 0 then I2 else u2 I2 108 4 (Int32.ofInt ((e + 1 : Nat) : Int))) (Int32.ofInt (n : Int)) ∧ Ag [(109, 110)] I I2 ∧ ∀ k, I2 109 k = if 64 * e ≤ k ∧ k < 64 * e + n then I 110 (k - 64 * e) else I 109 k := by
    intro u
    induction u with
    | zero =>
      intro j f I1 hf hj ag hk
      obtain ⟨f, rfl⟩ : ∃ m, f = m + 1 := ⟨f - 1, by omega⟩
      obtain rfl : j = n := by omega
      refine ⟨I1, ?_, ag, hk⟩
      rw [gX1_written_l76, if_pos (by rw [i_le (by omega) (by omega)]; omega)]
      by_cases c : j = 0
      · rw [if_pos (by rw [i_lel (by omega)]; omega), if_pos c]
      · rw [if_neg (by rw [i_lel (by omega)]; omega), if_neg c]
        dsimp only
        rw [ag 108 4 rfl, h4, iadd1]
    | succ u ih =>
      intro j f I1 hf hj ag hk
      obtain ⟨f, rfl⟩ : ∃ m, f = m + 1 := ⟨f - 1, by omega⟩
      rw [gX1_written_l76, if_neg (by rw [i_le (by omega) (by omega)]; omega), if_pos (by rw [i_gd (by omega)]; exact id), ag 108 4 rfl, h4, i_mull, i_add, show (e : Int) * 64 + (j : Int) = ((64 * e + j : Nat) : Int) by omega, if_pos (by rw [i_gd (by omega)]; exact id), t41 (t := 64 * e + j) (by omega), t41 (t := j) (by omega)]
      dsimp only
      rw [iadd1]
      refine ih (j + 1) f _ (by omega) (by omega) (ag.st rfl) fun k => ?_
      by_cases c : k = 64 * e + j
      · rw [u2s ⟨rfl, c⟩, if_pos (by omega), ag 110 j rfl, show k - 64 * e = j by omega]
      · rw [u2n (by omega), hk k]
        by_cases d : 64 * e ≤ k ∧ k < 64 * e + j
        · rw [if_pos d, if_pos (by omega)]
        · rw [if_neg d, if_neg (by omega)]
  exact lp n 0 F I (by omega) (by omega) Ag.rf fun k => by rw [if_neg (by omega)]
theorem cpM {σ : Shp} {I : Nat → Nat → Int32} {J : Nat → Nat → Int64} {R : Nat → Nat → Option Nat} (hS : Skel σ R) {e n : Nat} {p : Int} {F : Nat} (hF : F = 2000000) (he : e < 20) (hn : n ≤ 64) (hp : p = -1 ∨ (n : Int) ≤ p) (hp2 : p ≤ 200) (h2 : I 114 132 = Int32.ofInt p) : ∃ I1 f, gX12_write_l219 σ J R F I (Int32.ofInt ((64 * e : Nat) : Int)) 0 = gX12_write_l219 σ J R (f + 1) I1 (Int32.ofInt ((64 * e : Nat) : Int)) (Int32.ofInt (n : Int)) ∧ Ag [(200, 201), (1000132, 1000133)] I I1 ∧ (I1 114 132 = Int32.ofInt (if p = -1 then -1 else p - n)) ∧ ∀ k, I1 200 k = if 64 * e ≤ k ∧ k < 64 * e + n then I 201 (k - 64 * e) else I 200 k := by
  have k114 : kdx σ 114 = 13 := hS.k 114 13 (by decide) rfl
  have lp : ∀ (u j f : Nat) (I1 : Nat → Nat → Int32), u < f → j + u = n → Ag [(200, 201), (1000132, 1000133)] I I1 → (I1 114 132 = Int32.ofInt (if p = -1 then -1 else p - j)) → (∀ k, I1 200 k = if 64 * e ≤ k ∧ k < 64 * e + j then I 201 (k - 64 * e) else I 200 k) → ∃ I2 f', gX12_write_l219 σ J R f I1 (Int32.ofInt ((64 * e : Nat) : Int)) (Int32.ofInt j) = gX12_write_l219 σ J R (f' + 1) I2 (Int32.ofInt ((64 * e : Nat) : Int)) (Int32.ofInt (n : Int)) ∧ Ag [(200, 201), (1000132, 1000133)] I I2 ∧ (I2 114 132 = Int32.ofInt (if p = -1 then -1 else p - n)) ∧ ∀ k, I2 200 k = if 64 * e ≤ k ∧ k < 64 * e + n then I 201 (k - 64 * e) else I 200 k := by
    intro u
    induction u with
    | zero =>
      intro j f I1 hf hj ag hw hk
      obtain ⟨f, rfl⟩ : ∃ m, f = m + 1 := ⟨f - 1, by omega⟩
      obtain rfl : j = n := by omega
      exact ⟨I1, f, rfl, ag, hw, hk⟩
    | succ u ih =>
      intro j f I1 hf hj ag hw hk
      obtain ⟨f, rfl⟩ : ∃ m, f = m + 1 := ⟨f - 1, by omega⟩
      have step : ∀ s2 : Int32, I1 114 132 - s2 = Int32.ofInt (if p = -1 then -1 else p - ((j + 1 : Nat) : Int)) → ∃ I2 f', gX12_write_b282 (gX12_write_l219 σ J R f) σ J R I1 (Int32.ofInt ((64 * e : Nat) : Int)) (Int32.ofInt j) (some 114) (I1 114 132) s2 = gX12_write_l219 σ J R (f' + 1) I2 (Int32.ofInt ((64 * e : Nat) : Int)) (Int32.ofInt (n : Int)) ∧ Ag [(200, 201), (1000132, 1000133)] I I2 ∧ (I2 114 132 = Int32.ofInt (if p = -1 then -1 else p - n)) ∧ ∀ k, I2 200 k = if 64 * e ≤ k ∧ k < 64 * e + n then I 201 (k - 64 * e) else I 200 k := fun s2 es => by
        unfold gX12_write_b282
        rw [ob_some, if_pos k114, if_pos (by rw [i_gd (by omega)]; exact id), iadd, if_pos (by rw [i_gd (by omega)]; exact id), t41 (t := 64 * e + j) (by omega), t41 (t := j) (by omega)]
        dsimp only
        rw [iadd1, es]
        refine ih (j + 1) f _ (by omega) (by omega) ((ag.st rfl).st rfl) (by rw [u2n (by omega), u2s ⟨rfl, rfl⟩]) fun k => ?_
        by_cases c : k = 64 * e + j
        · rw [u2s ⟨rfl, c⟩, u2n (by omega), if_pos (by omega), ag 201 j rfl, show k - 64 * e = j by omega]
        · rw [u2n (by omega), u2n (by omega), hk k]
          by_cases d : 64 * e ≤ k ∧ k < 64 * e + j
          · rw [if_pos d, if_pos (by omega)]
          · rw [if_neg d, if_neg (by omega)]
      rw [gX12_write_l219, if_neg (by rw [i_ler (by omega)]; omega)]
      by_cases c : p = -1
      · rw [if_pos c] at hw step
        rw [if_neg (by rw [hw]; decide), if_pos (by rw [hw]; decide)]
        exact step 0 (by rw [hw]; rfl)
      · rw [if_neg c] at hw step
        rw [if_neg (by rw [hw, i_eql (by omega)]; omega), if_neg (by rw [hw, i_lel (by omega)]; omega)]
        exact step 1 (by rw [hw, i_subl]; congr 1; omega)
  refine lp n 0 F I (by omega) (by omega) Ag.rf ?_ fun k => by rw [if_neg (by omega)]
  rw [h2]
  by_cases c : p = -1
  · rw [if_pos c, c]
  · rw [if_neg c]; congr 1; omega
def WW : List (Nat × Nat) := [(108, 111), (200, 202), (1000001, 1000003), (1000129, 1000133), (2000013, 2000015)]
theorem wr_no {I : Nat → Nat → Int32} {x : Int32} (hs : GScal I) (h : GBook I) : GScal (noI (fI I x) x) ∧ GBook (noI (fI I x) x) ∧ Ag WW I (noI (fI I x) x) := by
  have a : Ag [(1000001, 1000002), (1000002, 1000003), (2000013, 2000014), (2000014, 2000015)] I (noI (fI I x) x) := Ag.st (Ag.st (Ag.st (Ag.st Ag.rf rfl) rfl) rfl) rfl
  exact ⟨no_scal hs, h.kp (a.kp rfl), a.mv rfl⟩
theorem wrM {σ : Shp} {I : Nat → Nat → Int32} {J : Nat → Nat → Int64} {R : Nat → Nat → Option Nat} {a t s z : Nat} {l : Int32} {C : Nat → Int64} (hS : Skel σ R) (h : GBook I) (hs : GScal I) (ka : kdx σ a = 21) (la : lnx σ a = z) (hz : z ≤ 6) (hC : ∀ k, k < z → J a k = C k) (ht : t < 4100) (e1 : I 116 t = l) (hl : Rn l 0 255) (e2 : I 117 t = Int32.ofInt (z : Int)) (e3 : I 118 t = Int32.ofInt (s : Int)) (hsz : s + z ≤ 162000) (hC' : ∀ k, k < z → J 119 (s + k) = C k) (o5 : I 114 131 = 0) (oe : ¬ I 114 130 = 20) (on : ¬ I 114 129 = 2147483647) : Tot (gX1_written σ I J R l (some a)) (fun x => Tot (gX12_write_l92 σ J R FUx x.1 (Int32.ofInt (t : Int)) 0) (fun y => x.2 = y.2 ∧ GScal y.1 ∧ GBook y.1 ∧ Ag WW I y.1)) := by
  obtain ⟨F, hF⟩ : ∃ F, FUx = F := ⟨_, rfl⟩
  have hF' : F = 2000000 := by rw [← hF, FUx_eq]
  obtain ⟨e', e'1, e'2, ee⟩ := h.e7
  obtain ⟨e, rfl⟩ : ∃ k : Nat, e' = (k : Int) := ⟨e'.toNat, by omega⟩
  have he : e < 20 := by
    rw [ee, i_eql (by omega)] at oe
    omega
  obtain ⟨w, w1, w2, we⟩ := h.e6
  have wb : w < 2147483647 := by
    rw [we, i_eql (by omega)] at on
    omega
  obtain ⟨p, p1, p2, pe⟩ := h.e9
  have p6 : I 108 6 = Int32.ofInt p := by rw [h.e5 o5]; exact pe
  obtain ⟨I3, B, r1, r2, r3, r4⟩ := fdC (σ := σ) (I := I) (J := J) (R := R) (num := Int32.ofInt (w + 1)) (l := l) (a := a) (z := z) (C := C) hS ka la hz hC
  -- how many octets come to the page
  obtain ⟨n, hn, hp, nz⟩ : ∃ n : Nat, n ≤ 64 ∧ (p = -1 ∧ n = 64 ∨ (n : Int) ≤ p ∧ (n < 64 → (n : Int) = p)) ∧ True := by
    by_cases c : p = -1
    · exact ⟨64, by omega, Or.inl ⟨c, rfl⟩, trivial⟩
    · by_cases d : p < 64
      · exact ⟨p.toNat, by omega, Or.inr ⟨by omega, fun _ => by omega⟩, trivial⟩
      · exact ⟨64, by omega, Or.inr ⟨by omega, fun h => by omega⟩, trivial⟩
  obtain ⟨I4, s1, s2, s3⟩ := cpC (σ := σ) (I := I3) (J := J) (R := R) (e := e) (n := n) hF' he hn (by rw [r2 108 4 rfl, h.e3]; exact ee)
  -- the class
  have cls : ∀ Z, gX1_written_b124 σ J R (if n = 0 then I4 else u2 I4 108 4 (Int32.ofInt ((e + 1 : Nat) : Int))) (Int32.ofInt (n : Int)) = some Z → gX1_written σ I J R l (some a) = some Z := fun Z hZ => by
    unfold gX1_written
    rw [if_pos (by rw [h.e4]; exact o5), ob_some, if_pos ka, la, show Int32.ofNat z = Int32.ofInt (z : Int) from rfl, if_neg (by rw [i_ltr (by omega)]; omega), h.e3, ee, if_neg (by rw [i_ler (by omega)]; omega), h.e2, if_neg on, we, i_addl, r1, ob_some, r2 108 6 rfl, p6, hF]
    by_cases c : p = -1
    · rw [if_pos (by rw [c]; decide)]
      obtain rfl : n = 64 := by rcases hp with hp | hp <;> omega
      exact s1.trans hZ
    · rw [if_neg (by rw [show (-1 : Int32) = Int32.ofInt (-1) by decide, i_eq (by omega) (by omega)]; exact c)]
      have m : fXM_minI (Int32.ofInt p) 64 = Int32.ofInt (n : Int) := by
        unfold fXM_minI
        by_cases d : p < 64
        · obtain rfl : (n : Int) = p := by rcases hp with hp | hp <;> omega
          simp (disch := omega) only [fail_r, no_r, nob_r, fI_o, Nat.reduceLeDiff, ↓reduceIte, not_true_eq_false, not_false_eq_true, false_imp_iff, true_imp_iff, and_true, true_and, and_self, implies_true, false_or, or_false, true_or, or_true, d10, d01, d00, d11, g_tn, Tot_some, Tot_none, Tot_ite, Tot_bind, ob_some, onl_n, onl_s, nat32, Int.toNat_natCast, i_add, i_sub, i_mul, i_addl, i_addr, i_subl, i_subr, i_mulr, i_addn, i_gd, i_tn, i_w, i_ltlT, i_ltlF, i_ltrT, i_ltrF, i_lelT, i_lelF, i_lerT, i_lerF, i_eqlT, i_eqlF, i_eqrT, i_eqrF, i_ltnT, i_ltnF, i_lenT, i_lenF, i_eqnT, i_eqnF, i_ltT, i_ltF, i_leT, i_leF, i_eqT, i_eqF, j_ltlT, j_ltlF, j_ltrT, j_ltrF, j_lelT, j_lelF, j_lerT, j_lerF, j_eqlT, j_eqlF, j_ltT, j_ltF, j_leT, j_leF, j_eqT, j_eqF, i_mull, l_tn, l_lt0, l_ne0, nleF, tX11_isStockT, tX11_isStockF, tX11_isBinT, tX11_isBinF, tX11_isPlanT, tX11_isPlanF, tX11_isValveT, tX11_isValveF, tX11_isLaneT, tX11_isLaneF, tX11_isGridFormT, tX11_isGridFormF, tX11_isFormT, tX11_isFormF, tX11_isTrayFormT, tX11_isTrayFormF, tX11_isPlacesFormT, tX11_isPlacesFormF, tX11_isTableT, tX11_isTableF, tX11_isProbeT, tX11_isProbeF, tX11_isHouseT, tX11_isHouseF, tX11_isPestT, tX11_isPestF, tX11_isStageT, tX11_isStageF, tX11_isPartT, tX11_isPartF, tX12_isBinT, tX12_isBinF, tX12_isTableT, tX12_isTableF, tX12_inT, tX12_inF, tX12_innT, tX12_innF, tX12_ingT, tX12_ingF, tX12_isStageT, tX12_isStageF, tX1_isByteT, tX1_isByteF]
        · obtain rfl : n = 64 := by rcases hp with hp | hp <;> omega
          by_cases d' : p = 64
          · subst d'; rfl
          · simp (disch := omega) only [fail_r, no_r, nob_r, fI_o, Nat.reduceLeDiff, ↓reduceIte, not_true_eq_false, not_false_eq_true, false_imp_iff, true_imp_iff, and_true, true_and, and_self, implies_true, false_or, or_false, true_or, or_true, d10, d01, d00, d11, g_tn, Tot_some, Tot_none, Tot_ite, Tot_bind, ob_some, onl_n, onl_s, nat32, Int.toNat_natCast, i_add, i_sub, i_mul, i_addl, i_addr, i_subl, i_subr, i_mulr, i_addn, i_gd, i_tn, i_w, i_ltlT, i_ltlF, i_ltrT, i_ltrF, i_lelT, i_lelF, i_lerT, i_lerF, i_eqlT, i_eqlF, i_eqrT, i_eqrF, i_ltnT, i_ltnF, i_lenT, i_lenF, i_eqnT, i_eqnF, i_ltT, i_ltF, i_leT, i_leF, i_eqT, i_eqF, j_ltlT, j_ltlF, j_ltrT, j_ltrF, j_lelT, j_lelF, j_lerT, j_lerF, j_eqlT, j_eqlF, j_ltT, j_ltF, j_leT, j_leF, j_eqT, j_eqF, i_mull, l_tn, l_lt0, l_ne0, nleF, tX11_isStockT, tX11_isStockF, tX11_isBinT, tX11_isBinF, tX11_isPlanT, tX11_isPlanF, tX11_isValveT, tX11_isValveF, tX11_isLaneT, tX11_isLaneF, tX11_isGridFormT, tX11_isGridFormF, tX11_isFormT, tX11_isFormF, tX11_isTrayFormT, tX11_isTrayFormF, tX11_isPlacesFormT, tX11_isPlacesFormF, tX11_isTableT, tX11_isTableF, tX11_isProbeT, tX11_isProbeF, tX11_isHouseT, tX11_isHouseF, tX11_isPestT, tX11_isPestF, tX11_isStageT, tX11_isStageF, tX11_isPartT, tX11_isPartF, tX12_isBinT, tX12_isBinF, tX12_isTableT, tX12_isTableF, tX12_inT, tX12_inF, tX12_innT, tX12_innF, tX12_ingT, tX12_ingF, tX12_isStageT, tX12_isStageF, tX1_isByteT, tX1_isByteF]
            try rfl
      dsimp only
      rw [m]
      exact s1.trans hZ
  -- the octets of the draft
  have ol : Oc6 (drS (drF (Int32.ofInt (w + 1)) l z C B)) := by
    refine Oc6.lw 4 _ (drC_o _ _ _ (Oc6.up (Oc6.up (Oc6.lw 4 _ fun k hk => ?_) hl) ⟨(z : Int), by omega, by omega, rfl⟩))
    rw [r4 k hk]
    exact ⟨0, by omega, by omega, rfl⟩
  have ag34 : Ag [(109, 111)] I I4 := (r2.mv rfl).tr (s2.mv rfl)
  -- the model, from the class's memory I5
  have mdl : ∀ I5, Ag [(108, 111)] I I5 → ∃ (I6 I7 : Nat → Nat → Int32) (f : Nat), gX12_write_l92 σ J R F I5 (Int32.ofInt (t : Int)) 0 = gX12_write_l219 σ J R (f + 1) I7 (Int32.ofInt ((64 * e : Nat) : Int)) (Int32.ofInt (n : Int)) ∧ Ag [(200, 202), (1000132, 1000133)] I5 I7 ∧ I7 114 132 = Int32.ofInt (if p = -1 then -1 else p - n) ∧ ∀ k, I7 200 k = if 64 * e ≤ k ∧ k < 64 * e + n then drS (drF (Int32.ofInt (w + 1)) l z C B) (k - 64 * e) else I 200 k := fun I5 ag => by
    obtain ⟨I6, B', x1, x2, x3, x4⟩ := fdM (σ := σ) (I := I5) (J := J) (R := R) (num := Int32.ofInt (w + 1)) (l := l) (t := t) (s := s) (z := z) (C := C) hS hF hF' ht (by rw [ag 116 t rfl]; exact e1) (by rw [ag 117 t rfl]; exact e2) (by rw [ag 118 t rfl]; exact e3) (by rw [ag 114 129 rfl, we, i_addl]) hsz hz hC'
    have q6 : I6 114 130 = Int32.ofInt (e : Int) := by rw [x2 114 130 rfl, ag 114 130 rfl]; exact ee
    obtain ⟨I7, f, y1, y2, y3, y4⟩ := cpM (σ := σ) (I := I6) (J := J) (R := R) hS (e := e) (n := n) (p := p) hF' he hn (by omega) (by omega) (by rw [x2 114 132 rfl, ag 114 132 rfl]; exact pe)
    refine ⟨I6, I7, f, ?_, (x2.mv rfl).tr (y2.mv rfl), y3, fun k => ?_⟩
    · rw [x1, q6, i_mulr, show (64 : Int) * (e : Int) = ((64 * e : Nat) : Int) by omega]
      exact y1
    · rw [y4 k]
      by_cases c : 64 * e ≤ k ∧ k < 64 * e + n
      · rw [if_pos c, if_pos c, x3]
        exact drS_eq (drF_eq fun k hk => by rw [x4 k hk, r4 k hk]) _ (by omega)
      · rw [if_neg c, if_neg c, x2 200 k rfl, ag 200 k rfl]
  have p9 : ∀ k, I4 109 k = if 64 * e ≤ k ∧ k < 64 * e + n then drS (drF (Int32.ofInt (w + 1)) l z C B) (k - 64 * e) else I 109 k := fun k => by
    rw [s3 k]
    by_cases c : 64 * e ≤ k ∧ k < 64 * e + n
    · rw [if_pos c, if_pos c, r3]
    · rw [if_neg c, if_neg c, r2 109 k rfl]
  have bk : ∀ I5 I7 I8 : Nat → Nat → Int32, Ag [(108, 109)] I4 I5 → Ag [(200, 202), (1000132, 1000133)] I5 I7 → Ag [(1000129, 1000133)] I7 I8 → (∀ k, I7 200 k = if 64 * e ≤ k ∧ k < 64 * e + n then drS (drF (Int32.ofInt (w + 1)) l z C B) (k - 64 * e) else I 200 k) → (∀ k, k < 1280 → I8 109 k = I8 200 k) ∧ ∀ k, k < 1280 → Rn (I8 200 k) 0 255 := fun I5 I7 I8 g1 g2 g3 g4 => by
    refine ⟨fun k hk => ?_, fun k hk => ?_⟩
    · rw [g3 109 k rfl, g2 109 k rfl, g1 109 k rfl, p9 k, g3 200 k rfl, g4 k, h.e0 k hk]
    · rw [g3 200 k rfl, g4 k]
      by_cases c : 64 * e ≤ k ∧ k < 64 * e + n
      · rw [if_pos c]; exact ol _ (by omega)
      · rw [if_neg c]; exact h.e1 k hk
  have q4 : ∀ j, I4 108 j = I 108 j := fun j => ag34 108 j rfl
  by_cases c64 : n = 64
  · have fin : ∀ I5 : Nat → Nat → Int32, Ag [(108, 109)] I4 I5 → I5 108 3 = Int32.ofInt (w + 1) → I5 108 4 = Int32.ofInt ((e + 1 : Nat) : Int) → I5 108 5 = 0 → I5 108 6 = Int32.ofInt (if p = -1 then -1 else p - n) → gX1_written σ I J R l (some a) = some (I5, Int32.ofInt (w + 1)) → Tot (gX1_written σ I J R l (some a)) (fun x => Tot (gX12_write_l92 σ J R FUx x.1 (Int32.ofInt (t : Int)) 0) (fun y => x.2 = y.2 ∧ GScal y.1 ∧ GBook y.1 ∧ Ag WW I y.1)) := fun I5 g1 g2 g3 g4 g5 g6 => by
      have a5 : Ag [(108, 111)] I I5 := (ag34.mv rfl).tr (g1.mv rfl)
      obtain ⟨-, I7, f, y1, y2, y3, y4⟩ := mdl I5 a5
      have y30 : I7 114 130 = Int32.ofInt (e : Int) := by rw [y2 114 130 rfl, a5 114 130 rfl]; exact ee
      have y29 : I7 114 129 = Int32.ofInt w := by rw [y2 114 129 rfl, a5 114 129 rfl]; exact we
      have y31 : I7 114 131 = 0 := by rw [y2 114 131 rfl, a5 114 131 rfl]; exact o5
      have a8 : Ag [(1000129, 1000133)] I7 (u2 (u2 I7 114 130 (Int32.ofInt ((e + 1 : Nat) : Int))) 114 129 (Int32.ofInt (w + 1))) := (Ag.rf.st rfl).st rfl
      have aW : Ag WW I (u2 (u2 I7 114 130 (Int32.ofInt ((e + 1 : Nat) : Int))) 114 129 (Int32.ofInt (w + 1))) := ((a5.mv rfl).tr (y2.mv rfl)).tr (a8.mv rfl)
      have aK : Ag [(108, 111), (200, 202), (1000129, 1000133)] I (u2 (u2 I7 114 130 (Int32.ofInt ((e + 1 : Nat) : Int))) 114 129 (Int32.ofInt (w + 1))) := ((a5.mv rfl).tr (y2.mv rfl)).tr (a8.mv rfl)
      obtain ⟨k1, k2⟩ := bk I5 I7 _ g1 y2 a8 y4
      obtain ⟨I8, h8⟩ : ∃ I8, u2 (u2 I7 114 130 (Int32.ofInt ((e + 1 : Nat) : Int))) 114 129 (Int32.ofInt (w + 1)) = I8 := ⟨_, rfl⟩
      have mm : gX12_write_l92 σ J R FUx I5 (Int32.ofInt (t : Int)) 0 = some (I8, Int32.ofInt (w + 1)) := by
        rw [hF, y1, gX12_write_l219, if_pos (by rw [c64]; decide)]
        dsimp only
        rw [y30, iadd1, show u2 I7 114 130 (Int32.ofInt ((e + 1 : Nat) : Int)) 114 129 = Int32.ofInt w by rw [u2n (by omega)]; exact y29, i_addl, u2s ⟨rfl, rfl⟩, h8]
      have z29 : I8 114 129 = Int32.ofInt (w + 1) := by rw [← h8, u2s ⟨rfl, rfl⟩]
      have z30 : I8 114 130 = Int32.ofInt ((e + 1 : Nat) : Int) := by rw [← h8, u2n (by omega), u2s ⟨rfl, rfl⟩]
      have z31 : I8 114 131 = 0 := by rw [← h8, u2n (by omega), u2n (by omega), y31]
      have z32 : I8 114 132 = Int32.ofInt (if p = -1 then -1 else p - n) := by rw [← h8, u2n (by omega), u2n (by omega), y3]
      rw [h8] at k1 k2 a8 aW aK
      have gb : GBook I8 := by
        refine ⟨k1, k2, ?_, ?_, ?_, fun _ => ?_, ?_, ?_, ?_, ?_⟩
        · rw [a8 108 3 rfl, y2 108 3 rfl, g2, z29]
        · rw [a8 108 4 rfl, y2 108 4 rfl, g3, z30]
        · rw [a8 108 5 rfl, y2 108 5 rfl, g4, z31]
        · rw [a8 108 6 rfl, y2 108 6 rfl, g5, z32]
        · exact ⟨w + 1, by omega, by omega, z29⟩
        · exact ⟨((e + 1 : Nat) : Int), by omega, by omega, z30⟩
        · exact ⟨0, by omega, by omega, z31⟩
        · refine ⟨if p = -1 then -1 else p - n, ?_, ?_, z32⟩
          · by_cases c : p = -1
            · rw [if_pos c]; omega
            · rw [if_neg c]; rcases hp with hp | hp <;> omega
          · by_cases c : p = -1
            · rw [if_pos c]; omega
            · rw [if_neg c]; omega
      exact tt (I5, Int32.ofInt (w + 1)) (I8, Int32.ofInt (w + 1)) g6 mm ⟨rfl, hs.kp (aK.kp rfl), gb, aW⟩
    have hb : ∀ Z, (if I4 108 6 = (-1 : Int32) then some (u2 (u2 I4 108 4 (Int32.ofInt ((e + 1 : Nat) : Int))) 108 3 (Int32.ofInt (w + 1)), Int32.ofInt (w + 1)) else some (u2 (u2 (u2 I4 108 4 (Int32.ofInt ((e + 1 : Nat) : Int))) 108 6 (I4 108 6 - 64)) 108 3 (Int32.ofInt (w + 1)), Int32.ofInt (w + 1))) = some Z → gX1_written σ I J R l (some a) = some Z := fun Z hZ => cls Z (by
      rw [← hZ, if_neg (by omega)]
      unfold gX1_written_b124
      dsimp only
      rw [if_pos (by rw [c64]; decide), show u2 I4 108 4 (Int32.ofInt ((e + 1 : Nat) : Int)) 108 6 = I4 108 6 by rw [u2n (by omega)], show u2 I4 108 4 (Int32.ofInt ((e + 1 : Nat) : Int)) 108 3 + 1 = Int32.ofInt (w + 1) by rw [u2n (by omega), q4, h.e2, we, i_addl], u2s ⟨rfl, rfl⟩, show u2 (u2 I4 108 4 (Int32.ofInt ((e + 1 : Nat) : Int))) 108 6 (I4 108 6 - 64) 108 3 + 1 = Int32.ofInt (w + 1) by rw [u2n (by omega), u2n (by omega), q4, h.e2, we, i_addl], u2s ⟨rfl, rfl⟩])
    by_cases c : p = -1
    · rw [if_pos (by rw [q4, p6, c]; decide)] at hb
      refine fin _ ((Ag.rf.st rfl).st rfl) (by rw [u2s ⟨rfl, rfl⟩]) (by rw [u2n (by omega), u2s ⟨rfl, rfl⟩]) (by rw [u2n (by omega), u2n (by omega), q4, h.e4]; exact o5) (by rw [u2n (by omega), u2n (by omega), q4, p6, if_pos c, c]) (hb _ rfl)
    · rw [if_neg (by rw [q4, p6, show (-1 : Int32) = Int32.ofInt (-1) by decide, i_eq (by omega) (by omega)]; exact c)] at hb
      refine fin _ (((Ag.rf.st rfl).st rfl).st rfl) (by rw [u2s ⟨rfl, rfl⟩]) (by rw [u2n (by omega), u2n (by omega), u2s ⟨rfl, rfl⟩]) (by rw [u2n (by omega), u2n (by omega), u2n (by omega), q4, h.e4]; exact o5) (by rw [u2n (by omega), u2s ⟨rfl, rfl⟩, q4, p6, if_neg c, i_subl, c64]; rfl) (hb _ rfl)
  · have pn' : (n : Int) = p := by rcases hp with hp | hp <;> omega
    obtain ⟨E, hE1, hE2⟩ : ∃ E : Nat, E ≤ 20 ∧ E = if n = 0 then e else e + 1 := ⟨_, by split <;> omega, rfl⟩
    have fin : ∀ I5 : Nat → Nat → Int32, Ag [(108, 109)] I4 I5 → I5 108 3 = Int32.ofInt w → I5 108 4 = Int32.ofInt (E : Int) → I5 108 5 = 1 → gX1_written σ I J R l (some a) = some (I5, -3) → Tot (gX1_written σ I J R l (some a)) (fun x => Tot (gX12_write_l92 σ J R FUx x.1 (Int32.ofInt (t : Int)) 0) (fun y => x.2 = y.2 ∧ GScal y.1 ∧ GBook y.1 ∧ Ag WW I y.1)) := fun I5 g1 g2 g3 g4 g6 => by
      have a5 : Ag [(108, 111)] I I5 := (ag34.mv rfl).tr (g1.mv rfl)
      obtain ⟨-, I7, f, y1, y2, y3, y4⟩ := mdl I5 a5
      have y30 : I7 114 130 = Int32.ofInt (e : Int) := by rw [y2 114 130 rfl, a5 114 130 rfl]; exact ee
      have y29 : I7 114 129 = Int32.ofInt w := by rw [y2 114 129 rfl, a5 114 129 rfl]; exact we
      have y32 : I7 114 132 = 0 := by rw [y3, if_neg (by omega), show p - (n : Int) = 0 by omega]; rfl
      have a8 : Ag [(1000129, 1000133)] I7 (u2 (u2 (u2 I7 114 131 1) 114 132 (-1)) 114 130 (Int32.ofInt (E : Int))) := ((Ag.rf.st rfl).st rfl).st rfl
      have aW : Ag WW I (u2 (u2 (u2 I7 114 131 1) 114 132 (-1)) 114 130 (Int32.ofInt (E : Int))) := ((a5.mv rfl).tr (y2.mv rfl)).tr (a8.mv rfl)
      have aK : Ag [(108, 111), (200, 202), (1000129, 1000133)] I (u2 (u2 (u2 I7 114 131 1) 114 132 (-1)) 114 130 (Int32.ofInt (E : Int))) := ((a5.mv rfl).tr (y2.mv rfl)).tr (a8.mv rfl)
      obtain ⟨k1, k2⟩ := bk I5 I7 _ g1 y2 a8 y4
      obtain ⟨I8, h8⟩ : ∃ I8, u2 (u2 (u2 I7 114 131 1) 114 132 (-1)) 114 130 (Int32.ofInt (E : Int)) = I8 := ⟨_, rfl⟩
      have mm : gX12_write_l92 σ J R FUx I5 (Int32.ofInt (t : Int)) 0 = some (I8, -3) := by
        rw [hF, y1, gX12_write_l219, if_neg (by rw [i_ler (by omega)]; omega), if_pos y32]
        dsimp only
        rw [show u2 (u2 I7 114 131 1) 114 132 (-1) 114 130 = Int32.ofInt (e : Int) by rw [u2n (by omega), u2n (by omega)]; exact y30, ← h8, hE2]
        by_cases c : n = 0
        · rw [if_pos (by rw [i_lel (by omega)]; omega), if_pos c, Int32.add_zero]
        · rw [if_neg (by rw [i_lel (by omega)]; omega), if_neg c, iadd1]
      have z29 : I8 114 129 = Int32.ofInt w := by rw [← h8, u2n (by omega), u2n (by omega), u2n (by omega), y29]
      have z30 : I8 114 130 = Int32.ofInt (E : Int) := by rw [← h8, u2s ⟨rfl, rfl⟩]
      have z31 : I8 114 131 = 1 := by rw [← h8, u2n (by omega), u2n (by omega), u2s ⟨rfl, rfl⟩]
      have z32 : I8 114 132 = -1 := by rw [← h8, u2n (by omega), u2s ⟨rfl, rfl⟩]
      rw [h8] at k1 k2 a8 aW aK
      have gb : GBook I8 := by
        refine ⟨k1, k2, ?_, ?_, ?_, fun q => ?_, ?_, ?_, ?_, ?_⟩
        · rw [a8 108 3 rfl, y2 108 3 rfl, g2, z29]
        · rw [a8 108 4 rfl, y2 108 4 rfl, g3, z30]
        · rw [a8 108 5 rfl, y2 108 5 rfl, g4, z31]
        · exact absurd (z31.symm.trans q) (by decide)
        · exact ⟨w, by omega, by omega, z29⟩
        · exact ⟨(E : Int), by omega, by omega, z30⟩
        · exact ⟨1, by omega, by omega, z31⟩
        · exact ⟨-1, by omega, by omega, by rw [z32]; decide⟩
      exact tt (I5, -3) (I8, -3) g6 mm ⟨rfl, hs.kp (aK.kp rfl), gb, aW⟩
    have hb : gX1_written σ I J R l (some a) = some (u2 (if n = 0 then I4 else u2 I4 108 4 (Int32.ofInt ((e + 1 : Nat) : Int))) 108 5 1, -3) := cls _ (by
      unfold gX1_written_b124
      dsimp only
      rw [if_neg (by rw [i_ler (by omega)]; omega)])
    by_cases c : n = 0
    · rw [if_pos c] at hb hE2
      exact fin _ (Ag.rf.st rfl) (by rw [u2n (by omega), q4, h.e2]; exact we) (by rw [u2n (by omega), q4, h.e3, hE2]; exact ee) (by rw [u2s ⟨rfl, rfl⟩]) hb
    · rw [if_neg c] at hb hE2
      exact fin _ ((Ag.rf.st rfl).st rfl) (by rw [u2n (by omega), u2n (by omega), q4, h.e2]; exact we) (by rw [u2n (by omega), u2s ⟨rfl, rfl⟩, hE2]) (by rw [u2s ⟨rfl, rfl⟩]) hb
theorem c_write {σ : Shp} {I : Nat → Nat → Int32} {J : Nat → Nat → Int64} {R : Nat → Nat → Option Nat} {x1 : Int32} (hS : Skel σ R) (hs : GScal I) (hT : GThing σ I J R) (h : GBook I) : Tot (gX11_write σ I J R x1) (fun t => Tot (gX12_write σ t.1 J R x1) (fun t2 => t.2 = t2.2 ∧ GScal t2.1 ∧ GBook t2.1 ∧ Ag WW I t2.1)) := by
  obtain ⟨i, hi1, hi2, rfl⟩ := rep x1
  obtain ⟨G, C, N, hg, hc, hm⟩ := id hT
  by_cases c1 : 0 ≤ i ∧ i ≤ 15
  case neg =>
    exact tt (I, -2) (I, -2) (by unfold gX11_write; simp (disch := omega) only [fail_r, no_r, nob_r, fI_o, Nat.reduceLeDiff, ↓reduceIte, not_true_eq_false, not_false_eq_true, false_imp_iff, true_imp_iff, and_true, true_and, and_self, implies_true, false_or, or_false, true_or, or_true, d10, d01, d00, d11, g_tn, Tot_some, Tot_none, Tot_ite, Tot_bind, ob_some, onl_n, onl_s, nat32, Int.toNat_natCast, i_add, i_sub, i_mul, i_addl, i_addr, i_subl, i_subr, i_mulr, i_addn, i_gd, i_tn, i_w, i_ltlT, i_ltlF, i_ltrT, i_ltrF, i_lelT, i_lelF, i_lerT, i_lerF, i_eqlT, i_eqlF, i_eqrT, i_eqrF, i_ltnT, i_ltnF, i_lenT, i_lenF, i_eqnT, i_eqnF, i_ltT, i_ltF, i_leT, i_leF, i_eqT, i_eqF, j_ltlT, j_ltlF, j_ltrT, j_ltrF, j_lelT, j_lelF, j_lerT, j_lerF, j_eqlT, j_eqlF, j_ltT, j_ltF, j_leT, j_leF, j_eqT, j_eqF, i_mull, l_tn, l_lt0, l_ne0, nleF, tX11_isStockT, tX11_isStockF, tX11_isBinT, tX11_isBinF, tX11_isPlanT, tX11_isPlanF, tX11_isValveT, tX11_isValveF, tX11_isLaneT, tX11_isLaneF, tX11_isGridFormT, tX11_isGridFormF, tX11_isFormT, tX11_isFormF, tX11_isTrayFormT, tX11_isTrayFormF, tX11_isPlacesFormT, tX11_isPlacesFormF, tX11_isTableT, tX11_isTableF, tX11_isProbeT, tX11_isProbeF, tX11_isHouseT, tX11_isHouseF, tX11_isPestT, tX11_isPestF, tX11_isStageT, tX11_isStageF, tX11_isPartT, tX11_isPartF, tX12_isBinT, tX12_isBinF, tX12_isTableT, tX12_isTableF, tX12_inT, tX12_inF, tX12_innT, tX12_innF, tX12_ingT, tX12_ingF, tX12_isStageT, tX12_isStageF, tX1_isByteT, tX1_isByteF]) (by unfold gX12_write; simp (disch := omega) only [fail_r, no_r, nob_r, fI_o, Nat.reduceLeDiff, ↓reduceIte, not_true_eq_false, not_false_eq_true, false_imp_iff, true_imp_iff, and_true, true_and, and_self, implies_true, false_or, or_false, true_or, or_true, d10, d01, d00, d11, g_tn, Tot_some, Tot_none, Tot_ite, Tot_bind, ob_some, onl_n, onl_s, nat32, Int.toNat_natCast, i_add, i_sub, i_mul, i_addl, i_addr, i_subl, i_subr, i_mulr, i_addn, i_gd, i_tn, i_w, i_ltlT, i_ltlF, i_ltrT, i_ltrF, i_lelT, i_lelF, i_lerT, i_lerF, i_eqlT, i_eqlF, i_eqrT, i_eqrF, i_ltnT, i_ltnF, i_lenT, i_lenF, i_eqnT, i_eqnF, i_ltT, i_ltF, i_leT, i_leF, i_eqT, i_eqF, j_ltlT, j_ltlF, j_ltrT, j_ltrF, j_lelT, j_lelF, j_lerT, j_lerF, j_eqlT, j_eqlF, j_ltT, j_ltF, j_leT, j_leF, j_eqT, j_eqF, i_mull, l_tn, l_lt0, l_ne0, nleF, tX11_isStockT, tX11_isStockF, tX11_isBinT, tX11_isBinF, tX11_isPlanT, tX11_isPlanF, tX11_isValveT, tX11_isValveF, tX11_isLaneT, tX11_isLaneF, tX11_isGridFormT, tX11_isGridFormF, tX11_isFormT, tX11_isFormF, tX11_isTrayFormT, tX11_isTrayFormF, tX11_isPlacesFormT, tX11_isPlacesFormF, tX11_isTableT, tX11_isTableF, tX11_isProbeT, tX11_isProbeF, tX11_isHouseT, tX11_isHouseF, tX11_isPestT, tX11_isPestF, tX11_isStageT, tX11_isStageF, tX11_isPartT, tX11_isPartF, tX12_isBinT, tX12_isBinF, tX12_isTableT, tX12_isTableF, tX12_inT, tX12_inF, tX12_innT, tX12_innF, tX12_ingT, tX12_ingF, tX12_isStageT, tX12_isStageF, tX1_isByteT, tX1_isByteF]) ⟨rfl, ⟨hs, h, Ag.rf⟩⟩
  rcases th_bin hg hc hm c1 with ⟨e0, e1, e2⟩ | ⟨t, t1, t2, t3, e0, e1, e2⟩
  · exact tt (fI I 1, mfail 1) (noI (fI I 1) 1, mfail 1) (by unfold gX11_write; simp (disch := omega) only [fail_r, no_r, nob_r, fI_o, Nat.reduceLeDiff, ↓reduceIte, not_true_eq_false, not_false_eq_true, false_imp_iff, true_imp_iff, and_true, true_and, and_self, implies_true, false_or, or_false, true_or, or_true, d10, d01, d00, d11, g_tn, Tot_some, Tot_none, Tot_ite, Tot_bind, ob_some, onl_n, onl_s, nat32, Int.toNat_natCast, i_add, i_sub, i_mul, i_addl, i_addr, i_subl, i_subr, i_mulr, i_addn, i_gd, i_tn, i_w, i_ltlT, i_ltlF, i_ltrT, i_ltrF, i_lelT, i_lelF, i_lerT, i_lerF, i_eqlT, i_eqlF, i_eqrT, i_eqrF, i_ltnT, i_ltnF, i_lenT, i_lenF, i_eqnT, i_eqnF, i_ltT, i_ltF, i_leT, i_leF, i_eqT, i_eqF, j_ltlT, j_ltlF, j_ltrT, j_ltrF, j_lelT, j_lelF, j_lerT, j_lerF, j_eqlT, j_eqlF, j_ltT, j_ltF, j_leT, j_leF, j_eqT, j_eqF, i_mull, l_tn, l_lt0, l_ne0, nleF, tX11_isStockT, tX11_isStockF, tX11_isBinT, tX11_isBinF, tX11_isPlanT, tX11_isPlanF, tX11_isValveT, tX11_isValveF, tX11_isLaneT, tX11_isLaneF, tX11_isGridFormT, tX11_isGridFormF, tX11_isFormT, tX11_isFormF, tX11_isTrayFormT, tX11_isTrayFormF, tX11_isPlacesFormT, tX11_isPlacesFormF, tX11_isTableT, tX11_isTableF, tX11_isProbeT, tX11_isProbeF, tX11_isHouseT, tX11_isHouseF, tX11_isPestT, tX11_isPestF, tX11_isStageT, tX11_isStageF, tX11_isPartT, tX11_isPartF, tX12_isBinT, tX12_isBinF, tX12_isTableT, tX12_isTableF, tX12_inT, tX12_inF, tX12_innT, tX12_innF, tX12_ingT, tX12_ingF, tX12_isStageT, tX12_isStageF, tX1_isByteT, tX1_isByteF, e1, e2]) (by unfold gX12_write; simp (disch := omega) only [fail_r, no_r, nob_r, fI_o, Nat.reduceLeDiff, ↓reduceIte, not_true_eq_false, not_false_eq_true, false_imp_iff, true_imp_iff, and_true, true_and, and_self, implies_true, false_or, or_false, true_or, or_true, d10, d01, d00, d11, g_tn, Tot_some, Tot_none, Tot_ite, Tot_bind, ob_some, onl_n, onl_s, nat32, Int.toNat_natCast, i_add, i_sub, i_mul, i_addl, i_addr, i_subl, i_subr, i_mulr, i_addn, i_gd, i_tn, i_w, i_ltlT, i_ltlF, i_ltrT, i_ltrF, i_lelT, i_lelF, i_lerT, i_lerF, i_eqlT, i_eqlF, i_eqrT, i_eqrF, i_ltnT, i_ltnF, i_lenT, i_lenF, i_eqnT, i_eqnF, i_ltT, i_ltF, i_leT, i_leF, i_eqT, i_eqF, j_ltlT, j_ltlF, j_ltrT, j_ltrF, j_lelT, j_lelF, j_lerT, j_lerF, j_eqlT, j_eqlF, j_ltT, j_ltF, j_leT, j_leF, j_eqT, j_eqF, i_mull, l_tn, l_lt0, l_ne0, nleF, tX11_isStockT, tX11_isStockF, tX11_isBinT, tX11_isBinF, tX11_isPlanT, tX11_isPlanF, tX11_isValveT, tX11_isValveF, tX11_isLaneT, tX11_isLaneF, tX11_isGridFormT, tX11_isGridFormF, tX11_isFormT, tX11_isFormF, tX11_isTrayFormT, tX11_isTrayFormF, tX11_isPlacesFormT, tX11_isPlacesFormF, tX11_isTableT, tX11_isTableF, tX11_isProbeT, tX11_isProbeF, tX11_isHouseT, tX11_isHouseF, tX11_isPestT, tX11_isPestF, tX11_isStageT, tX11_isStageF, tX11_isPartT, tX11_isPartF, tX12_isBinT, tX12_isBinF, tX12_isTableT, tX12_isTableF, tX12_inT, tX12_inF, tX12_innT, tX12_innF, tX12_ingT, tX12_ingF, tX12_isStageT, tX12_isStageF, tX1_isByteT, tX1_isByteF, e1, e2]) ⟨rfl, wr_no hs h⟩
  obtain ⟨⟨a1, a2, a3, a4, a5, a6, a7⟩, ⟨b1, b2, b3, b4, b5, b6, b7⟩, -⟩ := hc.2.2.1 t t1 t2; obtain ⟨m1, m2, m3, m4, m5, m6, m7, m8, m9, m10, m11⟩ := hm.2.2.1 t (by omega); have s1 := (hg.2.2.1 t t1 t2).1
  obtain ⟨l1, l2⟩ := lnT (j := (G 1 t : Int)) (by omega)
  by_cases c2 : fX12_isPageLane (Int32.ofInt (G 1 t : Int)) = 0
  · exact tt (fI I 4, mfail 4) (noI (fI I 4) 4, mfail 4) (by unfold gX11_write; simp (disch := omega) only [fail_r, no_r, nob_r, fI_o, Nat.reduceLeDiff, ↓reduceIte, not_true_eq_false, not_false_eq_true, false_imp_iff, true_imp_iff, and_true, true_and, and_self, implies_true, false_or, or_false, true_or, or_true, d10, d01, d00, d11, g_tn, Tot_some, Tot_none, Tot_ite, Tot_bind, ob_some, onl_n, onl_s, nat32, Int.toNat_natCast, i_add, i_sub, i_mul, i_addl, i_addr, i_subl, i_subr, i_mulr, i_addn, i_gd, i_tn, i_w, i_ltlT, i_ltlF, i_ltrT, i_ltrF, i_lelT, i_lelF, i_lerT, i_lerF, i_eqlT, i_eqlF, i_eqrT, i_eqrF, i_ltnT, i_ltnF, i_lenT, i_lenF, i_eqnT, i_eqnF, i_ltT, i_ltF, i_leT, i_leF, i_eqT, i_eqF, j_ltlT, j_ltlF, j_ltrT, j_ltrF, j_lelT, j_lelF, j_lerT, j_lerF, j_eqlT, j_eqlF, j_ltT, j_ltF, j_leT, j_leF, j_eqT, j_eqF, i_mull, l_tn, l_lt0, l_ne0, nleF, tX11_isStockT, tX11_isStockF, tX11_isBinT, tX11_isBinF, tX11_isPlanT, tX11_isPlanF, tX11_isValveT, tX11_isValveF, tX11_isLaneT, tX11_isLaneF, tX11_isGridFormT, tX11_isGridFormF, tX11_isFormT, tX11_isFormF, tX11_isTrayFormT, tX11_isTrayFormF, tX11_isPlacesFormT, tX11_isPlacesFormF, tX11_isTableT, tX11_isTableF, tX11_isProbeT, tX11_isProbeF, tX11_isHouseT, tX11_isHouseF, tX11_isPestT, tX11_isPestF, tX11_isStageT, tX11_isStageF, tX11_isPartT, tX11_isPartF, tX12_isBinT, tX12_isBinF, tX12_isTableT, tX12_isTableF, tX12_inT, tX12_inF, tX12_innT, tX12_innF, tX12_ingT, tX12_ingF, tX12_isStageT, tX12_isStageF, tX1_isByteT, tX1_isByteF, e1, e2, a1, b1, m1, m2, l1, c2]) (by unfold gX12_write; simp (disch := omega) only [fail_r, no_r, nob_r, fI_o, Nat.reduceLeDiff, ↓reduceIte, not_true_eq_false, not_false_eq_true, false_imp_iff, true_imp_iff, and_true, true_and, and_self, implies_true, false_or, or_false, true_or, or_true, d10, d01, d00, d11, g_tn, Tot_some, Tot_none, Tot_ite, Tot_bind, ob_some, onl_n, onl_s, nat32, Int.toNat_natCast, i_add, i_sub, i_mul, i_addl, i_addr, i_subl, i_subr, i_mulr, i_addn, i_gd, i_tn, i_w, i_ltlT, i_ltlF, i_ltrT, i_ltrF, i_lelT, i_lelF, i_lerT, i_lerF, i_eqlT, i_eqlF, i_eqrT, i_eqrF, i_ltnT, i_ltnF, i_lenT, i_lenF, i_eqnT, i_eqnF, i_ltT, i_ltF, i_leT, i_leF, i_eqT, i_eqF, j_ltlT, j_ltlF, j_ltrT, j_ltrF, j_lelT, j_lelF, j_lerT, j_lerF, j_eqlT, j_eqlF, j_ltT, j_ltF, j_leT, j_leF, j_eqT, j_eqF, i_mull, l_tn, l_lt0, l_ne0, nleF, tX11_isStockT, tX11_isStockF, tX11_isBinT, tX11_isBinF, tX11_isPlanT, tX11_isPlanF, tX11_isValveT, tX11_isValveF, tX11_isLaneT, tX11_isLaneF, tX11_isGridFormT, tX11_isGridFormF, tX11_isFormT, tX11_isFormF, tX11_isTrayFormT, tX11_isTrayFormF, tX11_isPlacesFormT, tX11_isPlacesFormF, tX11_isTableT, tX11_isTableF, tX11_isProbeT, tX11_isProbeF, tX11_isHouseT, tX11_isHouseF, tX11_isPestT, tX11_isPestF, tX11_isStageT, tX11_isStageF, tX11_isPartT, tX11_isPartF, tX12_isBinT, tX12_isBinF, tX12_isTableT, tX12_isTableF, tX12_inT, tX12_inF, tX12_innT, tX12_innF, tX12_ingT, tX12_ingF, tX12_isStageT, tX12_isStageF, tX1_isByteT, tX1_isByteF, e1, e2, a1, b1, m1, m2, l1, c2]) ⟨rfl, wr_no hs h⟩
  have l7 := l2 c2
  obtain ⟨w1, w2, w3, w4, w5, w6, w7⟩ := th_row hg hc hm t1 t2 (by omega)
  obtain ⟨k, rfl⟩ : ∃ k : Nat, i = (k : Int) := ⟨i.toNat, by omega⟩
  have g16 : ¬ (Int32.ofInt (k : Int) < 0 ∨ 16 ≤ Int32.toNatClampNeg (Int32.ofInt (k : Int))) := by rw [i_gd (by omega)]; exact id
  have cls : ∀ Z, gX1_written σ I J R (Int32.ofInt (G 1 t : Int)) (some (G 0 t + 1)) = some Z → gX11_write σ I J R (Int32.ofInt (k : Int)) = some Z := fun Z hZ => by
    unfold gX11_write
    rw [tX11_isBinT (by omega), if_neg n10, if_pos g16, t41 (t := k) (by omega), show R 6 k = some (G 0 t) from e2]
    show (if kdx σ (G 0 t) = 11 then _ else _) = _
    rw [if_pos a1, b1, l1, if_neg c2, w3, ob_some, hZ]
    rfl
  have mdl : ∀ (I1 : Nat → Nat → Int32) (Z : (Nat → Nat → Int32) × Int32), Ag [(108, 111)] I I1 → (if I 114 131 = 0 then (if (6 : Int32) < Int32.ofInt (G 2 t : Int) then some (I1, (-4 : Int32)) else if I 114 130 = (20 : Int32) then some (I1, (-4 : Int32)) else if I 114 129 = (2147483647 : Int32) then some (I1, (-4 : Int32)) else gX12_write_l92 σ J R FUx I1 (Int32.ofInt (t : Int)) 0) else some (I1, (-3 : Int32))) = some Z → gX12_write σ I1 J R (Int32.ofInt (k : Int)) = some Z := fun I1 Z ag hZ => by
    unfold gX12_write
    dsimp only
    rw [tX12_isBinT (by omega), if_neg n10, if_pos g16, t41 (t := k) (by omega), ag 115 k rfl, show I 115 k = Int32.ofInt (t : Int) from e1, if_neg (by rw [i_eql (by omega)]; omega), if_pos (g41 (by omega)), t41 (t := t) (by omega), ag 116 t rfl, m1, if_neg c2, ag 114 131 rfl, if_pos (g41p (by omega)), ag 117 t rfl, m2, ag 114 130 rfl, ag 114 129 rfl]
    exact hZ
  have cz : ∀ Z, (if I 108 5 = 0 then (if (6 : Int32) < Int32.ofInt (G 2 t : Int) then some (I, (-4 : Int32)) else if (20 : Int32) ≤ I 108 4 then some (I, (-4 : Int32)) else if I 108 3 = (2147483647 : Int32) then some (I, (-4 : Int32)) else gX1_written σ I J R (Int32.ofInt (G 1 t : Int)) (some (G 0 t + 1))) else some (I, (-3 : Int32))) = some Z → gX1_written σ I J R (Int32.ofInt (G 1 t : Int)) (some (G 0 t + 1)) = some Z := fun Z hZ => by
    by_cases d1 : I 108 5 = 0
    · rw [if_pos d1] at hZ
      by_cases d2 : (6 : Int32) < Int32.ofInt (G 2 t : Int)
      · rw [if_pos d2] at hZ
        unfold gX1_written
        rw [if_pos d1, ob_some, if_pos w2, w1, show Int32.ofNat (G 2 t) = Int32.ofInt (G 2 t : Int) from rfl, if_pos d2]
        exact hZ
      · rw [if_neg d2] at hZ
        by_cases d3 : (20 : Int32) ≤ I 108 4
        · rw [if_pos d3] at hZ
          unfold gX1_written
          rw [if_pos d1, ob_some, if_pos w2, w1, show Int32.ofNat (G 2 t) = Int32.ofInt (G 2 t : Int) from rfl, if_neg d2, if_pos d3]
          exact hZ
        · rw [if_neg d3] at hZ
          by_cases d4 : I 108 3 = (2147483647 : Int32)
          · rw [if_pos d4] at hZ
            unfold gX1_written
            rw [if_pos d1, ob_some, if_pos w2, w1, show Int32.ofNat (G 2 t) = Int32.ofInt (G 2 t : Int) from rfl, if_neg d2, if_neg d3, if_pos d4]
            exact hZ
          · rw [if_neg d4] at hZ
            exact hZ
    · rw [if_neg d1] at hZ
      unfold gX1_written
      rw [if_neg d1]
      exact hZ
  by_cases d1 : I 114 131 = 0
  case neg =>
    exact tt (I, -3) (I, -3) (cls _ (cz _ (by rw [if_neg (by rw [h.e4]; exact d1)]))) (mdl I _ Ag.rf (by rw [if_neg d1])) ⟨rfl, hs, h, Ag.rf⟩
  by_cases d2 : (6 : Int32) < Int32.ofInt (G 2 t : Int)
  · exact tt (I, -4) (I, -4) (cls _ (cz _ (by rw [if_pos (by rw [h.e4]; exact d1), if_pos d2]))) (mdl I _ Ag.rf (by rw [if_pos d1, if_pos d2])) ⟨rfl, hs, h, Ag.rf⟩
  by_cases d3 : I 114 130 = 20
  · exact tt (I, -4) (I, -4) (cls _ (cz _ (by rw [if_pos (by rw [h.e4]; exact d1), if_neg d2, if_pos (by rw [h.e3, d3]; decide)]))) (mdl I _ Ag.rf (by rw [if_pos d1, if_neg d2, if_pos d3])) ⟨rfl, hs, h, Ag.rf⟩
  have d3' : ¬ (20 : Int32) ≤ I 108 4 := by
    obtain ⟨v, v1, v2, v3⟩ := h.e7
    rw [v3, i_eql (by omega)] at d3
    rw [h.e3, v3, i_ler (by omega)]
    omega
  by_cases d4 : I 114 129 = 2147483647
  · exact tt (I, -4) (I, -4) (cls _ (cz _ (by rw [if_pos (by rw [h.e4]; exact d1), if_neg d2, if_neg d3', if_pos (by rw [h.e2]; exact d4)]))) (mdl I _ Ag.rf (by rw [if_pos d1, if_neg d2, if_neg d3, if_pos d4])) ⟨rfl, hs, h, Ag.rf⟩
  have z6 : G 2 t ≤ 6 := by
    rw [i_ltr (by omega)] at d2
    omega
  obtain ⟨X, x1, Y, x2, x3, x4, x5, x6⟩ := wrM (σ := σ) (I := I) (J := J) (R := R) (a := G 0 t + 1) (t := t) (s := G 3 t) (z := G 2 t) (l := Int32.ofInt (G 1 t : Int)) (C := fun k => C (G 3 t + k)) hS h hs w2 w1 z6 (fun k hk => (w7 k hk).1) (by omega) m1 ⟨(G 1 t : Int), by omega, by omega, rfl⟩ m2 m3 (by omega) (fun k hk => (w7 k hk).2) d1 d3 d4
  have aX : Ag [(108, 111)] I X.1 := (aX1_written X x1).mv rfl
  refine tt X Y (cls _ x1) (mdl X.1 _ aX ?_) ⟨x3, x4, x5, x6⟩
  rw [if_pos d1, if_neg d2, if_neg d3, if_neg d4]
  exact x2
