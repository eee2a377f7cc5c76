/-! ===== shares: the call ===== -/
theorem s98 {G : Nat → Nat → Nat} {C : Nat → Int64} {N : Nat → Nat → Int32} {σ : Shp} {I : Nat → Nat → Int32} {R : Nat → Nat → Option Nat} {x : Nat} {x2 x3 : Int32} (hn' : 198 ≤ nxx σ ∧ nxx σ ≤ 900000) (hz : G 2 x ≤ 40) (x1 : 1 ≤ x) (x2' : x ≤ G 10 0) (f : G 1 x = 4) : ∀ (u k n : Nat) (J : Nat → Nat → Int64), u < n → k + u = G 2 x → TCl G C N σ I J R → (∀ q, q < k → J 113 q = C (G 3 x + q)) → ∃ J', Ag [(113, 114)] J J' ∧ (∀ q, q < G 2 x → J' 113 q = C (G 3 x + q)) ∧ gX11_shares_l98 n σ I J R x2 x3 (some (G 0 x)) (Int32.ofInt (G 2 x : Nat)) (Int32.ofInt k) = (gX11_newRow σ I R 5 (Int32.ofInt (G 2 x : Nat))).bind fun p => gX11_shares_b133 p.1 p.2.1 J' p.2.2.1 x2 x3 (Int32.ofInt (G 2 x : Nat)) p.2.2.2 := by
  have en : nC (G 1 x) (G 2 x) = G 2 x := if_pos (by omega)
  intro u
  induction u with
  | zero =>
    intro k n J hn hk hc hq
    obtain ⟨n, rfl⟩ : ∃ m, n = m + 1 := ⟨n - 1, by omega⟩
    obtain rfl : k = G 2 x := by omega
    refine ⟨J, Ag.rf, hq, ?_⟩
    rw [gX11_shares_l98, if_pos (by rw [i_le (by omega) (by omega)]; omega)]
  | succ u ih =>
    intro k n J hn hk hc hq
    obtain ⟨n, rfl⟩ : ∃ m, n = m + 1 := ⟨n - 1, by omega⟩
    obtain ⟨p1, p2, p3, p4, p5, p6⟩ := cth_c hc x1 x2' (Or.inl (by omega))
    rw [en] at p4 p5
    have a : Ag [(113, 114)] J (u2 J 113 k (C (G 3 x + k))) := Ag.st Ag.rf rfl
    obtain ⟨J', r1, r2, r3⟩ := ih (k + 1) n (u2 J 113 k (C (G 3 x + k))) (by omega) (by omega) (hc.ag hn' Ag.rf a Ag.rf rfl) (fun q h => by
      by_cases c : q = k
      · subst c
        rw [u2s ⟨rfl, rfl⟩]
      · rw [u2n (by omega)]
        exact hq q (by omega))
    refine ⟨J', a.tr r1, r2, ?_⟩
    rw [← r3, gX11_shares_l98, if_neg (by rw [i_le (by omega) (by omega)]; omega), ob_some, if_pos p1, p2, ob_some, if_pos p3, p4, if_pos (gL (by omega) (by omega)), if_pos (g4h (by omega)), t41 (by omega), p5 k (by omega)]
    dsimp only
    rw [iadd1]
theorem m207 {G : Nat → Nat → Nat} {C : Nat → Int64} {N : Nat → Nat → Int32} {σ : Shp} {I : Nat → Nat → Int32} {R : Nat → Nat → Option Nat} {x y z b : Nat} {i : Int} {o : Nat → Int64} (hi : 0 ≤ i ∧ i ≤ 15) (hx : x < 4100) (hy : y < 4100) (ez : G 2 x = z) (hz : z ≤ 40) (eb : G 3 y = b) (hb : b + z ≤ 164000) : ∀ (u k n : Nat) (J : Nat → Nat → Int64), u < n → k + u = z → TMo G (fl C b o k) N I J → (∀ q, q < z → J 184 q = o q) → ∃ J', gX12_shares_l207 σ R n I J (Int32.ofInt i) (Int32.ofInt x) (Int32.ofInt y) (Int32.ofInt k) = some (u2 I 115 i.toNat (Int32.ofInt y), J', 1) ∧ TMo G (fl C b o z) N I J' ∧ Ag [(119, 120)] J J' := by
  intro u
  induction u with
  | zero =>
    intro k n J hn hk hm hq
    obtain ⟨n, rfl⟩ : ∃ m, n = m + 1 := ⟨n - 1, by omega⟩
    obtain rfl : k = z := by omega
    have m2 := (hm.2.2.1 x hx).2.1
    refine ⟨J, ?_, hm, Ag.rf⟩
    rw [gX12_shares_l207, if_pos (g41 hx), t41 (by omega), m2, if_pos (by rw [i_le (by omega) (by omega)]; omega), if_pos (by rw [i_gd (by omega)]; exact id), i_tn (by omega)]
  | succ u ih =>
    intro k n J hn hk hm hq
    obtain ⟨n, rfl⟩ : ∃ m, n = m + 1 := ⟨n - 1, by omega⟩
    have m2 := (hm.2.2.1 x hx).2.1
    have m4 := (hm.2.2.1 y hy).2.2.1
    rw [eb] at m4
    have k2 := hm.setC (k := b + k) (v := o k)
    rw [fl_s] at k2
    obtain ⟨J', r1, r2, r3⟩ := ih (k + 1) n _ (by omega) (by omega) k2 (fun q h => by rw [u2n (by omega)]; exact hq q h)
    refine ⟨J', ?_, r2, Ag.tr (Ag.st Ag.rf rfl) r3⟩
    rw [← r1, gX12_shares_l207, if_pos (g41 hx), t41 (by omega), m2, if_neg (by rw [i_le (by omega) (by omega)]; omega), if_pos (g41 hy), if_pos (g4h (by omega)), t41 (t := y) (by omega), m4, iadd, if_pos (by rw [i_gd (by omega)]; exact id), t41 (by omega), t41 (by omega), hq k (by omega)]
    dsimp only
    rw [iadd1]
def WSh : List (Nat × Nat) := [(112, 114), (119, 120), (184, 187), (202, 1000000)]
def SOut (σ σ' : Shp) (I I' : Nat → Nat → Int32) (J J' : Nat → Nat → Int64) (R R' : Nat → Nat → Option Nat) : Prop := GScal I' ∧ GThing σ' I' J' R' ∧ Ag WT I I' ∧ Ag WSh J J' ∧ Ag WT R R' ∧ Grow σ σ'
theorem fo_k {f : Nat → Nat} {o o' : Nat → Int64} {z k : Nat} (h : k < z) : fo f o z k = fo f o' z k := by
  unfold fo
  rw [if_pos h, if_pos h]
theorem b133_r {σ : Shp} {I : Nat → Nat → Int32} {J J2 : Nat → Nat → Int64} {R : Nat → Nat → Option Nat} {x2 x6 : Int32} {i : Int} {c : Nat} (hi : 0 ≤ i ∧ i ≤ 15) (k1 : kdx σ c = 11) (e1 : R c 1 = some (c + 1)) (h : gX11_shareOut σ J (Int32.toInt64 x2) (some 113) x6 (some (c + 1)) (some 112) = some J2) : gX11_shares_b133 σ I J R x2 (Int32.ofInt i) x6 (some c) = some (σ, I, J2, u2 R 6 i.toNat (some c), 1) := by
  unfold gX11_shares_b133
  rw [ob_some, if_pos k1, e1, ob_some, h, ob_some, if_pos (by rw [i_gd (by omega)]; exact id), i_tn (by omega)]
theorem c_sharesK {G : Nat → Nat → Nat} {C : Nat → Int64} {N : Nat → Nat → Int32} {σ : Shp} {I : Nat → Nat → Int32} {J : Nat → Nat → Int64} {R : Nat → Nat → Option Nat} {i p : Int} {x j : Nat} (hS : Skel σ R) (hn : nxx σ + 200 ≤ 900000) (hs : GScal I) (hg : TSg G C N) (hc : TCl G C N σ I J R) (hm : TMo G C N I J) (c1 : 0 ≤ i ∧ i ≤ 15) (c2 : 0 ≤ p ∧ p ≤ 15) (hj : j ≤ 1000000000) (x1 : 1 ≤ x) (x2 : x ≤ G 10 0) (e1 : I 115 i.toNat = Int32.ofInt x) (e2 : R 6 i.toNat = some (G 0 x)) (f : G 1 x = 4) : Tot (gX11_shares σ I J R (Int32.ofInt i) (Int32.ofInt j) (Int32.ofInt p)) (fun t => Tot (gX12_shares t.1 t.2.1 t.2.2.1 t.2.2.2.1 (Int32.ofInt i) (Int32.ofInt j) (Int32.ofInt p)) (fun t2 => t.2.2.2.2 = t2.2.2 ∧ SOut σ t.1 I t2.1 J t2.2.1 R t.2.2.2.1)) := by
  have h198 := hS.1
  have hn2 : 198 ≤ nxx σ ∧ nxx σ ≤ 900000 := ⟨h198, by omega⟩
  have h40 := hg.1.1
  have h0 := hg.1
  obtain ⟨F, hF⟩ : ∃ F, FUx = F := ⟨_, rfl⟩
  have hF' : F = 2000000 := by rw [← hF, FUx_eq]
  obtain ⟨p1, p2, pk3, p4, p5, p6⟩ := cth_c hc x1 x2 (Or.inl (by omega))
  have en : nC (G 1 x) (G 2 x) = G 2 x := if_pos (by omega)
  rw [en] at p4 p5
  have hz := (hg.2.2.1 x x1 x2).2.2.2.1 (by omega)
  have sx := (hg.2.2.1 x x1 x2).2.2.2.2.2.2.2.1 (Or.inl (by omega))
  rw [en] at sx
  have fx := hg.2.2.2.2.2.2.2 x x1 x2 (Or.inl f)
  have hv : ∀ k, k < G 2 x → -2147483648 ≤ (Int64.toInt32 (C (G 3 x + k))).toInt ∧ (Int64.toInt32 (C (G 3 x + k))).toInt < 2147483648 ∧ C (G 3 x + k) = Int64.ofInt (Int64.toInt32 (C (G 3 x + k))).toInt := fun k hk => by
    obtain ⟨v, h1, h2, e⟩ := rep (Int64.toInt32 (C (G 3 x + k)))
    rw [e, ti h1 h2]
    refine ⟨h1, h2, ?_⟩
    rw [← fx k hk, e, i_w ⟨h1, h2⟩]
  have hvb : ∀ k, (Int64.toInt32 (C (G 3 x + k))).toInt.toNat ≤ 2147483647 := fun k => by
    obtain ⟨v, h1, h2, e⟩ := rep (Int64.toInt32 (C (G 3 x + k)))
    rw [e, ti h1 h2]
    omega
  generalize hV : (fun k => (Int64.toInt32 (C (G 3 x + k))).toInt) = v at *
  have hv' : ∀ k, k < G 2 x → -2147483648 ≤ v k ∧ v k < 2147483648 ∧ C (G 3 x + k) = Int64.ofInt (v k) := fun k hk => by
    rw [← hV]; exact hv k hk
  have hvb' : ∀ k, (v k).toNat ≤ 2147483647 := fun k => by rw [← hV]; exact hvb k
  have gi : ¬ (Int32.ofInt i < 0 ∨ 16 ≤ Int32.toNatClampNeg (Int32.ofInt i)) := by rw [i_gd (by omega)]; exact id
  have gf : gX11_takenFault σ I (some (G 0 x)) 4 = some 0 := by
    unfold gX11_takenFault
    rw [k_gfT p1 (by rw [p6, f]; rfl), ob_some, if_neg n10]
    rfl
  have mn : fXM_minI (Int32.ofInt (G 2 x : Nat)) 40 = Int32.ofInt (G 2 x : Nat) := by
    unfold fXM_minI
    by_cases c : G 2 x < 40
    · simp (disch := omega) only [fail_r, no_r, nob_r, fI_o, Nat.reduceLeDiff, ↓reduceIte, not_true_eq_false, not_false_eq_true, false_imp_iff, true_imp_iff, and_true, true_and, and_self, implies_true, false_or, or_false, true_or, or_true, d10, d01, d00, d11, g_tn, Tot_some, Tot_none, Tot_ite, Tot_bind, ob_some, onl_n, onl_s, nat32, Int.toNat_natCast, i_add, i_sub, i_mul, i_addl, i_addr, i_subl, i_subr, i_mulr, i_addn, i_gd, i_tn, i_w, i_ltlT, i_ltlF, i_ltrT, i_ltrF, i_lelT, i_lelF, i_lerT, i_lerF, i_eqlT, i_eqlF, i_eqrT, i_eqrF, i_ltnT, i_ltnF, i_lenT, i_lenF, i_eqnT, i_eqnF, i_ltT, i_ltF, i_leT, i_leF, i_eqT, i_eqF, j_ltlT, j_ltlF, j_ltrT, j_ltrF, j_lelT, j_lelF, j_lerT, j_lerF, j_eqlT, j_eqlF, j_ltT, j_ltF, j_leT, j_leF, j_eqT, j_eqF, i_mull, l_tn, l_lt0, l_ne0, nleF, tX11_isStockT, tX11_isStockF, tX11_isBinT, tX11_isBinF, tX11_isPlanT, tX11_isPlanF, tX11_isValveT, tX11_isValveF, tX11_isLaneT, tX11_isLaneF, tX11_isGridFormT, tX11_isGridFormF, tX11_isFormT, tX11_isFormF, tX11_isTrayFormT, tX11_isTrayFormF, tX11_isPlacesFormT, tX11_isPlacesFormF, tX11_isTableT, tX11_isTableF, tX11_isProbeT, tX11_isProbeF, tX11_isHouseT, tX11_isHouseF, tX11_isPestT, tX11_isPestF, tX11_isStageT, tX11_isStageF, tX11_isPartT, tX11_isPartF, tX12_isBinT, tX12_isBinF, tX12_isTableT, tX12_isTableF, tX12_inT, tX12_inF, tX12_innT, tX12_innF, tX12_ingT, tX12_ingF, tX12_isStageT, tX12_isStageF, tX1_isByteT, tX1_isByteF]
    · rw [show G 2 x = 40 by omega]; decide
  have cd := canS hg hc x1 x2 f hv' (G 2 x) 0 F (by omega) (by omega) (fun q h => by omega)
  have clh : gX11_shares σ I J R (Int32.ofInt i) (Int32.ofInt j) (Int32.ofInt p) = (gX11_canShare_l4 σ J R F (some (G 0 x)) 0 0).bind fun r16 => if r16 = 0 then some (σ, I, J, R, -3) else (gX11_isFull I).bind fun r18 => if r18 = 0 then gX11_shares_l98 F σ I J R (Int32.ofInt j) (Int32.ofInt p) (some (G 0 x)) (Int32.ofInt (G 2 x : Nat)) 0 else some (σ, I, J, R, -4) := by
    unfold gX11_shares gX11_canShare
    rw [hF, tX11_isBinT c1, if_neg n10, tX11_isBinT c2, if_neg n10, if_neg (by rw [i_ltl (by omega)]; omega), if_pos (by rw [i_lel (by omega)]; omega), if_pos gi, i_tn (by omega), e2]
    dsimp only
    rw [gf, ob_some, if_pos rfl]
    simp only [onl_s]
    rw [if_pos p1, p2, ob_some, if_pos pk3, p4, nat32, mn]
  have mlh : ∀ (σ9 : Shp) (I9 : Nat → Nat → Int32) (J9 : Nat → Nat → Int64) (R9 : Nat → Nat → Option Nat), I9 115 i.toNat = Int32.ofInt x → I9 116 x = Int32.ofInt (4 : Nat) → gX12_shares σ9 I9 J9 R9 (Int32.ofInt i) (Int32.ofInt j) (Int32.ofInt p) = gX12_shares_l76 σ9 R9 F I9 J9 (Int32.ofInt j) (Int32.ofInt p) (Int32.ofInt x) 1 0 0 := by
    intro σ9 I9 J9 R9 q1 q2
    have e : fX12_in (Int32.ofInt (j : Int)) 0 1000000000 = 1 := by simp (disch := omega) only [fail_r, no_r, nob_r, fI_o, Nat.reduceLeDiff, ↓reduceIte, not_true_eq_false, not_false_eq_true, false_imp_iff, true_imp_iff, and_true, true_and, and_self, implies_true, false_or, or_false, true_or, or_true, d10, d01, d00, d11, g_tn, Tot_some, Tot_none, Tot_ite, Tot_bind, ob_some, onl_n, onl_s, nat32, Int.toNat_natCast, i_add, i_sub, i_mul, i_addl, i_addr, i_subl, i_subr, i_mulr, i_addn, i_gd, i_tn, i_w, i_ltlT, i_ltlF, i_ltrT, i_ltrF, i_lelT, i_lelF, i_lerT, i_lerF, i_eqlT, i_eqlF, i_eqrT, i_eqrF, i_ltnT, i_ltnF, i_lenT, i_lenF, i_eqnT, i_eqnF, i_ltT, i_ltF, i_leT, i_leF, i_eqT, i_eqF, j_ltlT, j_ltlF, j_ltrT, j_ltrF, j_lelT, j_lelF, j_lerT, j_lerF, j_eqlT, j_eqlF, j_ltT, j_ltF, j_leT, j_leF, j_eqT, j_eqF, i_mull, l_tn, l_lt0, l_ne0, nleF, tX11_isStockT, tX11_isStockF, tX11_isBinT, tX11_isBinF, tX11_isPlanT, tX11_isPlanF, tX11_isValveT, tX11_isValveF, tX11_isLaneT, tX11_isLaneF, tX11_isGridFormT, tX11_isGridFormF, tX11_isFormT, tX11_isFormF, tX11_isTrayFormT, tX11_isTrayFormF, tX11_isPlacesFormT, tX11_isPlacesFormF, tX11_isTableT, tX11_isTableF, tX11_isProbeT, tX11_isProbeF, tX11_isHouseT, tX11_isHouseF, tX11_isPestT, tX11_isPestF, tX11_isStageT, tX11_isStageF, tX11_isPartT, tX11_isPartF, tX12_isBinT, tX12_isBinF, tX12_isTableT, tX12_isTableF, tX12_inT, tX12_inF, tX12_innT, tX12_innF, tX12_ingT, tX12_ingF, tX12_isStageT, tX12_isStageF, tX1_isByteT, tX1_isByteF]
    unfold gX12_shares
    rw [hF, tX12_isBinT c1, if_neg n10, tX12_isBinT c2, if_neg n10, e, if_neg n10, if_pos gi, i_tn (by omega), q1]
    dsimp only
    rw [if_neg (by rw [i_eql (by omega)]; omega), if_pos (g41 (by omega)), t41 (by omega), q2, if_pos (by rfl)]
  have m1 := (hm.2.2.1 x (by omega)).1
  rw [f] at m1
  rcases cd with ⟨d1, d2, d3⟩ | ⟨d1, d2⟩
  case inr =>
    obtain ⟨J', r1, r2, r3, r4⟩ := shW_M (σ := σ) (R := R) (F := F) (x2 := Int32.ofInt j) (x3 := Int32.ofInt p) (show x < 4100 by omega) hz (by omega) hv' hF (G 2 x) 0 F J 1 0 (by omega) (by omega) hm (fun q h => by omega) (Or.inl ⟨rfl, fun q h => by omega, rfl⟩)
    rcases r4 with ⟨q1, q2, -⟩ | ⟨-, q3⟩
    · exact absurd ⟨q1, q2⟩ d2
    refine tt (σ, I, J, R, -3) (I, J', -3) ?_ ?_ ⟨rfl, hs, ⟨G, C, N, hg, hc.ag hn2 Ag.rf r1 Ag.rf rfl, r3⟩, Ag.rf, r1.mv rfl, Ag.rf, Grow.rf⟩
    · rw [clh]
      have d1' : gX11_canShare_l4 σ J R F (some (G 0 x)) 0 0 = some 0 := d1
      rw [d1', ob_some, if_pos rfl]
    · show gX12_shares σ I J R _ _ _ = _
      rw [mlh _ _ _ _ e1 m1]
      exact q3
  have d1' : gX11_canShare_l4 σ J R F (some (G 0 x)) 0 0 = some 1 := d1
  rw [d1', ob_some, if_neg n10] at clh
  rcases full_eq hs hm.1.1 h40 with ⟨f1, f2⟩ | ⟨f1, f2, f3⟩
  · obtain ⟨J', r1, r2, r3, r4⟩ := shW_M (σ := σ) (R := R) (F := F) (x2 := Int32.ofInt j) (x3 := Int32.ofInt p) (show x < 4100 by omega) hz (by omega) hv' hF (G 2 x) 0 F J 1 0 (by omega) (by omega) hm (fun q h => by omega) (Or.inl ⟨rfl, fun q h => by omega, rfl⟩)
    rcases r4 with ⟨-, -, q3⟩ | ⟨q3, -⟩
    case inr => exact absurd ⟨d2, d3⟩ q3
    refine tt (σ, I, J, R, -4) (I, J', -4) ?_ ?_ ⟨rfl, hs, ⟨G, C, N, hg, hc.ag hn2 Ag.rf r1 Ag.rf rfl, r3⟩, Ag.rf, r1.mv rfl, Ag.rf, Grow.rf⟩
    · rw [clh, f1, ob_some, if_neg n10]
    · show gX12_shares σ I J R _ _ _ = _
      rw [mlh _ _ _ _ e1 m1]
      have q3' : gX12_shares_l76 σ R F I J (Int32.ofInt j) (Int32.ofInt p) (Int32.ofInt x) 1 0 0 = _ := q3
      rw [q3', f2, ob_some, if_neg n10]
  have z1 : 1 ≤ G 2 x := by
    rcases Nat.eq_zero_or_pos (G 2 x) with h | h
    · rw [h] at d3
      exact absurd d3 (by show ¬ 1 ≤ 0; omega)
    · exact h
  -- the class
  obtain ⟨J1, a1, a2, a3⟩ := s98 (x2 := Int32.ofInt j) (x3 := Int32.ofInt p) hn2 hz x1 x2 f (G 2 x) 0 F J (by omega) (by omega) hc (fun q h => by omega)
  have n1 := newRow_r (σ := σ) (I := I) (R := R) (x := 5) (z := G 2 x) (by omega)
  have S1 := pX11_newRow hS n1
  have k1 := cl_row (f := 5) (z := G 2 x) hS (by omega) hg hc (by omega)
  have g1 := hg.new (N' := N) (a := nxx σ + 4) (f := 5) (z := G 2 x) (k := 0) (d := 0) (l := 0) (q := 0) (fun _ _ _ => rfl) (by omega) (by omega) (by omega) (by omega) (by omega) (by omega) (by omega) (by omega) (by omega) (by omega) (fun _ => ⟨rfl, rfl⟩) (fun _ r => by omega)
  have y0 : gNew G (nxx σ + 4) 5 (G 2 x) 0 0 0 0 10 0 = G 10 0 + 1 := rfl
  have y3 : gNew G (nxx σ + 4) 5 (G 2 x) 0 0 0 0 3 (G 10 0 + 1) = G 10 1 := by rw [gNs, if_neg (by omega), if_neg (by omega)]
  have yx : ∀ a, a ≠ 10 → gNew G (nxx σ + 4) 5 (G 2 x) 0 0 0 0 a x = G a x := fun a ha => gNo (by omega) ha
  have en5 : nC 5 (G 2 x) = G 2 x := rfl
  have hw1 : ∀ k, k < G 2 x → J1 113 k = Int64.ofInt ((v k).toNat : Int) := fun k hk => by
    rw [a2 k hk, (hv' k hk).2.2, show ((v k).toNat : Int) = v k by have := d2 k hk; omega]
  have hb : ∀ k, j * (v k).toNat < 4611686018427387904 := fun k => by
    have := Nat.mul_le_mul hj (hvb' k)
    omega
  have hSS : 1 ≤ sm (fun k => (v k).toNat) (G 2 x) ∧ sm (fun k => (v k).toNat) (G 2 x) < 4611686018427387904 := ⟨d3, by
    have := sm_le hvb' (G 2 x)
    omega⟩
  have so := sO_C (σ := shR σ (G 2 x) 0) (J := J1) (W := 113) (O := nxx σ + 4 + 1) (Q := 112) (z := G 2 x) (n := j) (w := fun k => (v k).toNat) (by omega) (by omega) (by omega) (S1.k 113 21 (by decide) rfl) (by rw [shR_k, if_neg (by omega), if_pos (by omega)]) (S1.k 112 21 (by decide) rfl) (S1.l 113 40 (by decide) rfl) (by rw [shR_l, if_neg (by omega), if_pos (by omega)]) (S1.l 112 40 (by decide) rfl) (by omega) (by omega) (by omega) z1 hw1 hb hSS (by omega)
  generalize hL : j - sq j (sm (fun k => (v k).toNat) (G 2 x)) (fun k => (v k).toNat) (G 2 x) = L at *
  generalize hf1 : (fun k => j * (v k).toNat / sm (fun k => (v k).toNat) (G 2 x)) = q1 at *
  generalize hf2 : (fun k => j * (v k).toNat % sm (fun k => (v k).toNat) (G 2 x)) = q2 at *
  generalize hP1 : p3 (G 2 x) L (fo q1 (J1 (nxx σ + 4 + 1)) (G 2 x)) (fo q2 (J1 112) (G 2 x)) = P1 at *
  have k11 : kdx (shR σ (G 2 x) 0) (nxx σ + 4) = 11 := by rw [shR_k, if_neg (by omega), if_neg (by omega), if_pos rfl]
  have b1 := b133_r (I := u2 (u2 I 4 12 (I 4 12 + 1)) (nxx σ + 4) 0 5) (R := u2 (u2 R (nxx σ + 4) 1 (some (nxx σ + 4 + 1))) (nxx σ + 4) 2 (some (nxx σ + 4 + 2))) (x2 := Int32.ofInt j) (x6 := Int32.ofInt (G 2 x : Nat)) (i := p) c2 k11 (by rw [u2n (by omega), u2_self]) (by rw [i_w (by omega)]; exact so)
  have kf : TCl (gNew G (nxx σ + 4) 5 (G 2 x) 0 0 0 0) (fl C (G 10 1) P1.1 (G 2 x)) N (shR σ (G 2 x) 0) (u2 (u2 I 4 12 (I 4 12 + 1)) (nxx σ + 4) 0 5) (rw2 J1 (nxx σ + 4 + 1) 112 P1.1 P1.2) (u2 (u2 R (nxx σ + 4) 1 (some (nxx σ + 4 + 1))) (nxx σ + 4) 2 (some (nxx σ + 4 + 2))) := by
    refine TCl.fill g1 k1 ⟨by rw [shR_n]; omega, by rw [shR_n]; omega⟩ (y := G 10 0 + 1) (by omega) (by rw [y0]; omega) (fun a h1 h2 h3 => ?_) (fun k hk => ?_) (fun q hq => ?_)
    · rw [gNa] at h3
      funext k
      rw [rw2_n h3 (by omega)]
      exact a1 a k (by rw [key_o (by omega) (by omega)]; exact disW_no (C := [(202, 1000000)]) rfl (inW_iff.mpr ⟨(202, 1000000), List.mem_singleton.mpr rfl, h1, h2⟩))
    · rw [gNf, gNz, en5] at hk
      rw [gNa, y3, rw2_O]
      unfold fl
      rw [if_pos (by omega), show G 10 1 + k - G 10 1 = k by omega]
    · rw [gNf, gNz, en5, y3] at hq
      unfold fl
      rw [if_neg hq]
  have gf1 : TSg (gNew G (nxx σ + 4) 5 (G 2 x) 0 0 0 0) (fl C (G 10 1) P1.1 (G 2 x)) N := by
    refine g1.cC (fun k hk => ?_) (fun t t1 t2 ht k hk => ?_)
    · rw [gN1, en5] at hk
      unfold fl
      rw [if_neg (by omega)]
      exact hg.2.2.2.2.2.1 k (by omega)
    · rw [y0] at t2
      by_cases c : t = G 10 0 + 1
      · subst c
        rw [gNf] at ht
        omega
      · rw [gNo c (by omega)] at ht hk ⊢
        have st := (hg.2.2.1 t t1 (by omega)).2.2.2.2.2.2.2.1 (Or.inl (by omega))
        have nt : nC (G 1 t) (G 2 t) = G 2 t := if_pos (by omega)
        rw [nt] at st
        unfold fl
        rw [if_neg (by omega)]
        exact hg.2.2.2.2.2.2.2 t t1 (by omega) ht k hk
  have aI : Ag [(202, 1000000), (2000012, 2000013)] I (u2 (u2 I 4 12 (I 4 12 + 1)) (nxx σ + 4) 0 5) := Ag.st (Ag.st Ag.rf rfl) (far_in (by omega) (by omega) rfl)
  have aJ : Ag [(112, 114), (202, 1000000)] J (rw2 J1 (nxx σ + 4 + 1) 112 P1.1 P1.2) := fun a k ha => by
    have e1 : a ≠ nxx σ + 4 + 1 := fun e => by
      rw [e, far_in (by omega) (by omega) rfl] at ha
      cases ha
    have e2 : a ≠ 112 := fun e => by
      rw [e] at ha
      exact absurd ha (by rw [show inW [(112, 114), (202, 1000000)] (key 112 k) = true from rfl]; decide)
    rw [rw2_n e1 e2]
    exact (a1.mv (M := [(112, 114), (202, 1000000)]) rfl) a k ha
  have aR : Ag [(202, 1000000)] R (u2 (u2 R (nxx σ + 4) 1 (some (nxx σ + 4 + 1))) (nxx σ + 4) 2 (some (nxx σ + 4 + 2))) := Ag.st (Ag.st Ag.rf (far_in (by omega) (by omega) rfl)) (far_in (by omega) (by omega) rfl)
  have cl : gX11_shares σ I J R (Int32.ofInt i) (Int32.ofInt j) (Int32.ofInt p) = some (shR σ (G 2 x) 0, u2 (u2 I 4 12 (I 4 12 + 1)) (nxx σ + 4) 0 5, rw2 J1 (nxx σ + 4 + 1) 112 P1.1 P1.2, u2 (u2 (u2 R (nxx σ + 4) 1 (some (nxx σ + 4 + 1))) (nxx σ + 4) 2 (some (nxx σ + 4 + 2))) 6 p.toNat (some (nxx σ + 4)), 1) := by
    rw [clh, f1, ob_some, if_pos rfl]
    have a3' : gX11_shares_l98 F σ I J R (Int32.ofInt j) (Int32.ofInt p) (some (G 0 x)) (Int32.ofInt (G 2 x : Nat)) 0 = _ := a3
    rw [a3', n1, ob_some]
    exact b1
  -- the model
  generalize hI1 : u2 (u2 I 4 12 (I 4 12 + 1)) (nxx σ + 4) 0 5 = I1 at *
  generalize hJ2 : rw2 J1 (nxx σ + 4 + 1) 112 P1.1 P1.2 = J2 at *
  generalize hR1 : u2 (u2 R (nxx σ + 4) 1 (some (nxx σ + 4 + 1))) (nxx σ + 4) 2 (some (nxx σ + 4 + 2)) = R1 at *
  have M0 : TMo G C N I1 J2 := hm.kp (aI.kp rfl) (aJ.kp rfl)
  obtain ⟨J3, s1, s2, s3, s4⟩ := shW_M (σ := shR σ (G 2 x) 0) (R := u2 R1 6 p.toNat (some (nxx σ + 4))) (F := F) (x2 := Int32.ofInt j) (x3 := Int32.ofInt p) (show x < 4100 by omega) hz (by omega) hv' hF (G 2 x) 0 F J2 1 0 (by omega) (by omega) M0 (fun q h => by omega) (Or.inl ⟨rfl, fun q h => by omega, rfl⟩)
  rcases s4 with ⟨-, -, s5⟩ | ⟨s5, -⟩
  case inr => exact absurd ⟨d2, d3⟩ s5
  have hw3 : ∀ k, k < G 2 x → J3 186 k = Int64.ofInt ((v k).toNat : Int) := fun k hk => by
    rw [s2 k hk, (hv' k hk).2.2, show ((v k).toNat : Int) = v k by have := d2 k hk; omega]
  have pm := sO_M (σ := shR σ (G 2 x) 0) (R := u2 R1 6 p.toNat (some (nxx σ + 4))) (J := J3) (n := j) (w := fun k => (v k).toNat) ⟨z1, hz⟩ hw3 hb hSS (by omega)
  rw [hL, hf1, hf2] at pm
  have pe : ∀ k, k < G 2 x → (p3 (G 2 x) L (fo q1 (J3 184) (G 2 x)) (fo q2 (J3 185) (G 2 x))).1 k = P1.1 k := fun k hk => by
    rw [← hP1]
    exact p3_eq z1 L _ _ _ _ (fun k hk => fo_k hk) (fun k hk => fo_k hk) k hk
  have n3 := mrow_r (I := I1) (m := G 10 0) (c := G 10 1) (f := 5) (z := G 2 x) M0.1.1 M0.1.2.1 (by omega) (by omega) (by omega)
  have n4 : gX12_isFull I1 = some 0 := by rw [← f2]; exact full_o (aI 114 1 rfl) (aI 114 0 rfl)
  have a4 : Ag [(184, 186)] J3 (rw2 J3 184 185 (p3 (G 2 x) L (fo q1 (J3 184) (G 2 x)) (fo q2 (J3 185) (G 2 x))).1 (p3 (G 2 x) L (fo q1 (J3 184) (G 2 x)) (fo q2 (J3 185) (G 2 x))).2) := fun a k ha => by
    have e1 : a ≠ 184 := fun e => by
      rw [e] at ha
      exact absurd ha (by rw [show inW [(184, 186)] (key 184 k) = true from rfl]; decide)
    have e2 : a ≠ 185 := fun e => by
      rw [e] at ha
      exact absurd ha (by rw [show inW [(184, 186)] (key 185 k) = true from rfl]; decide)
    exact rw2_n e1 e2
  have M1 := mo_row (a := nxx σ + 4) (f := 5) (z := G 2 x) hg (s3.kp Kp.rf (a4.kp rfl)) (by omega) (by omega)
  obtain ⟨J5, t1, t2, t3⟩ := m207 (C := C) (b := G 10 1) (o := P1.1) (z := G 2 x) (σ := shR σ (G 2 x) 0) (R := u2 R1 6 p.toNat (some (nxx σ + 4))) (x := x) (y := G 10 0 + 1) (i := p) c2 (by omega) (by omega) (yx 2 (by omega)) hz y3 (by omega) (G 2 x) 0 F _ (by omega) (by omega) (by rw [fl_0]; exact M1) (fun q hq => by rw [rw2_O]; exact pe q hq)
  have ei : ((G 10 0 + 1 : Nat) : Int) = (G 10 0 : Int) + 1 := by omega
  have ml : gX12_shares (shR σ (G 2 x) 0) I1 J2 (u2 R1 6 p.toNat (some (nxx σ + 4))) (Int32.ofInt i) (Int32.ofInt j) (Int32.ofInt p) = some (u2 (moR I1 (G 10 0) (G 10 1) 5 (G 2 x)) 115 p.toNat (Int32.ofInt ((G 10 0 + 1 : Nat) : Int)), J5, 1) := by
    rw [mlh _ _ _ _ (by rw [aI 115 _ rfl]; exact e1) (by rw [aI 116 _ rfl]; exact m1)]
    have s5' : gX12_shares_l76 (shR σ (G 2 x) 0) (u2 R1 6 p.toNat (some (nxx σ + 4))) F I1 J2 (Int32.ofInt j) (Int32.ofInt p) (Int32.ofInt x) 1 0 0 = _ := s5
    rw [s5', n4, ob_some, if_pos rfl, i_w (by omega), pm, ob_some]
    have n3' : gX12_newRow I1 5 (Int32.ofInt (G 2 x : Nat)) = some (moR I1 (G 10 0) (G 10 1) 5 (G 2 x), Int32.ofInt ((G 10 0 : Int) + 1)) := n3
    rw [n3', ob_some, ← ei]
    exact t1
  have k2 := kf.setB (b := p.toNat) (t := G 10 0 + 1) (by rw [shR_n]; omega)
  rw [pn_1 (by omega), gNa] at k2
  have m2 := t2.setB (b := p.toNat) (t := G 10 0 + 1)
  have aM : Ag [(115, 122), (125, 127), (1000000, 1000001), (1000007, 1000008), (1000009, 1000010), (1000019, 1000020)] I1 (u2 (moR I1 (G 10 0) (G 10 1) 5 (G 2 x)) 115 p.toNat (Int32.ofInt ((G 10 0 + 1 : Nat) : Int))) := by
    unfold moR
    exact Ag.st (Ag.st (Ag.st (Ag.st (Ag.st (Ag.st Ag.rf rfl) rfl) rfl) rfl) rfl) rfl
  have aJ2 : Ag [(119, 120), (184, 187)] J2 J5 := Ag.tr (Ag.tr (s1.mv rfl) (a4.mv rfl)) (t3.mv rfl)
  have gB := gf1.setB (b := p.toNat) (t := G 10 0 + 1) (by rw [y0]; omega)
  have kA := k2.ag ⟨by rw [shR_n]; omega, by rw [shR_n]; omega⟩ (W := [(115, 122), (125, 127), (184, 187), (1000000, 1000001), (1000007, 1000008), (1000009, 1000010), (1000019, 1000020)]) (aM.mv rfl) (aJ2.mv rfl) Ag.rf rfl
  have gs : GScal (u2 (moR I1 (G 10 0) (G 10 1) 5 (G 2 x)) 115 p.toNat (Int32.ofInt ((G 10 0 + 1 : Nat) : Int))) := by
    refine ⟨?_, ?_, ?_, ?_, ?_, ?_, ?_, ?_⟩
    · rw [kA.1, m2.1.1]
    · rw [aM 4 13 rfl, aI 4 13 rfl, aM 114 1 rfl, aI 114 1 rfl]; exact hs.e1
    · rw [aM 4 14 rfl, aI 4 14 rfl, aM 114 2 rfl, aI 114 2 rfl]; exact hs.e2
    · rw [aM 4 15 rfl, aI 4 15 rfl, aM 114 18 rfl, aI 114 18 rfl]; exact hs.e3
    · rw [aM 4 16 rfl, aI 4 16 rfl, u2n (by omega)]
      unfold moR
      simp (disch := omega) only [u2n, u2s]
      rw [aI 114 19 rfl]; exact hs.e4
    · rw [aM 4 17 rfl, aI 4 17 rfl, aM 114 22 rfl, aI 114 22 rfl]; exact hs.e5
    · rw [aM 4 18 rfl, aI 4 18 rfl, aM 114 25 rfl, aI 114 25 rfl]; exact hs.e6
    · rw [aM 4 19 rfl, aI 4 19 rfl, aM 114 32 rfl, aI 114 32 rfl]; exact hs.e7
  exact tt _ _ cl ml ⟨rfl, gs, ⟨_, _, N, gB, kA, m2⟩, Ag.tr (aI.mv rfl) (aM.mv rfl), Ag.tr (aJ.mv rfl) (aJ2.mv rfl), Ag.st (aR.mv rfl) rfl, ⟨by show nxx σ ≤ nxx (shR σ (G 2 x) 0); rw [shR_n]; omega, by show nxx (shR σ (G 2 x) 0) ≤ _; rw [shR_n]; omega, by show slx (shR σ (G 2 x) 0) ≤ _; rw [shR_s]; omega⟩⟩
