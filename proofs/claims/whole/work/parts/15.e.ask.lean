/-! ===== ask: the model's answer, the call ===== -/
theorem szS5 {G : Nat → Nat → Nat} {C : Nat → Int64} {N : Nat → Nat → Int32} (hg : TSg G C N) {t : Nat} (t1 : 1 ≤ t) (t2 : t ≤ G 10 0) (f : G 1 t = 16) : (szS G N 5 t).1.length ≤ 77 := szS_len hg 4 t t2 (fun _ => f) (hg.2.2.1 t t1 t2).2.2.1
theorem thS_len {G : Nat → Nat → Nat} {C : Nat → Int64} {N : Nat → Nat → Int32} (hg : TSg G C N) {t : Nat} (t1 : 1 ≤ t) (t2 : t ≤ G 10 0) (f : G 1 t = 16) : (thS G N t).1.length ≤ 79 := by
  have := szS5 hg t1 t2 f
  unfold thS
  split
  · show 1 ≤ 79; omega
  · split
    · simp only [List.length_append, List.length_cons, List.length_nil]; omega
    · simp only [List.length_append, List.length_cons, List.length_nil]; omega
theorem tlS_len {G : Nat → Nat → Nat} {C : Nat → Int64} {N : Nat → Nat → Int32} (hg : TSg G C N) {t w : Nat} (t2 : t ≤ G 10 0) : (tlS G N t w).1.length ≤ 81 := by
  unfold tlS
  by_cases c : t = 0
  · rw [if_pos c]; exact Nat.zero_le _
  rw [if_neg c]
  by_cases f : G 1 t = 16
  case neg => rw [if_pos f]; exact Nat.zero_le _
  rw [if_neg (show ¬ (G 1 t ≠ 16) from fun h => h f)]
  have a := szS5 hg (show 1 ≤ t by omega) t2 f
  have b := thS_len hg (show 1 ≤ t by omega) t2 f
  split
  · exact Nat.zero_le _
  split
  · omega
  split
  · omega
  split
  · unfold coS
    split
    · split
      · show 2 ≤ 81; omega
      · simp only [List.length_append, List.length_cons, List.length_nil]; omega
    · split
      · show 1 ≤ 81; omega
      · show 1 ≤ 81; omega
  split
  · split
    · show 1 ≤ 81; omega
    · show 1 ≤ 81; omega
  split
  · exact Nat.zero_le _
  split
  · exact Nat.zero_le _
  split
  · exact Nat.zero_le _
  · exact Nat.zero_le _
theorem co_M {G : Nat → Nat → Nat} {C : Nat → Int64} {N : Nat → Nat → Int32} {σ : Shp} {I : Nat → Nat → Int32} {J : Nat → Nat → Int64} {R : Nat → Nat → Option Nat} {t : Nat} (hS : Skel σ R) (hg : TSg G C N) (hm : TMo G C N I J) (t1 : 1 ≤ t) (t2 : t ≤ G 10 0) (f16 : G 1 t = 16) (h : I 114 24 = Int32.ofInt ((0 : Nat) : Int)) (h30 : I 114 30 = 0) : ∃ I' v, gX12_costOf σ I R (Int32.ofInt t) = some (I', v) ∧ TrM 0 (coS G N t).1 I I' ∧ I' 114 30 = (coS G N t).2.2 ∧ ((coS G N t).2.2 = 0 → v = (coS G N t).2.1) := by
  have h40 := hg.1.1
  have hst := hg.2.2.1 t t1 t2
  have k5 := hst.2.1
  obtain ⟨-, -, -, -, m5, m6, m7, -⟩ := hm.2.2.1 t (by omega)
  unfold gX12_costOf coS
  rw [if_pos (g41 (by omega)), t41 (by omega), m5]
  have g := g41 (t := t) (by omega)
  have gp := g41p (t := t) (by omega)
  have tt' := t41 (t := t) (by omega)
  by_cases c3 : G 7 t = 3
  · rw [if_pos c3, if_pos (by rw [c3]; rfl), bod_M h (by omega), ob_some]
    have T1 : TrM 0 [21] I (u2 (u2 I 129 0 21) 114 24 (Int32.ofInt ((0 + 1 : Nat) : Int))) := bod_T
    have T2 : TrM 0 ([21] ++ [20]) I (u2 (u2 (u2 (u2 I 129 0 21) 114 24 (Int32.ofInt ((0 + 1 : Nat) : Int))) 129 (0 + 1) 20) 114 24 (Int32.ofInt ((0 + 1 + 1 : Nat) : Int))) := T1.app bod_T
    unfold gX12_costOf_b16
    rw [bod_M (m := 0 + 1) (u2_self _ _ _ _) (by omega), ob_some, if_pos g, tt', bod_o (by omega), bod_o (by omega), m6]
    by_cases z : N 5 t = 0
    · rw [if_pos z, if_pos z]
      exact ⟨_, _, rfl, T2.st (by omega) (by omega) rfl, u2_self _ _ _ _, fun q => absurd q (by decide)⟩
    · rw [if_neg z, if_neg z, if_pos z]
      dsimp only
      rw [if_pos gp, bod_o (b := 122) (by omega), bod_o (b := 122) (by omega), m5, if_pos (by rw [c3]; rfl)]
      obtain ⟨I2, v, s1, s2, s3, s4⟩ := th_M (σ := σ) (R := R) (m := 2) hS hg (T2.mo' hm) t1 t2 f16 (by omega) T2.1 (by omega) (by rw [bod_o (by omega), bod_o (by omega)]; exact h30)
      rw [s1, ob_some]
      exact ⟨I2, _, rfl, T2.app s2, s3, fun q => by rw [s4 q]⟩
  · rw [if_neg c3, if_neg (by rw [i_eql (by omega)]; omega)]
    unfold gX12_costOf_b16
    rw [bod_M h (by omega), ob_some, if_pos g, tt', bod_o (by omega), m6]
    have T1 : TrM 0 [20] I (u2 (u2 I 129 0 20) 114 24 (Int32.ofInt ((0 + 1 : Nat) : Int))) := bod_T
    by_cases z : N 5 t = 0
    · rw [if_pos z, if_pos z]
      exact ⟨_, _, rfl, T1.st (by omega) (by omega) rfl, u2_self _ _ _ _, fun q => absurd q (by decide)⟩
    · rw [if_neg z, if_neg z, if_pos z]
      dsimp only
      rw [if_pos gp, bod_o (b := 122) (by omega), m5, if_neg (by rw [i_eql (by omega)]; omega)]
      exact ⟨_, _, rfl, T1, by rw [bod_o (by omega)]; exact h30, fun _ => rfl⟩
theorem tl_M {G : Nat → Nat → Nat} {C : Nat → Int64} {N : Nat → Nat → Int32} {σ : Shp} {I : Nat → Nat → Int32} {J : Nat → Nat → Int64} {R : Nat → Nat → Option Nat} {t w : Nat} (hS : Skel σ R) (hg : TSg G C N) (hm : TMo G C N I J) (t2 : t ≤ G 10 0) (hw : w ≤ 7) : ∃ I', gX12_askOf σ I R (Int32.ofInt t) (Int32.ofInt w) = some (I', (tlS G N t w).2.2) ∧ TrM 0 (tlS G N t w).1 I I' ∧ ((tlS G N t w).2.2 = 0 → I' 114 29 = (tlS G N t w).2.1) := by
  have h40 := hg.1.1
  have T0 : TrM 0 [] I (u2 (u2 I 114 24 0) 114 30 0) := ⟨by rw [u2n (by omega), u2_self]; rfl, fun i hi => absurd hi (Nat.not_lt_zero _), fun k hk => absurd hk (Nat.not_lt_zero _), Ag.st (Ag.st Ag.rf rfl) rfl⟩
  have h30 : u2 (u2 I 114 24 0) 114 30 0 114 30 = 0 := u2_self _ _ _ _
  have h24 : u2 (u2 I 114 24 0) 114 30 0 114 24 = Int32.ofInt ((0 : Nat) : Int) := T0.1
  have M0 := T0.mo' hm
  unfold gX12_askOf tlS
  dsimp only
  generalize hI0 : u2 (u2 I 114 24 0) 114 30 0 = I0 at *
  by_cases c : t = 0
  · rw [if_pos c, c]
    have e : gX12_isOf I0 (Int32.ofInt ((0 : Nat) : Int)) 16 = some 1 := k_io0
    rw [e, ob_some, if_neg n10, if_pos (by rfl)]
    exact ⟨I0, rfl, T0, fun q => absurd q (by decide)⟩
  have t1 : 1 ≤ t := by omega
  have hst := hg.2.2.1 t t1 t2
  have f17 := hst.1
  have k5 := hst.2.1
  obtain ⟨m1, -, -, m4, m5, m6, m7, -, -, m10, -⟩ := M0.2.2.1 t (by omega)
  rw [if_neg c]
  by_cases f16 : G 1 t = 16
  case neg =>
    rw [if_pos f16, k_ioF (by omega) (by rw [m1, i_eql (by omega)]; omega), ob_some, if_pos rfl]
    exact ⟨I0, rfl, T0, fun q => absurd q (by decide)⟩
  have g := g41 (t := t) (by omega)
  have gp := g41p (t := t) (by omega)
  have tt' := t41 (t := t) (by omega)
  rw [if_neg (show ¬ (G 1 t ≠ 16) from fun q => q f16), k_ioT (by omega) (by rw [m1, f16]; rfl), ob_some, if_neg n10, if_neg (by rw [i_eql (by omega)]; omega), if_pos g, tt', m5]
  by_cases ca : (w = 1 ∧ (G 7 t = 0 ∨ G 7 t = 4)) ∨ (w = 2 ∧ G 7 t = 5)
  · rw [if_pos ca]
    refine ⟨I0, ?_, T0, fun q => absurd q (by decide)⟩
    rcases ca with ⟨w1, k⟩ | ⟨w2, k⟩
    · rw [if_pos (by rw [w1]; rfl)]
      by_cases k0 : G 7 t = 0
      · rw [if_pos (by rw [k0]; rfl)]
      · rw [if_neg (by rw [i_eql (by omega)]; omega), if_pos (by rw [show G 7 t = 4 by omega]; rfl)]
    · rw [if_neg (by rw [i_eql (by omega)]; omega), if_pos (by rw [w2]; rfl), if_pos (by rw [k]; rfl)]
  rw [if_neg ca]
  have sk : ∀ X : Option ((Nat → Nat → Int32) × Int32), (if Int32.ofInt (w : Int) = 1 then if Int32.ofInt (G 7 t : Int) = 0 then some (I0, (4 : Int32)) else if Int32.ofInt (G 7 t : Int) = 4 then some (I0, 4) else if Int32.ofInt (w : Int) = 2 then if Int32.ofInt (G 7 t : Int) = 5 then some (I0, 4) else X else X else if Int32.ofInt (w : Int) = 2 then if Int32.ofInt (G 7 t : Int) = 5 then some (I0, 4) else X else X) = X := by
    intro X
    by_cases w1 : w = 1
    · rw [if_pos (by rw [w1]; rfl), if_neg (by rw [i_eql (by omega)]; omega), if_neg (by rw [i_eql (by omega)]; omega), if_neg (by rw [i_eql (by omega)]; omega)]
    rw [if_neg (by rw [i_eql (by omega)]; omega)]
    by_cases w2 : w = 2
    · rw [if_pos (by rw [w2]; rfl), if_neg (by rw [i_eql (by omega)]; omega)]
    · rw [if_neg (by rw [i_eql (by omega)]; omega)]
  rw [sk]
  have lift : ∀ (l : List Int32) (I1 : Nat → Nat → Int32), TrM 0 l I0 I1 → TrM 0 l I I1 := fun l I1 T => by
    have := T0.app (l' := l) (I2 := I1) T
    rw [List.nil_append] at this
    exact this
  have s29 : ∀ (l : List Int32) (I1 : Nat → Nat → Int32) (v : Int32), TrM 0 l I I1 → TrM 0 l I (u2 I1 114 29 v) := fun l I1 v T => T.st (by omega) (by omega) rfl
  have o30 : ∀ (I1 : Nat → Nat → Int32) (v : Int32), u2 I1 114 29 v 114 30 = I1 114 30 := fun I1 v => u2n (by omega)
  unfold gX12_askOf_b61
  dsimp only
  by_cases w0 : w = 0
  · rw [if_pos w0, if_pos (by rw [w0]; rfl)]
    obtain ⟨I1, v, r1, r2, r3, r4⟩ := sz_M (σ := σ) (R := R) (m := 0) hS hg M0 t1 t2 f16 h24 (by omega) h30
    rw [r1, ob_some]
    dsimp only
    rw [o30, r3]
    exact ⟨_, rfl, s29 _ _ _ (lift _ _ r2), fun q => by rw [u2_self]; exact r4 q⟩
  rw [if_neg w0, if_neg (show ¬ Int32.ofInt (w : Int) = 0 by rw [i_eql (by omega)]; omega)]
  by_cases w1 : w = 1
  · rw [if_pos w1, if_pos (by rw [w1]; rfl)]
    obtain ⟨I1, v, r1, r2, r3, r4⟩ := th_M (σ := σ) (R := R) (m := 0) hS hg M0 t1 t2 f16 (by omega) h24 (by omega) h30
    rw [r1, ob_some]
    dsimp only
    rw [o30, r3]
    exact ⟨_, rfl, s29 _ _ _ (lift _ _ r2), fun q => by rw [u2_self]; exact r4 q⟩
  rw [if_neg w1, if_neg (show ¬ Int32.ofInt (w : Int) = 1 by rw [i_eql (by omega)]; omega)]
  by_cases w2 : w = 2
  · rw [if_pos w2, if_pos (by rw [w2]; rfl)]
    obtain ⟨I1, v, r1, r2, r3, r4⟩ := co_M (σ := σ) (R := R) hS hg M0 t1 t2 f16 h24 h30
    rw [r1, ob_some]
    dsimp only
    rw [o30, r3]
    exact ⟨_, rfl, s29 _ _ _ (lift _ _ r2), fun q => by rw [u2_self]; exact r4 q⟩
  rw [if_neg w2, if_neg (show ¬ Int32.ofInt (w : Int) = 2 by rw [i_eql (by omega)]; omega)]
  have k114 : kdx σ 114 = 13 := hS.k 114 13 (by decide) rfl
  by_cases w3 : w = 3
  · rw [if_pos w3, if_pos (by rw [w3]; rfl)]
    by_cases c2 : G 7 t = 2
    · rw [if_pos c2, if_pos (by rw [c2]; rfl)]
      unfold gX12_askOf_b153
      rw [ob_some, if_pos k114, eX12_body hS, bod_M h24 (by omega), ob_some, if_pos (by rw [c2]; rfl), if_pos g, tt', bod_o (by omega), m7]
      dsimp only
      rw [o30, bod_o (by omega), h30]
      exact ⟨_, rfl, s29 _ _ _ (lift _ _ bod_T), fun _ => u2_self _ _ _ _⟩
    · rw [if_neg c2, if_neg (by rw [i_eql (by omega)]; omega)]
      unfold gX12_askOf_b153
      rw [ob_some, if_pos k114, eX12_body hS, bod_M h24 (by omega), ob_some, if_neg (by rw [i_eql (by omega)]; omega)]
      dsimp only
      rw [o30, bod_o (by omega), h30]
      exact ⟨_, rfl, s29 _ _ _ (lift _ _ bod_T), fun _ => u2_self _ _ _ _⟩
  rw [if_neg w3, if_neg (show ¬ Int32.ofInt (w : Int) = 3 by rw [i_eql (by omega)]; omega)]
  by_cases w4 : w = 4
  · rw [if_pos w4, if_pos (by rw [w4]; rfl)]
    by_cases c2 : G 7 t = 2
    · rw [if_pos c2, if_pos (by rw [c2]; rfl), o30, h30]
      exact ⟨_, rfl, s29 _ _ _ T0, fun _ => u2_self _ _ _ _⟩
    · rw [if_neg c2, if_neg (by rw [i_eql (by omega)]; omega), o30, h30]
      exact ⟨_, rfl, s29 _ _ _ T0, fun _ => u2_self _ _ _ _⟩
  rw [if_neg w4, if_neg (show ¬ Int32.ofInt (w : Int) = 4 by rw [i_eql (by omega)]; omega)]
  by_cases w5 : w = 5
  · rw [if_pos w5, if_pos (by rw [w5]; rfl), if_pos g, tt', m4, o30, h30]
    exact ⟨_, rfl, s29 _ _ _ T0, fun _ => u2_self _ _ _ _⟩
  rw [if_neg w5, if_neg (show ¬ Int32.ofInt (w : Int) = 5 by rw [i_eql (by omega)]; omega)]
  by_cases w6 : w = 6
  · rw [if_pos w6, if_pos (by rw [w6]; rfl), o30, h30]
    exact ⟨_, rfl, s29 _ _ _ T0, fun _ => u2_self _ _ _ _⟩
  rw [if_neg w6, if_neg (show ¬ Int32.ofInt (w : Int) = 6 by rw [i_eql (by omega)]; omega), if_pos g, tt', m10, o30, h30]
  exact ⟨_, rfl, s29 _ _ _ T0, fun _ => u2_self _ _ _ _⟩
theorem tr_of {l : List Int32} {I0 I1 I2 I3 : Nat → Nat → Int32} (hl : l.length ≤ 81) (a : TrC 0 l I0 I1) (b : TrM 0 l I2 I3) (e : ∀ k, I3 8 k = I1 8 k) (e1 : I3 7 1 = I1 7 1) : GTrace I3 := by
  obtain ⟨a1, a2, -⟩ := a
  obtain ⟨b1, b2, -⟩ := b
  refine ⟨by rw [e1, a1, b1], ⟨((0 + l.length : Nat) : Int), by omega, by omega, b1⟩, fun k hk h => ?_⟩
  rw [b1, i_lt (by omega) (by omega)] at h
  have c1 := a2 k (by omega)
  have c2 := b2 k (by omega)
  rw [c1, Nat.zero_add] at c2
  rw [e]
  exact Option.some.inj c2
def WAs : List (Nat × Nat) := [(7, 9), (129, 133), (1000001, 1000003), (1000024, 1000026), (1000029, 1000031), (2000013, 2000015), (2000018, 2000019)]
theorem c_ask {σ : Shp} {I : Nat → Nat → Int32} {J : Nat → Nat → Int64} {R : Nat → Nat → Option Nat} {x1 x2 : Int32} (hS : Skel σ R) (hn : nxx σ ≤ 900000) (hs : GScal I) (hT : GThing σ I J R) (hr : GTrace I) : Tot (gX11_ask σ I R x1 x2) (fun t => Tot (gX12_ask σ t.1 R x1 x2) (fun t2 => t.2 = t2.2 ∧ GScal t2.1 ∧ GThing σ t2.1 J R ∧ GTrace t2.1 ∧ Ag WAs I t2.1)) := by
  obtain ⟨i, hi1, hi2, rfl⟩ := rep x1
  obtain ⟨j, hj1, hj2, rfl⟩ := rep x2
  obtain ⟨G, C, N, hg, hc, hm⟩ := id hT
  have hn2 : 198 ≤ nxx σ ∧ nxx σ ≤ 900000 := ⟨hS.1, hn⟩
  by_cases c1 : 0 ≤ i ∧ i ≤ 15
  case neg =>
    exact tt (I, -2) (I, -2) (by unfold gX11_ask; simp (disch := omega) only [fail_r, no_r, nob_r, fI_o, Nat.reduceLeDiff, ↓reduceIte, not_true_eq_false, not_false_eq_true, false_imp_iff, true_imp_iff, and_true, true_and, and_self, implies_true, false_or, or_false, true_or, or_true, d10, d01, d00, d11, g_tn, Tot_some, Tot_none, Tot_ite, Tot_bind, ob_some, onl_n, onl_s, nat32, Int.toNat_natCast, i_add, i_sub, i_mul, i_addl, i_addr, i_subl, i_subr, i_mulr, i_addn, i_gd, i_tn, i_w, i_ltlT, i_ltlF, i_ltrT, i_ltrF, i_lelT, i_lelF, i_lerT, i_lerF, i_eqlT, i_eqlF, i_eqrT, i_eqrF, i_ltnT, i_ltnF, i_lenT, i_lenF, i_eqnT, i_eqnF, i_ltT, i_ltF, i_leT, i_leF, i_eqT, i_eqF, j_ltlT, j_ltlF, j_ltrT, j_ltrF, j_lelT, j_lelF, j_lerT, j_lerF, j_eqlT, j_eqlF, j_ltT, j_ltF, j_leT, j_leF, j_eqT, j_eqF, i_mull, l_tn, l_lt0, l_ne0, nleF, tX11_isStockT, tX11_isStockF, tX11_isBinT, tX11_isBinF, tX11_isPlanT, tX11_isPlanF, tX11_isValveT, tX11_isValveF, tX11_isLaneT, tX11_isLaneF, tX11_isGridFormT, tX11_isGridFormF, tX11_isFormT, tX11_isFormF, tX11_isTrayFormT, tX11_isTrayFormF, tX11_isPlacesFormT, tX11_isPlacesFormF, tX11_isTableT, tX11_isTableF, tX11_isProbeT, tX11_isProbeF, tX11_isHouseT, tX11_isHouseF, tX11_isPestT, tX11_isPestF, tX11_isStageT, tX11_isStageF, tX11_isPartT, tX11_isPartF, tX12_isBinT, tX12_isBinF, tX12_isTableT, tX12_isTableF, tX12_inT, tX12_inF, tX12_innT, tX12_innF, tX12_ingT, tX12_ingF, tX12_isStageT, tX12_isStageF, tX1_isByteT, tX1_isByteF]) (by unfold gX12_ask; simp (disch := omega) only [fail_r, no_r, nob_r, fI_o, Nat.reduceLeDiff, ↓reduceIte, not_true_eq_false, not_false_eq_true, false_imp_iff, true_imp_iff, and_true, true_and, and_self, implies_true, false_or, or_false, true_or, or_true, d10, d01, d00, d11, g_tn, Tot_some, Tot_none, Tot_ite, Tot_bind, ob_some, onl_n, onl_s, nat32, Int.toNat_natCast, i_add, i_sub, i_mul, i_addl, i_addr, i_subl, i_subr, i_mulr, i_addn, i_gd, i_tn, i_w, i_ltlT, i_ltlF, i_ltrT, i_ltrF, i_lelT, i_lelF, i_lerT, i_lerF, i_eqlT, i_eqlF, i_eqrT, i_eqrF, i_ltnT, i_ltnF, i_lenT, i_lenF, i_eqnT, i_eqnF, i_ltT, i_ltF, i_leT, i_leF, i_eqT, i_eqF, j_ltlT, j_ltlF, j_ltrT, j_ltrF, j_lelT, j_lelF, j_lerT, j_lerF, j_eqlT, j_eqlF, j_ltT, j_ltF, j_leT, j_leF, j_eqT, j_eqF, i_mull, l_tn, l_lt0, l_ne0, nleF, tX11_isStockT, tX11_isStockF, tX11_isBinT, tX11_isBinF, tX11_isPlanT, tX11_isPlanF, tX11_isValveT, tX11_isValveF, tX11_isLaneT, tX11_isLaneF, tX11_isGridFormT, tX11_isGridFormF, tX11_isFormT, tX11_isFormF, tX11_isTrayFormT, tX11_isTrayFormF, tX11_isPlacesFormT, tX11_isPlacesFormF, tX11_isTableT, tX11_isTableF, tX11_isProbeT, tX11_isProbeF, tX11_isHouseT, tX11_isHouseF, tX11_isPestT, tX11_isPestF, tX11_isStageT, tX11_isStageF, tX11_isPartT, tX11_isPartF, tX12_isBinT, tX12_isBinF, tX12_isTableT, tX12_isTableF, tX12_inT, tX12_inF, tX12_innT, tX12_innF, tX12_ingT, tX12_ingF, tX12_isStageT, tX12_isStageF, tX1_isByteT, tX1_isByteF]) ⟨rfl, ⟨hs, hT, hr, Ag.rf⟩⟩
  by_cases c2a : 0 ≤ j
  case neg =>
    exact tt (I, -2) (I, -2) (by unfold gX11_ask; simp (disch := omega) only [fail_r, no_r, nob_r, fI_o, Nat.reduceLeDiff, ↓reduceIte, not_true_eq_false, not_false_eq_true, false_imp_iff, true_imp_iff, and_true, true_and, and_self, implies_true, false_or, or_false, true_or, or_true, d10, d01, d00, d11, g_tn, Tot_some, Tot_none, Tot_ite, Tot_bind, ob_some, onl_n, onl_s, nat32, Int.toNat_natCast, i_add, i_sub, i_mul, i_addl, i_addr, i_subl, i_subr, i_mulr, i_addn, i_gd, i_tn, i_w, i_ltlT, i_ltlF, i_ltrT, i_ltrF, i_lelT, i_lelF, i_lerT, i_lerF, i_eqlT, i_eqlF, i_eqrT, i_eqrF, i_ltnT, i_ltnF, i_lenT, i_lenF, i_eqnT, i_eqnF, i_ltT, i_ltF, i_leT, i_leF, i_eqT, i_eqF, j_ltlT, j_ltlF, j_ltrT, j_ltrF, j_lelT, j_lelF, j_lerT, j_lerF, j_eqlT, j_eqlF, j_ltT, j_ltF, j_leT, j_leF, j_eqT, j_eqF, i_mull, l_tn, l_lt0, l_ne0, nleF, tX11_isStockT, tX11_isStockF, tX11_isBinT, tX11_isBinF, tX11_isPlanT, tX11_isPlanF, tX11_isValveT, tX11_isValveF, tX11_isLaneT, tX11_isLaneF, tX11_isGridFormT, tX11_isGridFormF, tX11_isFormT, tX11_isFormF, tX11_isTrayFormT, tX11_isTrayFormF, tX11_isPlacesFormT, tX11_isPlacesFormF, tX11_isTableT, tX11_isTableF, tX11_isProbeT, tX11_isProbeF, tX11_isHouseT, tX11_isHouseF, tX11_isPestT, tX11_isPestF, tX11_isStageT, tX11_isStageF, tX11_isPartT, tX11_isPartF, tX12_isBinT, tX12_isBinF, tX12_isTableT, tX12_isTableF, tX12_inT, tX12_inF, tX12_innT, tX12_innF, tX12_ingT, tX12_ingF, tX12_isStageT, tX12_isStageF, tX1_isByteT, tX1_isByteF]) (by unfold gX12_ask; simp (disch := omega) only [fail_r, no_r, nob_r, fI_o, Nat.reduceLeDiff, ↓reduceIte, not_true_eq_false, not_false_eq_true, false_imp_iff, true_imp_iff, and_true, true_and, and_self, implies_true, false_or, or_false, true_or, or_true, d10, d01, d00, d11, g_tn, Tot_some, Tot_none, Tot_ite, Tot_bind, ob_some, onl_n, onl_s, nat32, Int.toNat_natCast, i_add, i_sub, i_mul, i_addl, i_addr, i_subl, i_subr, i_mulr, i_addn, i_gd, i_tn, i_w, i_ltlT, i_ltlF, i_ltrT, i_ltrF, i_lelT, i_lelF, i_lerT, i_lerF, i_eqlT, i_eqlF, i_eqrT, i_eqrF, i_ltnT, i_ltnF, i_lenT, i_lenF, i_eqnT, i_eqnF, i_ltT, i_ltF, i_leT, i_leF, i_eqT, i_eqF, j_ltlT, j_ltlF, j_ltrT, j_ltrF, j_lelT, j_lelF, j_lerT, j_lerF, j_eqlT, j_eqlF, j_ltT, j_ltF, j_leT, j_leF, j_eqT, j_eqF, i_mull, l_tn, l_lt0, l_ne0, nleF, tX11_isStockT, tX11_isStockF, tX11_isBinT, tX11_isBinF, tX11_isPlanT, tX11_isPlanF, tX11_isValveT, tX11_isValveF, tX11_isLaneT, tX11_isLaneF, tX11_isGridFormT, tX11_isGridFormF, tX11_isFormT, tX11_isFormF, tX11_isTrayFormT, tX11_isTrayFormF, tX11_isPlacesFormT, tX11_isPlacesFormF, tX11_isTableT, tX11_isTableF, tX11_isProbeT, tX11_isProbeF, tX11_isHouseT, tX11_isHouseF, tX11_isPestT, tX11_isPestF, tX11_isStageT, tX11_isStageF, tX11_isPartT, tX11_isPartF, tX12_isBinT, tX12_isBinF, tX12_isTableT, tX12_isTableF, tX12_inT, tX12_inF, tX12_innT, tX12_innF, tX12_ingT, tX12_ingF, tX12_isStageT, tX12_isStageF, tX1_isByteT, tX1_isByteF]) ⟨rfl, ⟨hs, hT, hr, Ag.rf⟩⟩
  by_cases c2 : j ≤ 7
  case neg =>
    exact tt (I, -2) (I, -2) (by unfold gX11_ask; simp (disch := omega) only [fail_r, no_r, nob_r, fI_o, Nat.reduceLeDiff, ↓reduceIte, not_true_eq_false, not_false_eq_true, false_imp_iff, true_imp_iff, and_true, true_and, and_self, implies_true, false_or, or_false, true_or, or_true, d10, d01, d00, d11, g_tn, Tot_some, Tot_none, Tot_ite, Tot_bind, ob_some, onl_n, onl_s, nat32, Int.toNat_natCast, i_add, i_sub, i_mul, i_addl, i_addr, i_subl, i_subr, i_mulr, i_addn, i_gd, i_tn, i_w, i_ltlT, i_ltlF, i_ltrT, i_ltrF, i_lelT, i_lelF, i_lerT, i_lerF, i_eqlT, i_eqlF, i_eqrT, i_eqrF, i_ltnT, i_ltnF, i_lenT, i_lenF, i_eqnT, i_eqnF, i_ltT, i_ltF, i_leT, i_leF, i_eqT, i_eqF, j_ltlT, j_ltlF, j_ltrT, j_ltrF, j_lelT, j_lelF, j_lerT, j_lerF, j_eqlT, j_eqlF, j_ltT, j_ltF, j_leT, j_leF, j_eqT, j_eqF, i_mull, l_tn, l_lt0, l_ne0, nleF, tX11_isStockT, tX11_isStockF, tX11_isBinT, tX11_isBinF, tX11_isPlanT, tX11_isPlanF, tX11_isValveT, tX11_isValveF, tX11_isLaneT, tX11_isLaneF, tX11_isGridFormT, tX11_isGridFormF, tX11_isFormT, tX11_isFormF, tX11_isTrayFormT, tX11_isTrayFormF, tX11_isPlacesFormT, tX11_isPlacesFormF, tX11_isTableT, tX11_isTableF, tX11_isProbeT, tX11_isProbeF, tX11_isHouseT, tX11_isHouseF, tX11_isPestT, tX11_isPestF, tX11_isStageT, tX11_isStageF, tX11_isPartT, tX11_isPartF, tX12_isBinT, tX12_isBinF, tX12_isTableT, tX12_isTableF, tX12_inT, tX12_inF, tX12_innT, tX12_innF, tX12_ingT, tX12_ingF, tX12_isStageT, tX12_isStageF, tX1_isByteT, tX1_isByteF]) (by unfold gX12_ask; simp (disch := omega) only [fail_r, no_r, nob_r, fI_o, Nat.reduceLeDiff, ↓reduceIte, not_true_eq_false, not_false_eq_true, false_imp_iff, true_imp_iff, and_true, true_and, and_self, implies_true, false_or, or_false, true_or, or_true, d10, d01, d00, d11, g_tn, Tot_some, Tot_none, Tot_ite, Tot_bind, ob_some, onl_n, onl_s, nat32, Int.toNat_natCast, i_add, i_sub, i_mul, i_addl, i_addr, i_subl, i_subr, i_mulr, i_addn, i_gd, i_tn, i_w, i_ltlT, i_ltlF, i_ltrT, i_ltrF, i_lelT, i_lelF, i_lerT, i_lerF, i_eqlT, i_eqlF, i_eqrT, i_eqrF, i_ltnT, i_ltnF, i_lenT, i_lenF, i_eqnT, i_eqnF, i_ltT, i_ltF, i_leT, i_leF, i_eqT, i_eqF, j_ltlT, j_ltlF, j_ltrT, j_ltrF, j_lelT, j_lelF, j_lerT, j_lerF, j_eqlT, j_eqlF, j_ltT, j_ltF, j_leT, j_leF, j_eqT, j_eqF, i_mull, l_tn, l_lt0, l_ne0, nleF, tX11_isStockT, tX11_isStockF, tX11_isBinT, tX11_isBinF, tX11_isPlanT, tX11_isPlanF, tX11_isValveT, tX11_isValveF, tX11_isLaneT, tX11_isLaneF, tX11_isGridFormT, tX11_isGridFormF, tX11_isFormT, tX11_isFormF, tX11_isTrayFormT, tX11_isTrayFormF, tX11_isPlacesFormT, tX11_isPlacesFormF, tX11_isTableT, tX11_isTableF, tX11_isProbeT, tX11_isProbeF, tX11_isHouseT, tX11_isHouseF, tX11_isPestT, tX11_isPestF, tX11_isStageT, tX11_isStageF, tX11_isPartT, tX11_isPartF, tX12_isBinT, tX12_isBinF, tX12_isTableT, tX12_isTableF, tX12_inT, tX12_inF, tX12_innT, tX12_innF, tX12_ingT, tX12_ingF, tX12_isStageT, tX12_isStageF, tX1_isByteT, tX1_isByteF]) ⟨rfl, ⟨hs, hT, hr, Ag.rf⟩⟩
  obtain ⟨w, rfl⟩ : ∃ w : Nat, j = (w : Int) := ⟨j.toNat, by omega⟩
  have ep := hc.2.1 i.toNat (by omega)
  have mp := hm.2.1 i.toNat (by omega)
  have lp := hg.2.1 i.toNat (by omega)
  generalize G 9 i.toNat = t at *
  have ll := tlS_len hg (w := w) lp
  have aB : Ag [(7, 8)] I (u2 (u2 I 7 1 0) 7 2 0) := Ag.st (Ag.st Ag.rf rfl) rfl
  obtain ⟨I1, v, r1, r2, r3, r4⟩ := tl_C (w := w) hS hn hg (hc.ag hn2 aB Ag.rf Ag.rf rfl) lp (by omega) (by rw [u2n (by omega), u2_self]) (u2_self _ _ _ _)
  have a1 : Ag [(7, 9)] I I1 := (aB.mv rfl).tr (r2.2.2.2.mv rfl)
  generalize hT' : tlS G N t w = T at *
  have cl : gX11_ask σ I R (Int32.ofInt i) (Int32.ofInt (w : Int)) = if T.2.2 = 0 then some (u2 I1 4 18 v, 1) else some (fI I1 T.2.2, mfail T.2.2) := by
    unfold gX11_ask
    rw [tX11_isBinT c1, if_neg n10, if_neg (by rw [i_ltl (by omega)]; omega), if_pos (by rw [i_lel (by omega)]; omega)]
    unfold gX0_beginAsk
    rw [ob_some, if_pos (by rw [i_gd (by omega)]; exact id), i_tn (by omega), ep]
    dsimp only
    rw [r1, ob_some]
    dsimp only
    by_cases f : T.2.2 = 0
    · rw [if_pos (show I1 7 2 = 0 by rw [r3]; exact f), if_pos f]
    · rw [if_neg (show ¬ I1 7 2 = 0 by rw [r3]; exact f), if_neg f, fail_r, ob_some, r3]
  have fin : ∀ IC : Nat → Nat → Int32, Ag [(7, 9), (2000013, 2000015), (2000018, 2000019)] I IC → (∀ k, IC 8 k = I1 8 k) → IC 7 1 = I1 7 1 → ∃ I', gX12_ask σ IC R (Int32.ofInt i) (Int32.ofInt (w : Int)) = (if T.2.2 = 0 then some (u2 I' 114 25 T.2.1, 1) else some (noI I' T.2.2, mfail T.2.2)) ∧ TMo G C N I' J ∧ GTrace I' ∧ Ag [(129, 133), (1000024, 1000025), (1000029, 1000031)] IC I' := by
    intro IC ac e8 e7
    obtain ⟨I', s1, s2, s3⟩ := tl_M (σ := σ) (R := R) (w := w) hS hg (hm.kp (ac.kp rfl) Kp.rf) lp (by omega)
    rw [hT'] at s1 s2 s3
    refine ⟨I', ?_, s2.mo' (hm.kp (ac.kp rfl) Kp.rf), tr_of ll r2 s2 (fun k => by rw [s2.2.2.2 8 k rfl]; exact e8 k) (by rw [s2.2.2.2 7 1 rfl]; exact e7), s2.2.2.2⟩
    have e : fX12_in (Int32.ofInt (w : Int)) 0 7 = 1 := by simp (disch := omega) only [fail_r, no_r, nob_r, fI_o, Nat.reduceLeDiff, ↓reduceIte, not_true_eq_false, not_false_eq_true, false_imp_iff, true_imp_iff, and_true, true_and, and_self, implies_true, false_or, or_false, true_or, or_true, d10, d01, d00, d11, g_tn, Tot_some, Tot_none, Tot_ite, Tot_bind, ob_some, onl_n, onl_s, nat32, Int.toNat_natCast, i_add, i_sub, i_mul, i_addl, i_addr, i_subl, i_subr, i_mulr, i_addn, i_gd, i_tn, i_w, i_ltlT, i_ltlF, i_ltrT, i_ltrF, i_lelT, i_lelF, i_lerT, i_lerF, i_eqlT, i_eqlF, i_eqrT, i_eqrF, i_ltnT, i_ltnF, i_lenT, i_lenF, i_eqnT, i_eqnF, i_ltT, i_ltF, i_leT, i_leF, i_eqT, i_eqF, j_ltlT, j_ltlF, j_ltrT, j_ltrF, j_lelT, j_lelF, j_lerT, j_lerF, j_eqlT, j_eqlF, j_ltT, j_ltF, j_leT, j_leF, j_eqT, j_eqF, i_mull, l_tn, l_lt0, l_ne0, nleF, tX11_isStockT, tX11_isStockF, tX11_isBinT, tX11_isBinF, tX11_isPlanT, tX11_isPlanF, tX11_isValveT, tX11_isValveF, tX11_isLaneT, tX11_isLaneF, tX11_isGridFormT, tX11_isGridFormF, tX11_isFormT, tX11_isFormF, tX11_isTrayFormT, tX11_isTrayFormF, tX11_isPlacesFormT, tX11_isPlacesFormF, tX11_isTableT, tX11_isTableF, tX11_isProbeT, tX11_isProbeF, tX11_isHouseT, tX11_isHouseF, tX11_isPestT, tX11_isPestF, tX11_isStageT, tX11_isStageF, tX11_isPartT, tX11_isPartF, tX12_isBinT, tX12_isBinF, tX12_isTableT, tX12_isTableF, tX12_inT, tX12_inF, tX12_innT, tX12_innF, tX12_ingT, tX12_ingF, tX12_isStageT, tX12_isStageF, tX1_isByteT, tX1_isByteF]
    unfold gX12_ask
    rw [tX12_isBinT c1, if_neg n10, e, if_neg n10, if_pos (by rw [i_gd (by omega)]; exact id), i_tn (by omega), ac 115 _ rfl, mp, s1, ob_some]
    dsimp only
    by_cases f : T.2.2 = 0
    · rw [if_pos f, if_pos f, s3 f]
    · rw [if_neg f, if_neg f, no_r, ob_some]
  by_cases f : T.2.2 = 0
  · rw [if_pos f] at cl
    have a2 : Ag [(7, 9), (2000013, 2000015), (2000018, 2000019)] I (u2 I1 4 18 v) := Ag.st (a1.mv rfl) rfl
    obtain ⟨I', s1, s2, s3, s4⟩ := fin (u2 I1 4 18 v) a2 (fun k => u2n (by omega)) (u2n (by omega))
    rw [if_pos f] at s1
    have a3 : Ag [(1000025, 1000026)] I' (u2 I' 114 25 T.2.1) := Ag.st Ag.rf rfl
    have aA : Ag [(7, 9), (129, 133), (1000024, 1000026), (1000029, 1000031), (2000013, 2000015), (2000018, 2000019)] I (u2 I' 114 25 T.2.1) := Ag.tr (Ag.tr (a2.mv rfl) (s4.mv rfl)) (a3.mv rfl)
    have gs : GScal (u2 I' 114 25 T.2.1) := by
      refine ⟨?_, ?_, ?_, ?_, ?_, ?_, ?_, ?_⟩
      · rw [aA 4 12 rfl, aA 114 0 rfl]; exact hs.e0
      · rw [a3 4 13 rfl, s4 4 13 rfl, u2n (by omega), a1 4 13 rfl, aA 114 1 rfl]; exact hs.e1
      · rw [a3 4 14 rfl, s4 4 14 rfl, u2n (by omega), a1 4 14 rfl, aA 114 2 rfl]; exact hs.e2
      · rw [aA 4 15 rfl, aA 114 18 rfl]; exact hs.e3
      · rw [aA 4 16 rfl, aA 114 19 rfl]; exact hs.e4
      · rw [aA 4 17 rfl, aA 114 22 rfl]; exact hs.e5
      · rw [a3 4 18 rfl, s4 4 18 rfl, u2_self, u2_self]; exact r4 f
      · rw [aA 4 19 rfl, aA 114 32 rfl]; exact hs.e7
    exact tt (u2 I1 4 18 v, 1) (u2 I' 114 25 T.2.1, 1) cl s1 ⟨rfl, gs, ⟨G, C, N, hg, hc.ag hn2 aA Ag.rf Ag.rf rfl, s2.kp (a3.kp rfl) Kp.rf⟩, s3.kp (a3.kp rfl), aA.mv rfl⟩
  · rw [if_neg f] at cl
    have a2 : Ag [(7, 9), (2000013, 2000015), (2000018, 2000019)] I (fI I1 T.2.2) := Ag.st (Ag.st (a1.mv rfl) rfl) rfl
    obtain ⟨I', s1, s2, s3, s4⟩ := fin (fI I1 T.2.2) a2 (fun k => by unfold fI; rw [u2n (by omega), u2n (by omega)]) (by unfold fI; rw [u2n (by omega), u2n (by omega)])
    rw [if_neg f] at s1
    have a3 : Ag [(1000001, 1000003)] I' (noI I' T.2.2) := Ag.st (Ag.st Ag.rf rfl) rfl
    have aA : Ag [(7, 9), (129, 133), (1000001, 1000003), (1000024, 1000025), (1000029, 1000031), (2000013, 2000015), (2000018, 2000019)] I (noI I' T.2.2) := Ag.tr (Ag.tr (a2.mv rfl) (s4.mv rfl)) (a3.mv rfl)
    have gs : GScal (noI I' T.2.2) := by
      refine ⟨?_, ?_, ?_, ?_, ?_, ?_, ?_, ?_⟩
      · rw [aA 4 12 rfl, aA 114 0 rfl]; exact hs.e0
      · have x1 : noI I' T.2.2 4 13 = I 4 13 + 1 := by
          rw [a3 4 13 rfl, s4 4 13 rfl]
          unfold fI
          rw [u2n (by omega), u2_self, a1 4 13 rfl]
        have x2 : noI I' T.2.2 114 1 = I' 114 1 + 1 := by
          unfold noI
          rw [u2n (by omega), u2_self]
        rw [x1, x2, s4 114 1 rfl, a2 114 1 rfl, hs.e1]
      · have x1 : noI I' T.2.2 4 14 = T.2.2 := by
          rw [a3 4 14 rfl, s4 4 14 rfl]
          unfold fI
          rw [u2_self]
        rw [x1]
        unfold noI
        rw [u2_self]
      · rw [aA 4 15 rfl, aA 114 18 rfl]; exact hs.e3
      · rw [aA 4 16 rfl, aA 114 19 rfl]; exact hs.e4
      · rw [aA 4 17 rfl, aA 114 22 rfl]; exact hs.e5
      · rw [a3 4 18 rfl, s4 4 18 rfl, aA 114 25 rfl]
        unfold fI
        rw [u2n (by omega), u2n (by omega), a1 4 18 rfl]; exact hs.e6
      · rw [aA 4 19 rfl, aA 114 32 rfl]; exact hs.e7
    exact tt (fI I1 T.2.2, mfail T.2.2) (noI I' T.2.2, mfail T.2.2) cl s1 ⟨rfl, gs, ⟨G, C, N, hg, hc.ag hn2 aA Ag.rf Ag.rf rfl, s2.kp (a3.kp rfl) Kp.rf⟩, s3.kp (a3.kp rfl), aA.mv rfl⟩
