/-! ===== a run: answers, questions, plans that are done ===== -/
theorem st8 {n O : Nat → Nat} {A : Nat → Nat → Int32} {vd : Nat → Int32} {G : Nat → Nat → Nat} {N : Nat → Nat → Int32} {nb sb : Nat} {σ : Shp} {I : Nat → Nat → Int32} {J : Nat → Nat → Int64} {R : Nat → Nat → Option Nat} {I' : Nat → Nat → Int32} {J' : Nat → Nat → Int64} {fc : Nat → Nat} {E : Nat → Nat → Nat} {V : Nat → Nat → Int32} {σ' : Shp} {R' : Nat → Nat → Option Nat} {t st ch x : Nat} (hb : PlB n O) (h : Core n O A vd G N nb sb σ I J R I' J' fc E V (t + 1) st ch) (hg : Bg n O nb sb σ I I' E t st ch x) (eo : op O (E t 1) x = 8) : StOk n O A vd G N nb sb σ' R' σ I J R I' J' E t st x := by
  have eo' : Int32.ofInt (op O (E t 1) x : Nat) = 8 := by rw [eo]; rfl
  obtain ⟨⟨q1, q2, q3⟩, eb, ec, -⟩ := pfC hb h hg
  have fit : ¬ fX7_firstNumberFits 8 (A 0 (40 * E t 1 + x)) = 0 := by rw [ff8]; exact n10
  have a : Ag [(25, 26)] I (u2 (u2 I 25 0 2) 25 5 (A 0 (40 * E t 1 + x))) := Ag.st (Ag.st Ag.rf rfl) rfl
  have b0 : Ag [(1000059, 1000060)] I' (u2 I' 114 59 2) := Ag.st Ag.rf rfl
  have b : Ag [(1000059, 1000065)] I' (u2 (u2 I' 114 59 2) 114 64 (A 0 (40 * E t 1 + x))) := Ag.st (b0.mv rfl) rfl
  have na := (nuM (h.1.2.2.kp (b0.kp rfl)) q1 (show x < 40 by omega) (by rw [b0 114 57 rfl]; exact hg.1.2.2.1) (by rw [b0 114 58 rfl]; exact hg.1.2.2.2)).1
  have w1 : u2 (u2 I 25 0 2) 25 5 (A 0 (40 * E t 1 + x)) 25 0 = 2 := by simp (disch := omega) only [u2n, u2s]
  refine ⟨σ, _, J, R, _, J', fc, E, V, t + 1, ch, ?_, ?_, h.kp2 (a.mv rfl) (b.mv rfl) (a 5 6 rfl) (h.2.2.2.2.2.1.ka (a.mv rfl) (b.mv rfl)) ?_ (Nat.le_refl _), fun _ _ q => ?_, by omega, a.mv rfl, Ag.rf, Ag.rf, b.mv rfl, Ag.rf⟩
  · rw [eo']
    unfold gX7_perform
    rw [if_neg fit, eb, ob_some, ec, ob_some, if_neg (by decide), if_neg (by decide), if_neg (by decide), if_neg (by decide), if_neg (by decide), if_neg (by decide), if_neg (by decide), if_pos rfl, if_pos g00, if_pos g05, c00, c05]
    rfl
  · rw [eo']
    unfold bg2
    rw [if_pos hb8, an8, ob_some, if_neg n10, if_neg (by decide), if_pos rfl]
    try dsimp only
    rw [na, ob_some]
  · unfold Wy WyR
    have z5 : u2 (u2 I 25 0 2) 25 5 (A 0 (40 * E t 1 + x)) 25 5 = A 0 (40 * E t 1 + x) := u2_self _ _ _ _
    have y5 : u2 (u2 I' 114 59 2) 114 64 (A 0 (40 * E t 1 + x)) 114 64 = A 0 (40 * E t 1 + x) := u2_self _ _ _ _
    have y0 : u2 (u2 I' 114 59 2) 114 64 (A 0 (40 * E t 1 + x)) 114 59 = 2 := by simp (disch := omega) only [u2n, u2s]
    rw [w1, z5, y5, y0]
    exact ⟨rfl, Or.inr (Or.inr (Or.inl rfl)), fun q => absurd q (by decide), fun _ => rfl, fun q => absurd q (by decide)⟩
  · rw [w1] at q
    exact absurd q (by decide)
theorem tr_of2 {l : List Int32} {I0 I1 I2 I3 : Nat → Nat → Int32} (hl : l.length ≤ 81) (a : TrC 0 l I0 I1) (b : TrM 0 l I2 I3) : I1 7 1 = I3 114 24 ∧ Rn (I3 114 24) 0 120 ∧ ∀ k : Nat, k < 120 → Int32.ofInt (k : Int) < I3 114 24 → I1 8 k = I3 129 k := by
  obtain ⟨a1, a2, -⟩ := a
  obtain ⟨b1, b2, -⟩ := b
  refine ⟨by rw [a1, b1], ⟨((0 + l.length : Nat) : Int), by omega, by omega, b1⟩, fun k hk h => ?_⟩
  rw [b1, i_lt (by omega) (by omega)] at h
  have c1 := a2 k (by omega)
  have c2 := b2 k (by omega)
  rw [c1, Nat.zero_add] at c2
  exact Option.some.inj c2
theorem st6 {n O : Nat → Nat} {A : Nat → Nat → Int32} {vd : Nat → Int32} {G : Nat → Nat → Nat} {N : Nat → Nat → Int32} {nb sb : Nat} {σ : Shp} {I : Nat → Nat → Int32} {J : Nat → Nat → Int64} {R : Nat → Nat → Option Nat} {I' : Nat → Nat → Int32} {J' : Nat → Nat → Int64} {fc : Nat → Nat} {E : Nat → Nat → Nat} {V : Nat → Nat → Int32} {σ' : Shp} {R' : Nat → Nat → Option Nat} {t st ch x : Nat} (hb : PlB n O) (hS : Skel σ' R') (h : Core n O A vd G N nb sb σ I J R I' J' fc E V (t + 1) st ch) (hg : Bg n O nb sb σ I I' E t st ch x) (eo : op O (E t 1) x = 6) : StOk n O A vd G N nb sb σ' R' σ I J R I' J' E t st x := by
  have eo' : Int32.ofInt (op O (E t 1) x : Nat) = 6 := by rw [eo]; rfl
  have k4 := hS.k 114 13 (by decide) rfl
  have hn := h.hn
  obtain ⟨⟨q1, q2, q3⟩, eb, ec, na, nb', nc⟩ := pfC hb h hg
  obtain ⟨i, i1, i2, ea⟩ := rep (A 0 (40 * E t 1 + x))
  obtain ⟨j, j1, j2, ej⟩ := rep (A 1 (40 * E t 1 + x))
  obtain ⟨s, s1, s2, es⟩ := rep (A 2 (40 * E t 1 + x))
  by_cases c : 0 ≤ i ∧ i ≤ 15
  case neg =>
    refine stF h hg (k := 2) (v := 0) (Or.inr rfl) ?_ ?_
    · rw [eo', ea]; unfold gX7_perform; rw [if_pos (by rw [ff6]; exact tX11_isBinF (by omega)), arI, ob_some]
    · rw [eo']; unfold bg2; rw [if_pos hb6, an6, na, ob_some, ea, tX12_isBinF (by omega), if_pos rfl, ob_some, if_pos rfl, flI k4, ob_some]
  obtain ⟨k, rfl⟩ : ∃ k : Nat, i = (k : Int) := ⟨i.toNat, by omega⟩
  have fit : ¬ fX7_firstNumberFits 6 (Int32.ofInt (k : Int)) = 0 := by rw [ff6, tX11_isBinT c]; exact n10
  have eC : gX7_perform σ I J R (Int32.ofInt (E t 1 : Nat)) 6 (Int32.ofInt (k : Int)) = (gX7_askPlant σ I J R (Int32.ofInt (k : Int)) (A 1 (40 * E t 1 + x)) (A 2 (40 * E t 1 + x))).bind fun (I45, J46, R47) => gX7_perform_b246 σ I45 J46 R47 := by
    unfold gX7_perform
    rw [if_neg fit, eb, ob_some, ec, ob_some, if_neg (by decide), if_neg (by decide), if_neg (by decide), if_neg (by decide), if_neg (by decide), if_pos rfl]
  by_cases d1 : 0 ≤ j
  case neg =>
    refine stF h hg (k := 2) (v := 0) (Or.inr rfl) ?_ ?_
    · rw [eo', ea, eC, ej]
      unfold gX7_askPlant
      rw [if_pos (by rw [i_ltl (by omega)]; omega), arI, ob_some, ob_some]
      rfl
    · rw [eo']; unfold bg2; rw [if_pos hb6, an6, na, ob_some, ea, tX12_isBinT c, if_neg n10, nb', ob_some, ej, tX12_inF (by omega), if_pos rfl, ob_some, if_pos rfl, flI k4, ob_some]
  by_cases d2 : j ≤ 3
  case neg =>
    refine stF h hg (k := 2) (v := 0) (Or.inr rfl) ?_ ?_
    · rw [eo', ea, eC, ej]
      unfold gX7_askPlant
      rw [if_neg (by rw [i_ltl (by omega)]; omega), if_pos (by rw [i_ltr (by omega)]; omega), arI, ob_some, ob_some]
      rfl
    · rw [eo']; unfold bg2; rw [if_pos hb6, an6, na, ob_some, ea, tX12_isBinT c, if_neg n10, nb', ob_some, ej, tX12_inF (by omega), if_pos rfl, ob_some, if_pos rfl, flI k4, ob_some]
  by_cases d : 0 ≤ s ∧ s ≤ 5
  case neg =>
    refine stF h hg (k := 2) (v := 0) (Or.inr rfl) ?_ ?_
    · rw [eo', ea, eC, ej, es]
      unfold gX7_askPlant
      rw [if_neg (by rw [i_ltl (by omega)]; omega), if_neg (by rw [i_ltr (by omega)]; omega), tX11_isStockF (by omega), if_pos rfl, arI, ob_some, ob_some]
      rfl
    · rw [eo']; unfold bg2; rw [if_pos hb6, an6, na, ob_some, ea, tX12_isBinT c, if_neg n10, nb', ob_some, ej, tX12_inT (by omega), if_neg n10, nc, ob_some, es, tX12_inF (by omega), if_pos rfl, ob_some, if_pos rfl, flI k4, ob_some]
  obtain ⟨s, rfl⟩ : ∃ k : Nat, s = (k : Int) := ⟨s.toNat, by omega⟩
  obtain ⟨w, rfl⟩ : ∃ k : Nat, j = (k : Int) := ⟨j.toNat, by omega⟩
  have eM : bg2 σ' I' J' R' 6 = (gX12_plain σ' I' J' R' 6).bind fun (I6, J7, r8) => if r8 = 0 then some (u2 I6 114 58 ((I6 114 58) + (1 : Int32)), J7) else (gX12_fails σ' I6 r8 (0 : Int32)).bind fun I11 => some (I11, J7) := by
    unfold bg2
    rw [if_pos hb6, an6, na, ob_some, ea, tX12_isBinT c, if_neg n10, nb', ob_some, ej, tX12_inT (by omega), if_neg n10, nc, ob_some, es, tX12_inT (by omega), if_neg n10, ob_some, if_neg n10, if_neg (by decide), if_neg (by decide), if_neg (by decide)]
  obtain ⟨C, hg1, hc1, hm1, -⟩ := id h.2.1
  have ep := hc1.2.1 k (by omega)
  have mp := hm1.2.1 k (by omega)
  have lp := hg1.2.1 k (by omega)
  generalize G 9 k = u at *
  have aB : Ag [(7, 8)] I (u2 (u2 I 7 1 0) 7 2 0) := Ag.st (Ag.st Ag.rf rfl) rfl
  obtain ⟨I1, v, r1, r2, r3, r4⟩ := tl_C (w := w) h.2.2.1.1 (by omega) hg1 (hc1.ag ⟨hn.1, by omega⟩ aB Ag.rf Ag.rf rfl) lp (by omega) (by rw [u2n (by omega), u2_self]) (u2_self _ _ _ _)
  have a1 : Ag [(7, 9)] I I1 := (aB.mv rfl).tr (r2.2.2.2.mv rfl)
  obtain ⟨I1', m1, m2, m3⟩ := tl_M (σ := σ') (R := R') (w := w) hS hg1 hm1 lp (by omega)
  have b1 : Ag [(129, 133), (1000024, 1000025), (1000029, 1000031)] I' I1' := m2.2.2.2
  have tr := tr_of2 (tlS_len hg1 (w := w) lp) r2 m2
  generalize tlS G N u w = T at *
  have hw : Wy I1 I1' := by
    have := h.2.2.2.2.2.2
    unfold Wy at this ⊢
    rw [a1 25 0 rfl, a1 25 1 rfl, a1 25 2 rfl, a1 25 3 rfl, a1 25 4 rfl, a1 25 5 rfl, b1 114 59 rfl, b1 114 60 rfl, b1 114 61 rfl, b1 114 62 rfl, b1 114 63 rfl, b1 114 64 rfl]
    exact this
  have h1 : Core n O A vd G N nb sb σ I1 J R I1' J' fc E V (t + 1) st ch := h.kp2 (a1.mv rfl) (b1.mv rfl) (a1 5 6 rfl) (by
    obtain ⟨c1, c2, c3, c4, c5, -⟩ := h.2.2.2.2.2.1
    unfold Cnt
    rw [a1 5 9 rfl, a1 5 8 rfl, a1 5 10 rfl, a1 5 11 rfl, a1 5 12 rfl, a1 5 13 rfl, a1 4 13 rfl, b1 114 65 rfl, b1 114 66 rfl, b1 114 67 rfl, b1 114 68 rfl, b1 114 69 rfl, b1 114 70 rfl, b1 114 1 rfl, b1 114 42 rfl]
    exact ⟨c1, c2, c3, fun k hk => by rw [a1 19 k rfl, a1 20 k rfl, b1 140 k rfl, b1 141 k rfl]; exact c4 k hk, c5, tr⟩) hw (Nat.le_refl _)
  have eC2 : gX7_askPlant σ I J R (Int32.ofInt (k : Int)) (Int32.ofInt (w : Int)) (Int32.ofInt (s : Int)) = if T.2.2 = 0 then (gX8_changeStock σ I1 J R (Int32.ofInt (s : Int)) (Int32.toInt64 v)).bind fun (I11, J12, R13) => some (I11, J12, R13) else some (arC I1 T.2.2 0, J, R) := by
    unfold gX7_askPlant
    rw [if_neg (by rw [i_ltl (by omega)]; omega), if_neg (by rw [i_ltr (by omega)]; omega), tX11_isStockT d, if_neg n10]
    unfold gX0_beginAsk
    rw [ob_some, if_pos (by rw [i_gd (by omega)]; exact id), t41 (by omega), ep]
    try dsimp only
    rw [r1, ob_some]
    try dsimp only
    by_cases f : T.2.2 = 0
    · rw [if_pos (show I1 7 2 = 0 by rw [r3]; exact f), if_pos f]
    · rw [if_neg (show ¬ I1 7 2 = 0 by rw [r3]; exact f), if_neg f, r3, arI, ob_some]
  have nc1 := (nuM h1.1.2.2 q1 (show x < 40 by omega) (by rw [b1 114 57 rfl]; exact hg.1.2.2.1) (by rw [b1 114 58 rfl]; exact hg.1.2.2.2)).2.2
  have eM2 : gX12_plain σ' I' J' R' 6 = if T.2.2 = 0 then (gX12_changeStock I1' J' (Int32.ofInt (s : Int)) (Int32.toInt64 (I1' 114 29))).bind fun (I20, J21) => some (I20, J21, T.2.2) else some (I1', J', T.2.2) := by
    unfold gX12_plain
    rw [if_neg (by decide), if_neg (by decide), if_neg (by decide), if_neg (by decide), if_neg (by decide), if_pos rfl, na, ob_some, ea, if_pos (by rw [i_gd (by omega)]; exact id), nb', ob_some, t41 (by omega), mp, ej, m1, ob_some]
    try dsimp only
    rw [nc1, ob_some, es]
  by_cases f : T.2.2 = 0
  · rw [if_pos f] at eC2 eM2
    have st3 := h.2.2.2.2.2.1.1.2.2
    obtain ⟨I2, J2, R2, I2', J2', y1, y2, y3, y4, y5, y6, y7, y8, y9⟩ := h1.2.1.stock (Int32.toInt64 v) h1.2.2.1.1 ⟨hn.1, by omega⟩ (by have := hg.2.2.2.2.2.1; omega) (k := s) (by omega)
    have hc := h1.sto y3 y4 y5 y7 y8 (fun q hq => by
      obtain rfl : q = t := by omega
      have := hg.2.2.2.2.2.1
      omega)
    have wc : Ag WRc I I2 := (a1.mv rfl).tr (y5.mv rfl)
    have wm : Ag WRm I' I2' := (b1.mv rfl).tr (y8.mv rfl)
    refine stP hg (by omega) hc (by rw [y5 25 0 rfl, a1 25 0 rfl]) (by rw [y8 114 57 rfl, b1 114 57 rfl]) (by rw [y8 114 58 rfl, b1 114 58 rfl]) wc (y6.mv rfl) (y7.mv rfl) wm (y9.mv rfl) ?_ ?_
    · rw [eo', ea, eC, ej, es, eC2, y1, ob_some, ob_some]
      rfl
    · rw [eo', eM, eM2, m3 f, ← r4 f, y2, ob_some, ob_some]
      try dsimp only
      rw [if_pos f]
  · rw [if_neg f] at eC2 eM2
    refine stF2 h1 hg (k := T.2.2) (v := 0) (Or.inr rfl) (a1 5 7 rfl) (b1 114 58 rfl) (a1.mv rfl) (b1.mv rfl) ?_ ?_ f
    · rw [eo', ea, eC, ej, es, eC2, ob_some]
      rfl
    · rw [eo', eM, eM2, ob_some]
      try dsimp only
      rw [if_neg f, flI k4, ob_some]
