/-! ===== a run: the plain steps (laid by mk87.py) ===== -/
theorem ff1 {a : Int32} : fX7_firstNumberFits 1 a = fX11_isStock a := by unfold fX7_firstNumberFits; rw [if_pos rfl]
theorem ff2 {a : Int32} : fX7_firstNumberFits 2 a = fX11_isStock a := by unfold fX7_firstNumberFits; rw [if_neg (by decide), if_pos rfl]
theorem ff3 {a : Int32} : fX7_firstNumberFits 3 a = fX11_isBin a := by unfold fX7_firstNumberFits; rw [if_neg (by decide), if_neg (by decide), if_pos rfl]
theorem ff4 {a : Int32} : fX7_firstNumberFits 4 a = fX11_isBin a := by unfold fX7_firstNumberFits; rw [if_neg (by decide), if_neg (by decide), if_neg (by decide), if_pos rfl]
theorem ff5 {a : Int32} : fX7_firstNumberFits 5 a = fX11_isBin a := by unfold fX7_firstNumberFits; rw [if_neg (by decide), if_neg (by decide), if_neg (by decide), if_neg (by decide), if_pos rfl]
theorem ff6 {a : Int32} : fX7_firstNumberFits 6 a = fX11_isBin a := by unfold fX7_firstNumberFits; rw [if_neg (by decide), if_neg (by decide), if_neg (by decide), if_neg (by decide), if_neg (by decide), if_pos rfl]
theorem ff7 {a : Int32} : fX7_firstNumberFits 7 a = 1 := by unfold fX7_firstNumberFits; rw [if_neg (by decide), if_neg (by decide), if_neg (by decide), if_neg (by decide), if_neg (by decide), if_neg (by decide), if_pos rfl]
theorem ff8 {a : Int32} : fX7_firstNumberFits 8 a = 1 := by unfold fX7_firstNumberFits; rw [if_neg (by decide), if_neg (by decide), if_neg (by decide), if_neg (by decide), if_neg (by decide), if_neg (by decide), if_neg (by decide), if_pos rfl]
theorem ff9 {a : Int32} : fX7_firstNumberFits 9 a = fX11_isValve a := by unfold fX7_firstNumberFits; rw [if_neg (by decide), if_neg (by decide), if_neg (by decide), if_neg (by decide), if_neg (by decide), if_neg (by decide), if_neg (by decide), if_neg (by decide), if_pos rfl]
theorem ff10 {a : Int32} : fX7_firstNumberFits 10 a = fX11_isPlan a := by unfold fX7_firstNumberFits; rw [if_neg (by decide), if_neg (by decide), if_neg (by decide), if_neg (by decide), if_neg (by decide), if_neg (by decide), if_neg (by decide), if_neg (by decide), if_neg (by decide), if_pos rfl]
theorem ff11 {a : Int32} : fX7_firstNumberFits 11 a = fX11_isValve a := by unfold fX7_firstNumberFits; rw [if_neg (by decide), if_neg (by decide), if_neg (by decide), if_neg (by decide), if_neg (by decide), if_neg (by decide), if_neg (by decide), if_neg (by decide), if_neg (by decide), if_neg (by decide), if_pos rfl]
theorem ff12 {a : Int32} : fX7_firstNumberFits 12 a = fX11_isStock a := by unfold fX7_firstNumberFits; rw [if_neg (by decide), if_neg (by decide), if_neg (by decide), if_neg (by decide), if_neg (by decide), if_neg (by decide), if_neg (by decide), if_neg (by decide), if_neg (by decide), if_neg (by decide), if_neg (by decide), if_pos rfl]
theorem ff13 {a : Int32} : fX7_firstNumberFits 13 a = fX11_isValve a := by unfold fX7_firstNumberFits; rw [if_neg (by decide), if_neg (by decide), if_neg (by decide), if_neg (by decide), if_neg (by decide), if_neg (by decide), if_neg (by decide), if_neg (by decide), if_neg (by decide), if_neg (by decide), if_neg (by decide), if_neg (by decide), if_pos rfl]
theorem ff14 {a : Int32} : fX7_firstNumberFits 14 a = 1 := by unfold fX7_firstNumberFits; rw [if_neg (by decide), if_neg (by decide), if_neg (by decide), if_neg (by decide), if_neg (by decide), if_neg (by decide), if_neg (by decide), if_neg (by decide), if_neg (by decide), if_neg (by decide), if_neg (by decide), if_neg (by decide), if_neg (by decide), if_pos rfl]
theorem ff15 {a : Int32} : fX7_firstNumberFits 15 a = 1 := by unfold fX7_firstNumberFits; rw [if_neg (by decide), if_neg (by decide), if_neg (by decide), if_neg (by decide), if_neg (by decide), if_neg (by decide), if_neg (by decide), if_neg (by decide), if_neg (by decide), if_neg (by decide), if_neg (by decide), if_neg (by decide), if_neg (by decide), if_neg (by decide), if_pos rfl]
theorem ff16 {a : Int32} : fX7_firstNumberFits 16 a = 1 := by unfold fX7_firstNumberFits; rw [if_neg (by decide), if_neg (by decide), if_neg (by decide), if_neg (by decide), if_neg (by decide), if_neg (by decide), if_neg (by decide), if_neg (by decide), if_neg (by decide), if_neg (by decide), if_neg (by decide), if_neg (by decide), if_neg (by decide), if_neg (by decide), if_neg (by decide), if_pos rfl]
theorem ff19 {a : Int32} : fX7_firstNumberFits 19 a = fX11_isStock a := by unfold fX7_firstNumberFits; rw [if_neg (by decide), if_neg (by decide), if_neg (by decide), if_neg (by decide), if_neg (by decide), if_neg (by decide), if_neg (by decide), if_neg (by decide), if_neg (by decide), if_neg (by decide), if_neg (by decide), if_neg (by decide), if_neg (by decide), if_neg (by decide), if_neg (by decide), if_neg (by decide), if_neg (by decide), if_neg (by decide), if_pos rfl]
theorem ff20 {a : Int32} : fX7_firstNumberFits 20 a = fX11_isStock a := by unfold fX7_firstNumberFits; rw [if_neg (by decide), if_neg (by decide), if_neg (by decide), if_neg (by decide), if_neg (by decide), if_neg (by decide), if_neg (by decide), if_neg (by decide), if_neg (by decide), if_neg (by decide), if_neg (by decide), if_neg (by decide), if_neg (by decide), if_neg (by decide), if_neg (by decide), if_neg (by decide), if_neg (by decide), if_neg (by decide), if_neg (by decide), if_pos rfl]
theorem hb1 : fX12_hasBody 1 = 0 := by decide
theorem hb2 : fX12_hasBody 2 = 0 := by decide
theorem hb3 : fX12_hasBody 3 = 0 := by decide
theorem hb4 : fX12_hasBody 4 = 0 := by decide
theorem hb5 : fX12_hasBody 5 = 0 := by decide
theorem hb6 : fX12_hasBody 6 = 0 := by decide
theorem hb7 : fX12_hasBody 7 = 0 := by decide
theorem hb8 : fX12_hasBody 8 = 0 := by decide
theorem hb9 : fX12_hasBody 9 = 0 := by decide
theorem hb10 : fX12_hasBody 10 = 0 := by decide
theorem hb11 : fX12_hasBody 11 = 1 := by decide
theorem hb12 : fX12_hasBody 12 = 1 := by decide
theorem hb13 : fX12_hasBody 13 = 1 := by decide
theorem hb14 : fX12_hasBody 14 = 1 := by decide
theorem hb15 : fX12_hasBody 15 = 1 := by decide
theorem hb16 : fX12_hasBody 16 = 1 := by decide
theorem hb19 : fX12_hasBody 19 = 1 := by decide
theorem hb20 : fX12_hasBody 20 = 1 := by decide
theorem an1 {I : Nat → Nat → Int32} : gX12_areNumbers I 1 = (gX12_a I).bind fun r31 => some (fX12_in r31 0 5) := by unfold gX12_areNumbers; rw [if_pos rfl]
theorem an2 {I : Nat → Nat → Int32} : gX12_areNumbers I 2 = (gX12_a I).bind fun r31 => some (fX12_in r31 0 5) := by unfold gX12_areNumbers; rw [if_neg (by decide), if_pos rfl]
theorem an3 {I : Nat → Nat → Int32} : gX12_areNumbers I 3 = (gX12_a I).bind fun r31 => some (fX12_isBin r31) := by unfold gX12_areNumbers; rw [if_neg (by decide), if_neg (by decide), if_pos rfl]
theorem an4 {I : Nat → Nat → Int32} : gX12_areNumbers I 4 = (gX12_a I).bind fun r23 => if (fX12_isBin r23) = 0 then some 0 else (gX12_c I).bind fun r25 => if (fX12_in r25 0 5) = 0 then some 0 else some 1 := by unfold gX12_areNumbers; rw [if_neg (by decide), if_neg (by decide), if_neg (by decide), if_pos rfl]
theorem an5 {I : Nat → Nat → Int32} : gX12_areNumbers I 5 = (gX12_a I).bind fun r31 => some (fX12_isBin r31) := by unfold gX12_areNumbers; rw [if_neg (by decide), if_neg (by decide), if_neg (by decide), if_neg (by decide), if_pos rfl]
theorem an6 {I : Nat → Nat → Int32} : gX12_areNumbers I 6 = (gX12_a I).bind fun r15 => if (fX12_isBin r15) = 0 then some 0 else (gX12_b I).bind fun r17 => if (fX12_in r17 0 3) = 0 then some 0 else (gX12_c I).bind fun r19 => if (fX12_in r19 0 5) = 0 then some 0 else some 1 := by unfold gX12_areNumbers; rw [if_neg (by decide), if_neg (by decide), if_neg (by decide), if_neg (by decide), if_neg (by decide), if_pos rfl]
theorem an7 {I : Nat → Nat → Int32} : gX12_areNumbers I 7 = some 1 := by unfold gX12_areNumbers; rw [if_neg (by decide), if_neg (by decide), if_neg (by decide), if_neg (by decide), if_neg (by decide), if_neg (by decide), if_pos rfl]
theorem an8 {I : Nat → Nat → Int32} : gX12_areNumbers I 8 = some 1 := by unfold gX12_areNumbers; rw [if_neg (by decide), if_neg (by decide), if_neg (by decide), if_neg (by decide), if_neg (by decide), if_neg (by decide), if_neg (by decide), if_pos rfl]
theorem an9 {I : Nat → Nat → Int32} : gX12_areNumbers I 9 = (gX12_a I).bind fun r13 => some (fX12_in r13 0 2) := by unfold gX12_areNumbers; rw [if_neg (by decide), if_neg (by decide), if_neg (by decide), if_neg (by decide), if_neg (by decide), if_neg (by decide), if_neg (by decide), if_neg (by decide), if_pos rfl]
theorem an10 {I : Nat → Nat → Int32} : gX12_areNumbers I 10 = (gX12_a I).bind fun r13 => some (fX12_in r13 0 3) := by unfold gX12_areNumbers; rw [if_neg (by decide), if_neg (by decide), if_neg (by decide), if_neg (by decide), if_neg (by decide), if_neg (by decide), if_neg (by decide), if_neg (by decide), if_neg (by decide), if_pos rfl]
theorem pfC {n O : Nat → Nat} {A : Nat → Nat → Int32} {vd : Nat → Int32} {G : Nat → Nat → Nat} {N : Nat → Nat → Int32} {nb sb : Nat} {σ : Shp} {I : Nat → Nat → Int32} {J : Nat → Nat → Int64} {R : Nat → Nat → Option Nat} {I' : Nat → Nat → Int32} {J' : Nat → Nat → Int64} {fc : Nat → Nat} {E : Nat → Nat → Nat} {V : Nat → Nat → Int32} {t st ch x : Nat} (hb : PlB n O) (h : Core n O A vd G N nb sb σ I J R I' J' fc E V (t + 1) st ch) (hg : Bg n O nb sb σ I I' E t st ch x) : (E t 1 < 4 ∧ x < n (E t 1) ∧ n (E t 1) ≤ 40) ∧ gX6_bAt I (Int32.ofInt (E t 1 : Nat)) (I 5 7) = some (A 1 (40 * E t 1 + x)) ∧ gX6_cAt I (Int32.ofInt (E t 1 : Nat)) (I 5 7) = some (A 2 (40 * E t 1 + x)) ∧ gX12_a I' = some (A 0 (40 * E t 1 + x)) ∧ gX12_b I' = some (A 1 (40 * E t 1 + x)) ∧ gX12_c I' = some (A 2 (40 * E t 1 + x)) := by
  obtain ⟨⟨p1, -, p3⟩, -, -, -, fr, -⟩ := h
  obtain ⟨⟨a1, -, -, a4, -, a6, -⟩, -⟩ := fr t (Nat.lt_succ_self t)
  obtain ⟨⟨-, b2, b3, b4⟩, ⟨b5, b6⟩, -⟩ := hg
  have hn := hb.1 _ a1
  have nu := nuM p3 a1 (show x < 40 by omega) b3 b4
  refine ⟨⟨a1, by omega, hn⟩, ?_, ?_, nu⟩
  · rw [b2]; exact bC p1 hb a1 (by omega)
  · rw [b2]; exact cC' p1 hb a1 (by omega)
theorem w64 {b : Int32} (h : ¬ b = 0) : ¬ Int32.toInt64 b = 0 := by
  obtain ⟨i, i1, i2, rfl⟩ := rep b
  rw [i_w ⟨i1, i2⟩, j_eql (by omega)]
  rw [i_eql (by omega)] at h
  exact h
theorem th_row2 {G : Nat → Nat → Nat} {C : Nat → Int64} {N : Nat → Nat → Int32} {σ : Shp} {I : Nat → Nat → Int32} {J : Nat → Nat → Int64} {R : Nat → Nat → Option Nat} {I' : Nat → Nat → Int32} {J' : Nat → Nat → Int64} (hg : TSg G C N) (hc : TCl G C N σ I J R) (hm : TMo G C N I' J') {t : Nat} (t1 : 1 ≤ t) (t2 : t ≤ G 10 0) (q : G 1 t ≤ 7) : lnx σ (G 0 t + 1) = G 2 t ∧ kdx σ (G 0 t + 1) = 21 ∧ R (G 0 t) 1 = some (G 0 t + 1) ∧ G 3 t + G 2 t ≤ 162000 ∧ G 2 t ≤ 40 ∧ nC (G 1 t) (G 2 t) = G 2 t ∧ ∀ k, k < G 2 t → J (G 0 t + 1) k = C (G 3 t + k) ∧ J' 119 (G 3 t + k) = C (G 3 t + k) := by
  obtain ⟨⟨a1, a2, a3, a4, a5, a6, a7⟩, -, c, -, -⟩ := hc.2.2.1 t t1 t2
  have ec : nC (G 1 t) (G 2 t) = G 2 t := if_pos q
  have ed : cC (G 1 t) (G 0 t) = G 0 t + 1 := if_pos (Or.inl q)
  have hs := hg.2.2.1 t t1 t2
  have h10 := hs.2.2.2.2.2.2.2.1 (Or.inl q)
  have h0 := hg.1
  unfold TC at c
  rw [ec, ed] at c
  rw [ec] at h10 a6
  rw [ed] at a2 a4 a6
  have b0 : G 3 t + G 2 t ≤ 162000 := by omega
  exact ⟨a6, a4, a2, b0, hs.2.2.2.1 q, ec, fun k hk => ⟨c k hk, hm.2.2.2.1 _ (by omega)⟩⟩
/-- a row of ints is looked at, both sides -/
theorem lookR {G : Nat → Nat → Nat} {C : Nat → Int64} {N : Nat → Nat → Int32} {σ : Shp} {I : Nat → Nat → Int32} {J : Nat → Nat → Int64} {R : Nat → Nat → Option Nat} {I' : Nat → Nat → Int32} {J' : Nat → Nat → Int64} (hg : TSg G C N) (hc : TCl G C N σ I J R) (hm : TMo G C N I' J') {a : Nat} (ha : a < 16) (b : Int32) : ∃ k : Int32, gX11_cellFault σ I R (R 6 a) 4 b = some k ∧ gX12_against I' (I' 115 a) 4 b = some k ∧ (k = 0 → ∃ u i : Nat, 1 ≤ u ∧ u ≤ G 10 0 ∧ u ≤ 4050 ∧ G 1 u = 4 ∧ i < G 2 u ∧ b = Int32.ofInt (i : Int) ∧ R 6 a = some (G 0 u) ∧ I' 115 a = Int32.ofInt (u : Int)) := by
  obtain ⟨i, i1, i2, rfl⟩ := rep b
  have e4 : (4 : Int32) = Int32.ofInt ((4 : Nat) : Int) := rfl
  have e1 := hc.2.1 a ha
  have e2 := hm.2.1 a ha
  have e3 := hg.2.1 a ha
  have e5 := hg.1.1
  generalize G 9 a = u at *
  by_cases z : u = 0
  · subst z
    refine ⟨1, ?_, ?_, fun q => absurd q (by decide)⟩
    · rw [e1, pn_0]; exact k_cf0
    · rw [e2]; exact k_ag0
  obtain ⟨⟨a1, a2, a3, a4, a5, a6, a7⟩, ⟨b1, -⟩, -⟩ := hc.2.2.1 u (by omega) e3
  obtain ⟨m1, m2, -⟩ := hm.2.2.1 u (by omega)
  have s := hg.2.2.1 u (by omega) e3
  rw [pn_1 (by omega)] at e1
  rw [e1, e2, e4]
  by_cases f : G 1 u = 4
  · rw [f] at b1 m1
    have ec : cC (G 1 u) (G 0 u) = G 0 u + 1 := if_pos (by omega)
    have en : nC (G 1 u) (G 2 u) = G 2 u := if_pos (by omega)
    rw [ec] at a2 a4 a6
    rw [en] at a6
    have s2 := s.2.2.2.1 (by omega)
    by_cases c : 0 ≤ i ∧ i < G 2 u
    · refine ⟨0, k_cfk a1 b1 a2 a4 a6 (by omega), k_agk (by omega) m1 m2 (by omega), fun _ => ⟨u, i.toNat, by omega, e3, by omega, f, by omega, by congr 1; omega, rfl, rfl⟩⟩
    · exact ⟨2, k_cf2 a1 b1 a2 a4 a6 (by omega), k_ag2 (by omega) m1 m2 (by omega), fun q => absurd q (by decide)⟩
  · have s1 := s.1
    exact ⟨4, k_cf4 a1 b1 (by omega), k_ag4 (by omega) m1 (by omega), fun q => absurd q (by decide)⟩
theorem lookK {G : Nat → Nat → Nat} {C : Nat → Int64} {N : Nat → Nat → Int32} {σ : Shp} {I : Nat → Nat → Int32} {J : Nat → Nat → Int64} {R : Nat → Nat → Option Nat} {I' : Nat → Nat → Int32} {J' : Nat → Nat → Int64} (hg : TSg G C N) (hc : TCl G C N σ I J R) (hm : TMo G C N I' J') {a : Nat} (ha : a < 16) : ∃ k : Int32, gX11_takenFault σ I (R 6 a) 17 = some k ∧ gX12_againstCard I' (I' 115 a) = some k ∧ (k = 0 → ∃ u : Nat, 1 ≤ u ∧ u ≤ G 10 0 ∧ u ≤ 4050 ∧ G 1 u = 17 ∧ R 6 a = some (G 0 u) ∧ I' 115 a = Int32.ofInt (u : Int)) := by
  have e4 : (17 : Int32) = Int32.ofInt ((17 : Nat) : Int) := rfl
  have e1 := hc.2.1 a ha
  have e2 := hm.2.1 a ha
  have e3 := hg.2.1 a ha
  have e5 := hg.1.1
  generalize G 9 a = u at *
  unfold gX12_againstCard
  by_cases z : u = 0
  · subst z
    refine ⟨1, ?_, ?_, fun q => absurd q (by decide)⟩
    · rw [e1, pn_0]; exact k_tfN
    · rw [e2]
      have := k_io0 (I := I') (f := 17)
      rw [show ((0 : Nat) : Int) = 0 from rfl, this, ob_some, if_neg n10, if_pos (by rfl)]
  obtain ⟨⟨a1, -⟩, ⟨b1, -⟩, -⟩ := hc.2.2.1 u (by omega) e3
  obtain ⟨m1, -⟩ := hm.2.2.1 u (by omega)
  have s1 := (hg.2.2.1 u (by omega) e3).1
  rw [pn_1 (by omega)] at e1
  rw [e1, e2]
  by_cases f : G 1 u = 17
  · rw [f, ← e4] at b1 m1
    refine ⟨0, k_tfT (k_gfT a1 b1), ?_, fun _ => ⟨u, by omega, e3, by omega, f, rfl, rfl⟩⟩
    rw [k_ioT (by omega) m1, ob_some, if_neg n10, if_neg (by rw [i_eql (by omega)]; omega)]
  · refine ⟨4, k_tfF (k_gfF a1 (by rw [b1, i_eql (by omega)]; omega)), ?_, fun q => absurd q (by decide)⟩
    rw [k_ioF (by omega) (by rw [m1, i_eql (by omega)]; omega), ob_some, if_pos rfl]
theorem st1 {n O : Nat → Nat} {A : Nat → Nat → Int32} {vd : Nat → Int32} {G : Nat → Nat → Nat} {N : Nat → Nat → Int32} {nb sb : Nat} {σ : Shp} {I : Nat → Nat → Int32} {J : Nat → Nat → Int64} {R : Nat → Nat → Option Nat} {I' : Nat → Nat → Int32} {J' : Nat → Nat → Int64} {fc : Nat → Nat} {E : Nat → Nat → Nat} {V : Nat → Nat → Int32} {σ' : Shp} {R' : Nat → Nat → Option Nat} {t st ch x : Nat} (hb : PlB n O) (hS : Skel σ' R') (h : Core n O A vd G N nb sb σ I J R I' J' fc E V (t + 1) st ch) (hg : Bg n O nb sb σ I I' E t st ch x) (eo : op O (E t 1) x = 1) : StOk n O A vd G N nb sb σ' R' σ I J R I' J' E t st x := by
  have eo' : Int32.ofInt (op O (E t 1) x : Nat) = 1 := by rw [eo]; rfl
  have k4 := hS.k 114 13 (by decide) rfl
  obtain ⟨⟨q1, q2, q3⟩, eb, ec, na, nb', nc⟩ := pfC hb h hg
  obtain ⟨i, i1, i2, ea⟩ := rep (A 0 (40 * E t 1 + x))
  by_cases c : 0 ≤ i ∧ i ≤ 5
  case neg =>
    refine stF h hg (k := 2) (v := 0) (Or.inr rfl) ?_ ?_
    · rw [eo', ea]; unfold gX7_perform; rw [if_pos (by rw [ff1]; exact tX11_isStockF (by omega)), arI, ob_some]
    · rw [eo']; unfold bg2; rw [if_pos hb1, an1, na, ob_some, ea, tX12_inF (by omega)]; first | rw [ob_some, if_pos rfl, flI k4, ob_some] | rw [if_pos rfl, ob_some, if_pos rfl, flI k4, ob_some]
  obtain ⟨k, rfl⟩ : ∃ k : Nat, i = (k : Int) := ⟨i.toNat, by omega⟩
  have fit : ¬ fX7_firstNumberFits 1 (Int32.ofInt (k : Int)) = 0 := by rw [ff1, tX11_isStockT c]; exact n10
  have hst := h.2.1.choose_spec.2.2.2.1 k (by omega)
  refine stS h hg (by omega) (k := k) (v := J 18 k + Int32.toInt64 (A 1 (40 * E t 1 + x))) (by omega) (fun I1 J1 R1 e => ?_) (fun I1' J1' e => ?_)
  · rw [eo', ea]
    unfold gX7_perform; rw [if_neg fit, eb, ob_some, ec, ob_some, if_pos rfl]
    rw [if_pos (by rw [i_gd (by omega)]; exact id), t41 (by omega), e, ob_some]
    rfl
  · rw [eo']; unfold bg2; rw [if_pos hb1, an1, na, ob_some, ea, tX12_inT (by omega), ob_some, if_neg n10, if_neg (by decide), if_neg (by decide), if_neg (by decide)]
    unfold gX12_plain
    rw [if_pos rfl, na, ob_some, ob_some, ea, if_pos (by rw [i_gd (by omega)]; exact id), nb', ob_some, t41 (by omega), ← hst, e, ob_some, ob_some]
    try dsimp only
    rw [if_pos rfl]
theorem st2 {n O : Nat → Nat} {A : Nat → Nat → Int32} {vd : Nat → Int32} {G : Nat → Nat → Nat} {N : Nat → Nat → Int32} {nb sb : Nat} {σ : Shp} {I : Nat → Nat → Int32} {J : Nat → Nat → Int64} {R : Nat → Nat → Option Nat} {I' : Nat → Nat → Int32} {J' : Nat → Nat → Int64} {fc : Nat → Nat} {E : Nat → Nat → Nat} {V : Nat → Nat → Int32} {σ' : Shp} {R' : Nat → Nat → Option Nat} {t st ch x : Nat} (hb : PlB n O) (hS : Skel σ' R') (h : Core n O A vd G N nb sb σ I J R I' J' fc E V (t + 1) st ch) (hg : Bg n O nb sb σ I I' E t st ch x) (eo : op O (E t 1) x = 2) : StOk n O A vd G N nb sb σ' R' σ I J R I' J' E t st x := by
  have eo' : Int32.ofInt (op O (E t 1) x : Nat) = 2 := by rw [eo]; rfl
  have k4 := hS.k 114 13 (by decide) rfl
  obtain ⟨⟨q1, q2, q3⟩, eb, ec, na, nb', nc⟩ := pfC hb h hg
  obtain ⟨i, i1, i2, ea⟩ := rep (A 0 (40 * E t 1 + x))
  by_cases c : 0 ≤ i ∧ i ≤ 5
  case neg =>
    refine stF h hg (k := 2) (v := 0) (Or.inr rfl) ?_ ?_
    · rw [eo', ea]; unfold gX7_perform; rw [if_pos (by rw [ff2]; exact tX11_isStockF (by omega)), arI, ob_some]
    · rw [eo']; unfold bg2; rw [if_pos hb2, an2, na, ob_some, ea, tX12_inF (by omega)]; first | rw [ob_some, if_pos rfl, flI k4, ob_some] | rw [if_pos rfl, ob_some, if_pos rfl, flI k4, ob_some]
  obtain ⟨k, rfl⟩ : ∃ k : Nat, i = (k : Int) := ⟨i.toNat, by omega⟩
  have fit : ¬ fX7_firstNumberFits 2 (Int32.ofInt (k : Int)) = 0 := by rw [ff2, tX11_isStockT c]; exact n10
  have hst := h.2.1.choose_spec.2.2.2.1 k (by omega)
  by_cases z : A 1 (40 * E t 1 + x) = 0
  · refine stF h hg (k := 6) (v := 0) (Or.inr rfl) ?_ ?_
    · rw [eo', ea]
      unfold gX7_perform; rw [if_neg fit, eb, ob_some, ec, ob_some, if_neg (by decide), if_pos rfl]
      unfold gX7_divideStock
      rw [if_pos z, arI, ob_some, ob_some]
      rfl
    · rw [eo']; unfold bg2; rw [if_pos hb2, an2, na, ob_some, ea, tX12_inT (by omega), ob_some, if_neg n10, if_neg (by decide), if_neg (by decide), if_neg (by decide)]
      unfold gX12_plain
      rw [if_neg (by decide), if_pos rfl, nb', ob_some, if_pos z, ob_some]
      try dsimp only
      rw [if_neg (by decide), flI k4, ob_some]
  refine stS h hg (by omega) (k := k) (v := J 18 k / Int32.toInt64 (A 1 (40 * E t 1 + x))) (by omega) (fun I1 J1 R1 e => ?_) (fun I1' J1' e => ?_)
  · rw [eo', ea]
    unfold gX7_perform; rw [if_neg fit, eb, ob_some, ec, ob_some, if_neg (by decide), if_pos rfl]
    unfold gX7_divideStock
    rw [if_neg z, if_pos (by rw [i_gd (by omega)]; exact id), if_pos (w64 z), t41 (by omega), e, ob_some, ob_some]
    rfl
  · rw [eo']; unfold bg2; rw [if_pos hb2, an2, na, ob_some, ea, tX12_inT (by omega), ob_some, if_neg n10, if_neg (by decide), if_neg (by decide), if_neg (by decide)]
    unfold gX12_plain
    rw [if_neg (by decide), if_pos rfl, nb', ob_some, if_neg z, na, ob_some, ob_some, ea, if_pos (by rw [i_gd (by omega)]; exact id), ob_some, if_pos (w64 z), t41 (by omega), ← hst, e, ob_some, ob_some]
    try dsimp only
    rw [if_pos rfl]
theorem st3 {n O : Nat → Nat} {A : Nat → Nat → Int32} {vd : Nat → Int32} {G : Nat → Nat → Nat} {N : Nat → Nat → Int32} {nb sb : Nat} {σ : Shp} {I : Nat → Nat → Int32} {J : Nat → Nat → Int64} {R : Nat → Nat → Option Nat} {I' : Nat → Nat → Int32} {J' : Nat → Nat → Int64} {fc : Nat → Nat} {E : Nat → Nat → Nat} {V : Nat → Nat → Int32} {σ' : Shp} {R' : Nat → Nat → Option Nat} {t st ch x : Nat} (hb : PlB n O) (hS : Skel σ' R') (h : Core n O A vd G N nb sb σ I J R I' J' fc E V (t + 1) st ch) (hg : Bg n O nb sb σ I I' E t st ch x) (eo : op O (E t 1) x = 3) : StOk n O A vd G N nb sb σ' R' σ I J R I' J' E t st x := by
  have eo' : Int32.ofInt (op O (E t 1) x : Nat) = 3 := by rw [eo]; rfl
  have k4 := hS.k 114 13 (by decide) rfl
  obtain ⟨⟨q1, q2, q3⟩, eb, ec, na, nb', nc⟩ := pfC hb h hg
  obtain ⟨i, i1, i2, ea⟩ := rep (A 0 (40 * E t 1 + x))
  by_cases c : 0 ≤ i ∧ i ≤ 15
  case neg =>
    refine stF h hg (k := 2) (v := 0) (Or.inr rfl) ?_ ?_
    · rw [eo', ea]; unfold gX7_perform; rw [if_pos (by rw [ff3]; exact tX11_isBinF (by omega)), arI, ob_some]
    · rw [eo']; unfold bg2; rw [if_pos hb3, an3, na, ob_some, ea, tX12_isBinF (by omega)]; first | rw [ob_some, if_pos rfl, flI k4, ob_some] | rw [if_pos rfl, ob_some, if_pos rfl, flI k4, ob_some]
  obtain ⟨k, rfl⟩ : ∃ k : Nat, i = (k : Int) := ⟨i.toNat, by omega⟩
  have fit : ¬ fX7_firstNumberFits 3 (Int32.ofInt (k : Int)) = 0 := by rw [ff3, tX11_isBinT c]; exact n10
  obtain ⟨C, hg1, hc1, hm1, -⟩ := id h.2.1
  obtain ⟨v, v1, v2, v3⟩ := lookR hg1 hc1 hm1 (show k < 16 by omega) (A 1 (40 * E t 1 + x))
  have eC : gX7_perform σ I J R (Int32.ofInt (E t 1 : Nat)) 3 (Int32.ofInt (k : Int)) = (gX7_layCell σ I J R (Int32.ofInt (k : Int)) (A 1 (40 * E t 1 + x)) (A 2 (40 * E t 1 + x))).bind fun (I45, J46, R47) => gX7_perform_b246 σ I45 J46 R47 := by
    unfold gX7_perform; rw [if_neg fit, eb, ob_some, ec, ob_some, if_neg (by decide), if_neg (by decide), if_pos rfl]
  have eM : bg2 σ' I' J' R' 3 = (gX12_plain_b100 σ' R' I' J' 3).bind fun (I6, J7, r8) => if r8 = 0 then some (u2 I6 114 58 ((I6 114 58) + (1 : Int32)), J7) else (gX12_fails σ' I6 r8 (0 : Int32)).bind fun I11 => some (I11, J7) := by
    unfold bg2
    rw [if_pos hb3, an3, na, ob_some, ea, tX12_isBinT c, ob_some, if_neg n10, if_neg (by decide), if_neg (by decide), if_neg (by decide)]
    unfold gX12_plain
    rw [if_neg (by decide), if_neg (by decide), if_pos rfl]
  by_cases z : v = 0
  · obtain ⟨u, j, u1', u2', u3, u4, u5, u6, u7, u8⟩ := v3 z
    have m3 := (hm1.2.2.1 u (by omega)).2.2.1
    have en : nC (G 1 u) (G 2 u) = G 2 u := if_pos (by omega)
    have bd := hg1.cell u1' u2' (Or.inl u4) (i := j) (by omega)
    refine srC h hg (by omega) u1' u2' (Or.inl u4) (i := j) (v := A 2 (40 * E t 1 + x)) (by omega) (fun I1 J1 R1 e => ?_) (fun I1' J1' e => ?_)
    · rw [eo', ea, eC]
      unfold gX7_layCell
      rw [if_pos (by rw [i_gd (by omega)]; exact id), t41 (by omega), v1, ob_some, if_pos z, u7, u6, e, ob_some, ob_some]
      rfl
    · rw [eo', eM]
      unfold gX12_plain_b100
      rw [na, ob_some, ea, if_pos (by rw [i_gd (by omega)]; exact id), t41 (by omega), nb', ob_some]
      try dsimp only
      rw [v2, ob_some, if_pos z, if_pos rfl, u8, if_pos (by rw [i_gd (by omega)]; exact id), t41 (by omega), ob_some, nc, ob_some, m3, u6, i_add, show ((G 3 u : Nat) : Int) + (j : Int) = ((G 3 u + j : Nat) : Int) by omega, e, ob_some, ob_some]
      try dsimp only
      rw [if_pos rfl]
  · refine stF h hg (k := v) (v := 0) (Or.inr rfl) ?_ ?_ z
    · rw [eo', ea, eC]
      unfold gX7_layCell
      rw [if_pos (by rw [i_gd (by omega)]; exact id), t41 (by omega), v1, ob_some, if_neg z, arI, ob_some, ob_some]
      rfl
    · rw [eo', eM]
      unfold gX12_plain_b100
      rw [na, ob_some, ea, if_pos (by rw [i_gd (by omega)]; exact id), t41 (by omega), nb', ob_some]
      try dsimp only
      rw [v2, ob_some, if_neg z, ob_some]
      try dsimp only
      rw [if_neg z, flI k4, ob_some]
theorem st4 {n O : Nat → Nat} {A : Nat → Nat → Int32} {vd : Nat → Int32} {G : Nat → Nat → Nat} {N : Nat → Nat → Int32} {nb sb : Nat} {σ : Shp} {I : Nat → Nat → Int32} {J : Nat → Nat → Int64} {R : Nat → Nat → Option Nat} {I' : Nat → Nat → Int32} {J' : Nat → Nat → Int64} {fc : Nat → Nat} {E : Nat → Nat → Nat} {V : Nat → Nat → Int32} {σ' : Shp} {R' : Nat → Nat → Option Nat} {t st ch x : Nat} (hb : PlB n O) (hS : Skel σ' R') (h : Core n O A vd G N nb sb σ I J R I' J' fc E V (t + 1) st ch) (hg : Bg n O nb sb σ I I' E t st ch x) (eo : op O (E t 1) x = 4) : StOk n O A vd G N nb sb σ' R' σ I J R I' J' E t st x := by
  have eo' : Int32.ofInt (op O (E t 1) x : Nat) = 4 := by rw [eo]; rfl
  have k4 := hS.k 114 13 (by decide) rfl
  obtain ⟨⟨q1, q2, q3⟩, eb, ec, na, nb', nc⟩ := pfC hb h hg
  obtain ⟨i, i1, i2, ea⟩ := rep (A 0 (40 * E t 1 + x))
  obtain ⟨s, s1, s2, es⟩ := rep (A 2 (40 * E t 1 + x))
  by_cases c : 0 ≤ i ∧ i ≤ 15
  case neg =>
    refine stF h hg (k := 2) (v := 0) (Or.inr rfl) ?_ ?_
    · rw [eo', ea]; unfold gX7_perform; rw [if_pos (by rw [ff4]; exact tX11_isBinF (by omega)), arI, ob_some]
    · rw [eo']; unfold bg2; rw [if_pos hb4, an4, na, ob_some, ea, tX12_isBinF (by omega), if_pos rfl, ob_some, if_pos rfl, flI k4, ob_some]
  obtain ⟨k, rfl⟩ : ∃ k : Nat, i = (k : Int) := ⟨i.toNat, by omega⟩
  have fit : ¬ fX7_firstNumberFits 4 (Int32.ofInt (k : Int)) = 0 := by rw [ff4, tX11_isBinT c]; exact n10
  obtain ⟨C, hg1, hc1, hm1, -⟩ := id h.2.1
  obtain ⟨v, v1, v2, v3⟩ := lookR hg1 hc1 hm1 (show k < 16 by omega) (A 1 (40 * E t 1 + x))
  have eC : gX7_perform σ I J R (Int32.ofInt (E t 1 : Nat)) 4 (Int32.ofInt (k : Int)) = (gX7_readCell σ I J R (Int32.ofInt (k : Int)) (A 1 (40 * E t 1 + x)) (A 2 (40 * E t 1 + x))).bind fun (I45, J46, R47) => gX7_perform_b246 σ I45 J46 R47 := by
    unfold gX7_perform; rw [if_neg fit, eb, ob_some, ec, ob_some, if_neg (by decide), if_neg (by decide), if_neg (by decide), if_pos rfl]
  by_cases d : 0 ≤ s ∧ s ≤ 5
  case neg =>
    refine stF h hg (k := 2) (v := 0) (Or.inr rfl) ?_ ?_
    · rw [eo', ea, eC]
      unfold gX7_readCell
      rw [if_pos (by rw [i_gd (by omega)]; exact id)]
      try dsimp only
      rw [es, tX11_isStockF (by omega), if_pos rfl]
      unfold gX7_readCell_b26
      rw [if_neg (by decide), arI, ob_some, ob_some]
      rfl
    · rw [eo']; unfold bg2; rw [if_pos hb4, an4, na, ob_some, ea, tX12_isBinT c, if_neg n10, nc, ob_some, es, tX12_inF (by omega), if_pos rfl, ob_some, if_pos rfl, flI k4, ob_some]
  obtain ⟨s, rfl⟩ : ∃ k : Nat, s = (k : Int) := ⟨s.toNat, by omega⟩
  have eM : bg2 σ' I' J' R' 4 = (gX12_plain_b100 σ' R' I' J' 4).bind fun (I6, J7, r8) => if r8 = 0 then some (u2 I6 114 58 ((I6 114 58) + (1 : Int32)), J7) else (gX12_fails σ' I6 r8 (0 : Int32)).bind fun I11 => some (I11, J7) := by
    unfold bg2
    rw [if_pos hb4, an4, na, ob_some, ea, tX12_isBinT c, if_neg n10, nc, ob_some, es, tX12_inT (by omega), if_neg n10, ob_some, if_neg n10, if_neg (by decide), if_neg (by decide), if_neg (by decide)]
    unfold gX12_plain
    rw [if_neg (by decide), if_neg (by decide), if_neg (by decide), if_pos rfl]
  by_cases z : v = 0
  · obtain ⟨u, j, u1', u2', u3, u4, u5, u6, u7, u8⟩ := v3 z
    have m3 := (hm1.2.2.1 u (by omega)).2.2.1
    have en : nC (G 1 u) (G 2 u) = G 2 u := if_pos (by omega)
    have bd := hg1.cell u1' u2' (Or.inl u4) (i := j) (by omega)
    obtain ⟨w1, w2, w3, w4, w5, w6, w7⟩ := th_row2 hg1 hc1 hm1 u1' u2' (show G 1 u ≤ 7 by omega)
    have k11 := (hc1.2.2.1 u u1' u2').1.1
    refine stS h hg (by omega) (k := s) (v := J (G 0 u + 1) j) (by omega) (fun I1 J1 R1 e => ?_) (fun I1' J1' e => ?_)
    · rw [eo', ea, eC]
      unfold gX7_readCell
      rw [if_pos (by rw [i_gd (by omega)]; exact id), t41 (by omega)]
      try dsimp only
      rw [es, tX11_isStockT d, if_neg n10, v1, ob_some]
      unfold gX7_readCell_b26
      rw [if_pos z, u7, onl_s, if_pos k11, w3, ob_some, if_pos w2, w1, u6, if_pos (by rw [t41 (by omega), i_ltl (by omega)]; omega), t41 (by omega), e, ob_some, ob_some]
      rfl
    · rw [eo', eM]
      unfold gX12_plain_b100
      rw [na, ob_some, ea, if_pos (by rw [i_gd (by omega)]; exact id), t41 (by omega), nb', ob_some]
      try dsimp only
      rw [v2, ob_some, if_pos z, if_neg (by decide), nc, ob_some, u8, if_pos (by rw [i_gd (by omega)]; exact id), t41 (by omega), ob_some, m3, u6, i_add, show ((G 3 u : Nat) : Int) + (j : Int) = ((G 3 u + j : Nat) : Int) by omega, if_pos (by rw [i_gd (by omega)]; exact id), t41 (by omega), (w7 j u5).2, ← (w7 j u5).1, es, e, ob_some, ob_some]
      try dsimp only
      rw [if_pos rfl]
  · refine stF h hg (k := v) (v := 0) (Or.inr rfl) ?_ ?_ z
    · rw [eo', ea, eC]
      unfold gX7_readCell
      rw [if_pos (by rw [i_gd (by omega)]; exact id), t41 (by omega)]
      try dsimp only
      rw [es, tX11_isStockT d, if_neg n10, v1, ob_some]
      unfold gX7_readCell_b26
      rw [if_neg z, arI, ob_some, ob_some]
      rfl
    · rw [eo', eM]
      unfold gX12_plain_b100
      rw [na, ob_some, ea, if_pos (by rw [i_gd (by omega)]; exact id), t41 (by omega), nb', ob_some]
      try dsimp only
      rw [v2, ob_some, if_neg z, ob_some]
      try dsimp only
      rw [if_neg z, flI k4, ob_some]
theorem st5 {n O : Nat → Nat} {A : Nat → Nat → Int32} {vd : Nat → Int32} {G : Nat → Nat → Nat} {N : Nat → Nat → Int32} {nb sb : Nat} {σ : Shp} {I : Nat → Nat → Int32} {J : Nat → Nat → Int64} {R : Nat → Nat → Option Nat} {I' : Nat → Nat → Int32} {J' : Nat → Nat → Int64} {fc : Nat → Nat} {E : Nat → Nat → Nat} {V : Nat → Nat → Int32} {σ' : Shp} {R' : Nat → Nat → Option Nat} {t st ch x : Nat} (hb : PlB n O) (hS : Skel σ' R') (h : Core n O A vd G N nb sb σ I J R I' J' fc E V (t + 1) st ch) (hg : Bg n O nb sb σ I I' E t st ch x) (eo : op O (E t 1) x = 5) : StOk n O A vd G N nb sb σ' R' σ I J R I' J' E t st x := by
  have eo' : Int32.ofInt (op O (E t 1) x : Nat) = 5 := by rw [eo]; rfl
  have k4 := hS.k 114 13 (by decide) rfl
  obtain ⟨⟨q1, q2, q3⟩, eb, ec, na, nb', nc⟩ := pfC hb h hg
  obtain ⟨i, i1, i2, ea⟩ := rep (A 0 (40 * E t 1 + x))
  by_cases c : 0 ≤ i ∧ i ≤ 15
  case neg =>
    refine stF h hg (k := 2) (v := 0) (Or.inr rfl) ?_ ?_
    · rw [eo', ea]; unfold gX7_perform; rw [if_pos (by rw [ff5]; exact tX11_isBinF (by omega)), arI, ob_some]
    · rw [eo']; unfold bg2; rw [if_pos hb5, an5, na, ob_some, ea, tX12_isBinF (by omega)]; first | rw [ob_some, if_pos rfl, flI k4, ob_some] | rw [if_pos rfl, ob_some, if_pos rfl, flI k4, ob_some]
  obtain ⟨k, rfl⟩ : ∃ k : Nat, i = (k : Int) := ⟨i.toNat, by omega⟩
  have fit : ¬ fX7_firstNumberFits 5 (Int32.ofInt (k : Int)) = 0 := by rw [ff5, tX11_isBinT c]; exact n10
  obtain ⟨C, hg1, hc1, hm1, -⟩ := id h.2.1
  obtain ⟨v, v1, v2, v3⟩ := lookK hg1 hc1 hm1 (show k < 16 by omega)
  have eC : gX7_perform σ I J R (Int32.ofInt (E t 1 : Nat)) 5 (Int32.ofInt (k : Int)) = (gX7_writeCard σ I J R (Int32.ofInt (k : Int)) (A 1 (40 * E t 1 + x))).bind fun (I45, J46, R47) => gX7_perform_b246 σ I45 J46 R47 := by
    unfold gX7_perform; rw [if_neg fit, eb, ob_some, ec, ob_some, if_neg (by decide), if_neg (by decide), if_neg (by decide), if_neg (by decide), if_pos rfl]
  have eM : bg2 σ' I' J' R' 5 = (gX12_plain σ' I' J' R' 5).bind fun (I6, J7, r8) => if r8 = 0 then some (u2 I6 114 58 ((I6 114 58) + (1 : Int32)), J7) else (gX12_fails σ' I6 r8 (0 : Int32)).bind fun I11 => some (I11, J7) := by
    unfold bg2
    rw [if_pos hb5, an5, na, ob_some, ea, tX12_isBinT c, ob_some, if_neg n10, if_neg (by decide), if_neg (by decide), if_neg (by decide)]
  have g4 : (4 : Int32) = Int32.ofInt ((4 : Nat) : Int) := rfl
  by_cases z : v = 0
  · obtain ⟨u, u1', u2', u3, u4, u7, u8⟩ := v3 z
    have m3 := (hm1.2.2.1 u (by omega)).2.2.1
    have en : nC (G 1 u) (G 2 u) = 8 := by unfold nC; rw [if_neg (by omega), if_pos u4]
    have bd := hg1.cell u1' u2' (Or.inr u4) (i := 4) (by omega)
    refine srC h hg (by omega) u1' u2' (Or.inr u4) (i := 4) (v := A 1 (40 * E t 1 + x)) (by omega) (fun I1 J1 R1 e => ?_) (fun I1' J1' e => ?_)
    · rw [eo', ea, eC]
      unfold gX7_writeCard
      rw [if_pos (by rw [i_gd (by omega)]; exact id), t41 (by omega), v1, ob_some, if_pos z, u7]
      rw [show gX8_changeCell σ I J R (some (G 0 u)) 4 (Int32.toInt64 (A 1 (40 * E t 1 + x))) = _ from e, ob_some, ob_some]
      rfl
    · rw [eo', eM]
      unfold gX12_plain
      rw [if_neg (by decide), if_neg (by decide), if_neg (by decide), if_neg (by decide), if_pos rfl, na, ob_some, ea, if_pos (by rw [i_gd (by omega)]; exact id), t41 (by omega)]
      try dsimp only
      rw [v2, ob_some, if_pos z, u8, if_pos (by rw [i_gd (by omega)]; exact id), nb', ob_some, t41 (by omega), m3, i_addl, show ((G 3 u : Nat) : Int) + 4 = ((G 3 u + 4 : Nat) : Int) by omega, e, ob_some, ob_some]
      try dsimp only
      rw [if_pos z]
  · refine stF h hg (k := v) (v := 0) (Or.inr rfl) ?_ ?_ z
    · rw [eo', ea, eC]
      unfold gX7_writeCard
      rw [if_pos (by rw [i_gd (by omega)]; exact id), t41 (by omega), v1, ob_some, if_neg z, arI, ob_some, ob_some]
      rfl
    · rw [eo', eM]
      unfold gX12_plain
      rw [if_neg (by decide), if_neg (by decide), if_neg (by decide), if_neg (by decide), if_pos rfl, na, ob_some, ea, if_pos (by rw [i_gd (by omega)]; exact id), t41 (by omega)]
      try dsimp only
      rw [v2, ob_some, if_neg z, ob_some]
      try dsimp only
      rw [if_neg z, flI k4, ob_some]
theorem st7 {n O : Nat → Nat} {A : Nat → Nat → Int32} {vd : Nat → Int32} {G : Nat → Nat → Nat} {N : Nat → Nat → Int32} {nb sb : Nat} {σ : Shp} {I : Nat → Nat → Int32} {J : Nat → Nat → Int64} {R : Nat → Nat → Option Nat} {I' : Nat → Nat → Int32} {J' : Nat → Nat → Int64} {fc : Nat → Nat} {E : Nat → Nat → Nat} {V : Nat → Nat → Int32} {σ' : Shp} {R' : Nat → Nat → Option Nat} {t st ch x : Nat} (hb : PlB n O) (hS : Skel σ' R') (h : Core n O A vd G N nb sb σ I J R I' J' fc E V (t + 1) st ch) (hg : Bg n O nb sb σ I I' E t st ch x) (eo : op O (E t 1) x = 7) : StOk n O A vd G N nb sb σ' R' σ I J R I' J' E t st x := by
  have eo' : Int32.ofInt (op O (E t 1) x : Nat) = 7 := by rw [eo]; rfl
  have k4 := hS.k 114 13 (by decide) rfl
  obtain ⟨⟨q1, q2, q3⟩, eb, ec, na, nb', nc⟩ := pfC hb h hg
  have fit : ¬ fX7_firstNumberFits 7 (A 0 (40 * E t 1 + x)) = 0 := by rw [ff7]; exact n10
  refine stF h hg (k := 8) (v := A 0 (40 * E t 1 + x)) (Or.inl rfl) ?_ ?_
  · rw [eo']
    unfold gX7_perform; rw [if_neg fit, eb, ob_some, ec, ob_some, if_neg (by decide), if_neg (by decide), if_neg (by decide), if_neg (by decide), if_neg (by decide), if_neg (by decide), if_pos rfl, arI, ob_some]
    rfl
  · rw [eo']; unfold bg2; rw [if_pos hb7, an7, ob_some, if_neg n10, if_pos rfl, na, ob_some, flI k4, ob_some]
theorem st9 {n O : Nat → Nat} {A : Nat → Nat → Int32} {vd : Nat → Int32} {G : Nat → Nat → Nat} {N : Nat → Nat → Int32} {nb sb : Nat} {σ : Shp} {I : Nat → Nat → Int32} {J : Nat → Nat → Int64} {R : Nat → Nat → Option Nat} {I' : Nat → Nat → Int32} {J' : Nat → Nat → Int64} {fc : Nat → Nat} {E : Nat → Nat → Nat} {V : Nat → Nat → Int32} {σ' : Shp} {R' : Nat → Nat → Option Nat} {t st ch x : Nat} (hb : PlB n O) (hS : Skel σ' R') (h : Core n O A vd G N nb sb σ I J R I' J' fc E V (t + 1) st ch) (hg : Bg n O nb sb σ I I' E t st ch x) (eo : op O (E t 1) x = 9) : StOk n O A vd G N nb sb σ' R' σ I J R I' J' E t st x := by
  have eo' : Int32.ofInt (op O (E t 1) x : Nat) = 9 := by rw [eo]; rfl
  have k4 := hS.k 114 13 (by decide) rfl
  obtain ⟨⟨q1, q2, q3⟩, eb, ec, na, nb', nc⟩ := pfC hb h hg
  obtain ⟨i, i1, i2, ea⟩ := rep (A 0 (40 * E t 1 + x))
  by_cases c : 0 ≤ i ∧ i ≤ 2
  case neg =>
    refine stF h hg (k := 2) (v := 0) (Or.inr rfl) ?_ ?_
    · rw [eo', ea]; unfold gX7_perform; rw [if_pos (by rw [ff9]; exact tX11_isValveF (by omega)), arI, ob_some]
    · rw [eo']; unfold bg2; rw [if_pos hb9, an9, na, ob_some, ea, tX12_inF (by omega)]; first | rw [ob_some, if_pos rfl, flI k4, ob_some] | rw [if_pos rfl, ob_some, if_pos rfl, flI k4, ob_some]
  obtain ⟨k, rfl⟩ : ∃ k : Nat, i = (k : Int) := ⟨i.toNat, by omega⟩
  have fit : ¬ fX7_firstNumberFits 9 (Int32.ofInt (k : Int)) = 0 := by rw [ff9, tX11_isValveT c]; exact n10
  have hv := (h.2.2.2.2.2.1.2.2.2.1 k (by omega)).2
  have eM : bg2 σ' I' J' R' 9 = (gX12_plain σ' I' J' R' 9).bind fun (I6, J7, r8) => if r8 = 0 then some (u2 I6 114 58 ((I6 114 58) + (1 : Int32)), J7) else (gX12_fails σ' I6 r8 (0 : Int32)).bind fun I11 => some (I11, J7) := by
    unfold bg2
    rw [if_pos hb9, an9, na, ob_some, ea, tX12_inT (by omega), ob_some, if_neg n10, if_neg (by decide), if_neg (by decide), if_neg (by decide)]
  by_cases z : I 20 k = 0
  · refine stF h hg (k := 7) (v := 0) (Or.inr rfl) ?_ ?_
    · rw [eo', ea]
      unfold gX7_perform; rw [if_neg fit, eb, ob_some, ec, ob_some, if_neg (by decide), if_neg (by decide), if_neg (by decide), if_neg (by decide), if_neg (by decide), if_neg (by decide), if_neg (by decide), if_neg (by decide), if_pos rfl]
      rw [if_pos (by rw [i_gd (by omega)]; exact id), t41 (by omega), if_pos z, arI, ob_some]
      rfl
    · rw [eo', eM]
      unfold gX12_plain
      rw [if_neg (by decide), if_neg (by decide), if_neg (by decide), if_neg (by decide), if_neg (by decide), if_neg (by decide), na, ob_some, ea, if_pos (by rw [i_gd (by omega)]; exact id), t41 (by omega), ← hv, if_pos z, ob_some]
      try dsimp only
      rw [if_neg (by decide), flI k4, ob_some]
  · refine stP hg (by omega) h rfl rfl rfl Ag.rf Ag.rf Ag.rf Ag.rf Ag.rf ?_ ?_
    · rw [eo', ea]
      unfold gX7_perform; rw [if_neg fit, eb, ob_some, ec, ob_some, if_neg (by decide), if_neg (by decide), if_neg (by decide), if_neg (by decide), if_neg (by decide), if_neg (by decide), if_neg (by decide), if_neg (by decide), if_pos rfl]
      rw [if_pos (by rw [i_gd (by omega)]; exact id), t41 (by omega), if_neg z]
      rfl
    · rw [eo', eM]
      unfold gX12_plain
      rw [if_neg (by decide), if_neg (by decide), if_neg (by decide), if_neg (by decide), if_neg (by decide), if_neg (by decide), na, ob_some, ea, if_pos (by rw [i_gd (by omega)]; exact id), t41 (by omega), ← hv, if_neg z, ob_some]
      try dsimp only
      rw [if_pos rfl]
