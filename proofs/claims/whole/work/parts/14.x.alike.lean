/-! ===== alike: the class's things ===== -/
def EqR (G : Nat → Nat → Nat) (C : Nat → Int64) (x y : Nat) : Prop := x = y ∨ (x ≠ 0 ∧ y ≠ 0 ∧ G 1 x = G 1 y ∧ EC G C x y)
def AG' (G : Nat → Nat → Nat) (C : Nat → Int64) (x y : Nat) : Prop := G 2 x = G 2 y ∧ ∀ k, k < G 2 x → EqR G C (G 4 (G 3 x + k)) (G 4 (G 3 y + k))
def EqG (G : Nat → Nat → Nat) (C : Nat → Int64) (x y : Nat) : Prop := x = y ∨ (x ≠ 0 ∧ y ≠ 0 ∧ AG' G C x y)
/-- the head of equalThings -/
theorem eqT_h {G : Nat → Nat → Nat} {C : Nat → Int64} {N : Nat → Nat → Int32} {σ : Shp} {I : Nat → Nat → Int32} {J : Nat → Nat → Int64} {R : Nat → Nat → Option Nat} {x y n : Nat} {lv : Int32} (hc : TCl G C N σ I J R) (hx : x ≤ G 10 0) (hy : y ≤ G 10 0) : (x = y ∧ gX11_equalThings (n + 1) σ I J R (pn G x) (pn G y) lv = some 1) ∨ (x ≠ y ∧ (x = 0 ∨ y = 0) ∧ gX11_equalThings (n + 1) σ I J R (pn G x) (pn G y) lv = some 0) ∨ (x ≠ y ∧ x ≠ 0 ∧ y ≠ 0 ∧ gX11_equalThings (n + 1) σ I J R (pn G x) (pn G y) lv = if I (G 0 x) 0 = I (G 0 y) 0 then if I (G 0 x) 0 = 16 then some 0 else if lv ≤ 3 then (gX11_equalCells σ J R (some (G 0 x)) (some (G 0 y))).bind fun r7 => if r7 = 0 then some 0 else ((R (G 0 x) 2) : Option Nat).bind fun a9 => if kdx σ a9 = 26 then ((R (G 0 y) 2) : Option Nat).bind fun a11 => if kdx σ a11 = 26 then if Int32.ofNat (lnx σ a9) = Int32.ofNat (lnx σ a11) then gX11_equalThings_l67 (gX11_equalThings n) σ I J R FUx (some (G 0 x)) (some (G 0 y)) lv 0 else some 0 else none else none else some 0 else some 0) := by
  have ox := ok_pn hc hx
  have oy := ok_pn hc hy
  by_cases c : x = y
  · refine Or.inl ⟨c, ?_⟩
    rw [gX11_equalThings, if_pos ox, if_pos oy, if_pos (by rw [c])]
  · have cp : ¬ pn G x = pn G y := fun h => c (pn_inj hc hx hy h)
    by_cases zx : x = 0
    · refine Or.inr (Or.inl ⟨c, Or.inl zx, ?_⟩)
      rw [gX11_equalThings, if_pos ox, if_pos oy, if_neg cp, zx, pn_0]
      rfl
    by_cases zy : y = 0
    · refine Or.inr (Or.inl ⟨c, Or.inr zy, ?_⟩)
      rw [gX11_equalThings, if_pos ox, if_pos oy, if_neg cp, zy, pn_0, pn_1 (by omega)]
      rfl
    refine Or.inr (Or.inr ⟨c, zx, zy, ?_⟩)
    have kx := (hc.2.2.1 x (by omega) hx).1.1
    have ky := (hc.2.2.1 y (by omega) hy).1.1
    rw [gX11_equalThings, if_pos ox, if_pos oy, if_neg cp, pn_1 (show 1 ≤ x by omega), pn_1 (show 1 ≤ y by omega)]
    simp only [onl_s]
    rw [if_pos kx, if_pos ky]
theorem eqT_R {G : Nat → Nat → Nat} {C : Nat → Int64} {N : Nat → Nat → Int32} {σ : Shp} {I : Nat → Nat → Int32} {J : Nat → Nat → Int64} {R : Nat → Nat → Option Nat} {x y n : Nat} {lv : Int32} (hg : TSg G C N) (hc : TCl G C N σ I J R) (hx : x ≤ G 10 0) (hy : y ≤ G 10 0) (fx : x ≠ 0 → G 1 x ≤ 7) (fy : y ≠ 0 → G 1 y ≤ 7) (hl : lv ≤ 3) : Dec (gX11_equalThings (n + 1) σ I J R (pn G x) (pn G y) lv) (EqR G C x y) := by
  rcases eqT_h (n := n) (lv := lv) hc hx hy with ⟨a, b⟩ | ⟨a, b, d⟩ | ⟨a, zx, zy, b⟩
  · exact Or.inl ⟨b, Or.inl a⟩
  · refine Or.inr ⟨d, fun h => ?_⟩
    rcases h with h | ⟨h1, h2, -⟩
    · exact a h
    · rcases b with b | b
      · exact h1 b
      · exact h2 b
  · have f1 := fx zx
    have f2 := fy zy
    obtain ⟨⟨a1, -, a3, -, a5, -, a7⟩, ⟨b1, -⟩, -⟩ := hc.2.2.1 x (by omega) hx
    obtain ⟨⟨c1, -, c3, -, c5, -, c7⟩, ⟨d1, -⟩, -⟩ := hc.2.2.1 y (by omega) hy
    have px : nP (G 1 x) (G 2 x) (G 7 x) = 0 := if_pos f1
    have py : nP (G 1 y) (G 2 y) (G 7 y) = 0 := if_pos f2
    rw [px] at a7
    rw [py] at c7
    rw [b1, d1] at b
    by_cases c : G 1 x = G 1 y
    case neg =>
      rw [if_neg (by rw [i_eq (by omega) (by omega)]; omega)] at b
      refine Or.inr ⟨b, fun h => ?_⟩
      rcases h with h | ⟨-, -, h, -⟩
      · exact a h
      · exact c h
    rw [if_pos (by rw [c]), if_neg (by rw [i_eql (by omega)]; omega), if_pos hl] at b
    rcases eqC_C hg hc (show 1 ≤ x by omega) hx (show 1 ≤ y by omega) hy with ⟨e1, e2⟩ | ⟨e1, e2⟩
    · rw [e1, ob_some, if_neg n10, a3, ob_some, if_pos a5, c3, ob_some, if_pos c5, a7, c7, if_pos rfl] at b
      refine Or.inl ⟨?_, Or.inr ⟨zx, zy, c, e2⟩⟩
      rw [b, show FUx = 1999999 + 1 from rfl, gX11_equalThings_l67, ob_some, if_pos a1, a3, ob_some, if_pos a5, a7, if_pos (by decide)]
    · rw [e1, ob_some, if_pos rfl] at b
      refine Or.inr ⟨b, fun h => ?_⟩
      rcases h with h | ⟨-, -, -, h⟩
      · exact a h
      · exact e2 h
theorem eqT_T {G : Nat → Nat → Nat} {C : Nat → Int64} {N : Nat → Nat → Int32} {σ : Shp} {I : Nat → Nat → Int32} {J : Nat → Nat → Int64} {R : Nat → Nat → Option Nat} {x y n : Nat} {lv : Int32} (hc : TCl G C N σ I J R) (hx : x ≤ G 10 0) (hy : y ≤ G 10 0) (fx : x ≠ 0 → G 1 x = 16) (fy : y ≠ 0 → G 1 y = 16) : Dec (gX11_equalThings (n + 1) σ I J R (pn G x) (pn G y) lv) (x = y) := by
  rcases eqT_h (n := n) (lv := lv) hc hx hy with ⟨a, b⟩ | ⟨a, b, d⟩ | ⟨a, zx, zy, b⟩
  · exact Or.inl ⟨b, a⟩
  · exact Or.inr ⟨d, a⟩
  · obtain ⟨-, ⟨b1, -⟩, -⟩ := hc.2.2.1 x (by omega) hx
    obtain ⟨-, ⟨d1, -⟩, -⟩ := hc.2.2.1 y (by omega) hy
    rw [b1, d1, fx zx, fy zy, if_pos rfl, if_pos (by decide)] at b
    exact Or.inr ⟨b, a⟩
/-- the loop over the places -/
theorem eqT_l {G : Nat → Nat → Nat} {C : Nat → Int64} {N : Nat → Nat → Int32} {σ : Shp} {I : Nat → Nat → Int32} {J : Nat → Nat → Int64} {R : Nat → Nat → Option Nat} {x y : Nat} {lv : Int32} {P : Nat → Prop} {fr : Shp → (Nat → Nat → Int32) → (Nat → Nat → Int64) → (Nat → Nat → Option Nat) → Option Nat → Option Nat → Int32 → Option Int32} (hg : TSg G C N) (hc : TCl G C N σ I J R) (x1 : 1 ≤ x) (x2 : x ≤ G 10 0) (y1 : 1 ≤ y) (y2 : y ≤ G 10 0) (fx : 8 ≤ G 1 x ∧ G 1 x ≤ 15) (fy : 8 ≤ G 1 y ∧ G 1 y ≤ 15) (ez : G 2 x = G 2 y) (hP : ∀ k, k < G 2 x → Dec (fr σ I J R (pn G (G 4 (G 3 x + k))) (pn G (G 4 (G 3 y + k))) (lv + 1)) (P k)) : ∀ (w k n : Nat), w < n → k + w = G 2 x → Dec (gX11_equalThings_l67 fr σ I J R n (some (G 0 x)) (some (G 0 y)) lv (Int32.ofInt k)) (∀ q, k ≤ q → q < G 2 x → P q) := by
  obtain ⟨p1, p2, p3, p4, p5, p6⟩ := cth_pl hc x1 x2 fx
  obtain ⟨q1, q2, q3, q4, q5, q6⟩ := cth_pl hc y1 y2 fy
  have lx := (hg.2.2.1 x x1 x2).2.2.2.2.1 fx.1
  intro w
  induction w with
  | zero =>
    intro k n hn hk
    obtain ⟨n, rfl⟩ : ∃ m, n = m + 1 := ⟨n - 1, by omega⟩
    refine Or.inl ⟨?_, fun q h1 h2 => by omega⟩
    rw [gX11_equalThings_l67, ob_some, if_pos p1, p2, ob_some, if_pos p3, p4, nat32, if_pos (by rw [i_le (by omega) (by omega)]; omega)]
  | succ w ih =>
    intro k n hn hk
    obtain ⟨n, rfl⟩ : ∃ m, n = m + 1 := ⟨n - 1, by omega⟩
    have e1 := p5 k (by omega)
    have e2 := q5 k (by omega)
    have ek : ((k : Int) + 1) = ((k + 1 : Nat) : Int) := by omega
    have u : gX11_equalThings_l67 fr σ I J R (n + 1) (some (G 0 x)) (some (G 0 y)) lv (Int32.ofInt k) = (fr σ I J R (pn G (G 4 (G 3 x + k))) (pn G (G 4 (G 3 y + k))) (lv + 1)).bind fun r23 => if r23 = 0 then some 0 else gX11_equalThings_l67 fr σ I J R n (some (G 0 x)) (some (G 0 y)) lv (Int32.ofInt ((k + 1 : Nat) : Int)) := by
      rw [gX11_equalThings_l67]
      simp (disch := omega) only [fail_r, no_r, nob_r, fI_o, Nat.reduceLeDiff, ↓reduceIte, not_true_eq_false, not_false_eq_true, false_imp_iff, true_imp_iff, and_true, true_and, and_self, implies_true, false_or, or_false, true_or, or_true, d10, d01, d00, d11, g_tn, Tot_some, Tot_none, Tot_ite, Tot_bind, ob_some, onl_n, onl_s, nat32, Int.toNat_natCast, i_add, i_sub, i_mul, i_addl, i_addr, i_subl, i_subr, i_mulr, i_addn, i_gd, i_tn, i_w, i_ltlT, i_ltlF, i_ltrT, i_ltrF, i_lelT, i_lelF, i_lerT, i_lerF, i_eqlT, i_eqlF, i_eqrT, i_eqrF, i_ltnT, i_ltnF, i_lenT, i_lenF, i_eqnT, i_eqnF, i_ltT, i_ltF, i_leT, i_leF, i_eqT, i_eqF, j_ltlT, j_ltlF, j_ltrT, j_ltrF, j_lelT, j_lelF, j_lerT, j_lerF, j_eqlT, j_eqlF, j_ltT, j_ltF, j_leT, j_leF, j_eqT, j_eqF, i_mull, l_tn, l_lt0, l_ne0, nleF, tX11_isStockT, tX11_isStockF, tX11_isBinT, tX11_isBinF, tX11_isPlanT, tX11_isPlanF, tX11_isValveT, tX11_isValveF, tX11_isLaneT, tX11_isLaneF, tX11_isGridFormT, tX11_isGridFormF, tX11_isFormT, tX11_isFormF, tX11_isTrayFormT, tX11_isTrayFormF, tX11_isPlacesFormT, tX11_isPlacesFormF, tX11_isTableT, tX11_isTableF, tX11_isProbeT, tX11_isProbeF, tX11_isHouseT, tX11_isHouseF, tX11_isPestT, tX11_isPestF, tX11_isStageT, tX11_isStageF, tX11_isPartT, tX11_isPartF, tX12_isBinT, tX12_isBinF, tX12_isTableT, tX12_isTableF, tX12_inT, tX12_inF, tX12_innT, tX12_innF, tX12_ingT, tX12_ingF, tX12_isStageT, tX12_isStageF, tX1_isByteT, tX1_isByteF, p1, p2, p3, p4, p6, q1, q2, q3, q4, e1, e2, ek]
    rw [u]
    rcases hP k (by omega) with ⟨a, b⟩ | ⟨a, b⟩
    · rw [a, ob_some, if_neg n10]
      refine (ih (k + 1) n (by omega) (by omega)).of ⟨fun h q h1 h2 => ?_, fun h q h1 h2 => h q (by omega) h2⟩
      by_cases d : q = k
      · rw [d]; exact b
      · exact h q (by omega) h2
    · rw [a, ob_some, if_pos rfl]
      exact Or.inr ⟨rfl, fun h => b (h k (Nat.le_refl _) (by omega))⟩
theorem eqT_P {G : Nat → Nat → Nat} {C : Nat → Int64} {N : Nat → Nat → Int32} {σ : Shp} {I : Nat → Nat → Int32} {J : Nat → Nat → Int64} {R : Nat → Nat → Option Nat} {x y n : Nat} {lv : Int32} {P : Nat → Prop} (hg : TSg G C N) (hc : TCl G C N σ I J R) (x1 : 1 ≤ x) (x2 : x ≤ G 10 0) (y1 : 1 ≤ y) (y2 : y ≤ G 10 0) (hxy : x ≠ y) (fx : 8 ≤ G 1 x ∧ G 1 x ≤ 15) (fy : G 1 x = G 1 y) (hl : lv ≤ 3) (hP : G 2 x = G 2 y → ∀ k, k < G 2 x → Dec (gX11_equalThings n σ I J R (pn G (G 4 (G 3 x + k))) (pn G (G 4 (G 3 y + k))) (lv + 1)) (P k)) : Dec (gX11_equalThings (n + 1) σ I J R (pn G x) (pn G y) lv) (G 2 x = G 2 y ∧ ∀ k, k < G 2 x → P k) := by
  rcases eqT_h (n := n) (lv := lv) hc x2 y2 with ⟨a, b⟩ | ⟨a, b, d⟩ | ⟨a, zx, zy, b⟩
  · exact absurd a hxy
  · omega
  · obtain ⟨p1, p2, p3, p4, p5, p6⟩ := cth_pl hc x1 x2 fx
    obtain ⟨q1, q2, q3, q4, q5, q6⟩ := cth_pl hc y1 y2 (by omega)
    have lx := (hg.2.2.1 x x1 x2).2.2.2.2.1 fx.1
    have ly := (hg.2.2.1 y y1 y2).2.2.2.2.1 (by omega)
    have nx : nC (G 1 x) (G 2 x) = 0 := by unfold nC; rw [if_neg (by omega), if_neg (by omega)]
    have ny : nC (G 1 y) (G 2 y) = 0 := by unfold nC; rw [if_neg (by omega), if_neg (by omega)]
    have ec : EC G C x y := ⟨by rw [nx, ny], fun k hk => by omega⟩
    have eq : gX11_equalCells σ J R (some (G 0 x)) (some (G 0 y)) = some 1 := by
      rcases eqC_C hg hc x1 x2 y1 y2 with ⟨e1, -⟩ | ⟨-, e2⟩
      · exact e1
      · exact absurd ec e2
    rw [p6, q6, if_pos (by rw [fy]), if_neg (by rw [i_eql (by omega)]; omega), if_pos hl, eq, ob_some, if_neg n10, p2, ob_some, if_pos p3, q2, ob_some, if_pos q3, p4, q4, nat32, nat32] at b
    rw [b]
    by_cases c : G 2 x = G 2 y
    · rw [if_pos (by rw [c])]
      exact (eqT_l hg hc x1 x2 y1 y2 fx (by omega) c (hP c) (G 2 x) 0 FUx (by rw [FUx_eq]; omega) (by omega)).of ⟨fun h => ⟨c, fun k hk => h k (by omega) hk⟩, fun h q _ hq => h.2 q hq⟩
    · rw [if_neg (by rw [i_eq (by omega) (by omega)]; omega)]
      exact Or.inr ⟨rfl, fun h => c h.1⟩
theorem kidF {G : Nat → Nat → Nat} {C : Nat → Int64} {N : Nat → Nat → Int32} (hg : TSg G C N) {x k : Nat} (x1 : 1 ≤ x) (x2 : x ≤ G 10 0) (fx : 8 ≤ G 1 x ∧ G 1 x ≤ 15) (hk : k < G 2 x) : G 4 (G 3 x + k) ≤ G 10 0 ∧ (G 4 (G 3 x + k) ≠ 0 → (G 1 x ≤ 10 → G 1 (G 4 (G 3 x + k)) = gl (G 1 x)) ∧ (G 1 x = 11 → G 1 (G 4 (G 3 x + k)) = 9) ∧ (12 ≤ G 1 x → G 1 (G 4 (G 3 x + k)) = 16)) := by
  have := (hg.2.2.1 x x1 x2).2.2.2.2.2.2.2.2.2.1 fx.1 fx.2 k hk
  refine ⟨this.1, fun h => ?_⟩
  have p := this.2 h
  unfold plFor at p
  refine ⟨fun q => ?_, fun q => ?_, fun q => ?_⟩
  · unfold gl
    rcases (show G 1 x = 8 ∨ G 1 x = 9 ∨ G 1 x = 10 by omega) with e | e | e
    · rw [if_pos e]; exact p.1 e
    · rw [if_neg (by omega), if_pos e]; exact p.2.1 e
    · rw [if_neg (by omega), if_neg (by omega)]; exact p.2.2.1 e
  · exact p.2.2.2.1 q
  · exact p.2.2.2.2 q
theorem eqT_G {G : Nat → Nat → Nat} {C : Nat → Int64} {N : Nat → Nat → Int32} {σ : Shp} {I : Nat → Nat → Int32} {J : Nat → Nat → Int64} {R : Nat → Nat → Option Nat} {x y n : Nat} {lv : Int32} (hg : TSg G C N) (hc : TCl G C N σ I J R) (x1 : 1 ≤ x) (x2 : x ≤ G 10 0) (y1 : 1 ≤ y) (y2 : y ≤ G 10 0) (hxy : x ≠ y) (fx : 8 ≤ G 1 x ∧ G 1 x ≤ 10) (fy : G 1 x = G 1 y) (hl : lv ≤ 3) (hl2 : lv + 1 ≤ 3) : Dec (gX11_equalThings (n + 2) σ I J R (pn G x) (pn G y) lv) (AG' G C x y) := by
  refine eqT_P hg hc x1 x2 y1 y2 hxy (by omega) fy hl (fun ez k hk => ?_)
  have kx := kidF hg x1 x2 (by omega) hk
  have ky := kidF hg y1 y2 (by omega) (show k < G 2 y by omega)
  have g1 := gl_le (G 1 x)
  have g2 := gl_le (G 1 y)
  exact eqT_R hg hc kx.1 ky.1 (fun h => by have := (kx.2 h).1 (by omega); omega) (fun h => by have := (ky.2 h).1 (by omega); omega) hl2
theorem eqT_S {G : Nat → Nat → Nat} {C : Nat → Int64} {N : Nat → Nat → Int32} {σ : Shp} {I : Nat → Nat → Int32} {J : Nat → Nat → Int64} {R : Nat → Nat → Option Nat} {x y n : Nat} {lv : Int32} (hg : TSg G C N) (hc : TCl G C N σ I J R) (x2 : x ≤ G 10 0) (y2 : y ≤ G 10 0) (fx : x ≠ 0 → G 1 x = 9) (fy : y ≠ 0 → G 1 y = 9) (hl : lv ≤ 3) (hl2 : lv + 1 ≤ 3) : Dec (gX11_equalThings (n + 2) σ I J R (pn G x) (pn G y) lv) (EqG G C x y) := by
  rcases eqT_h (n := n + 1) (lv := lv) hc x2 y2 with ⟨a, b⟩ | ⟨a, b, d⟩ | ⟨a, zx, zy, b⟩
  · exact Or.inl ⟨b, Or.inl a⟩
  · refine Or.inr ⟨d, fun h => ?_⟩
    rcases h with h | ⟨h1, h2, -⟩
    · exact a h
    · rcases b with b | b
      · exact h1 b
      · exact h2 b
  · have f1 := fx zx
    have f2 := fy zy
    refine (eqT_G (n := n) hg hc (by omega) x2 (by omega) y2 a (by omega) (by omega) hl hl2).of ⟨fun h => Or.inr ⟨zx, zy, h⟩, fun h => ?_⟩
    rcases h with h | ⟨-, -, h⟩
    · exact absurd h a
    · exact h
/-- cards -/
theorem eqT_K {G : Nat → Nat → Nat} {C : Nat → Int64} {N : Nat → Nat → Int32} {σ : Shp} {I : Nat → Nat → Int32} {J : Nat → Nat → Int64} {R : Nat → Nat → Option Nat} {x y n : Nat} {lv : Int32} (hg : TSg G C N) (hc : TCl G C N σ I J R) (x1 : 1 ≤ x) (x2 : x ≤ G 10 0) (y1 : 1 ≤ y) (y2 : y ≤ G 10 0) (hxy : x ≠ y) (fx : G 1 x = 17) (fy : G 1 y = 17) (hl : lv ≤ 3) : Dec (gX11_equalThings (n + 1) σ I J R (pn G x) (pn G y) lv) ((G 5 x = G 5 y ∧ G 6 x = G 6 y) ∧ EC G C x y) := by
  rcases eqT_h (n := n) (lv := lv) hc x2 y2 with ⟨a, b⟩ | ⟨a, b, d⟩ | ⟨a, zx, zy, b⟩
  · exact absurd a hxy
  · omega
  · obtain ⟨⟨a1, -, a3, -, a5, -, a7⟩, ⟨b1, -⟩, -, -, aE⟩ := hc.2.2.1 x x1 x2
    obtain ⟨⟨c1, -, c3, -, c5, -, c7⟩, ⟨d1, -⟩, -, -, cE⟩ := hc.2.2.1 y y1 y2
    have aE := aE (Or.inl fx)
    have cE := cE (Or.inl fy)
    have hx := hg.2.2.1 x x1 x2
    have hy := hg.2.2.1 y y1 y2
    have h5 := hx.2.2.2.2.2.2.2.2.2.2.1
    have h6 := hx.2.2.2.2.2.2.2.2.2.2.2.1
    have i5 := hy.2.2.2.2.2.2.2.2.2.2.1
    have i6 := hy.2.2.2.2.2.2.2.2.2.2.2.1
    rw [fx] at a3 a5 a7 aE b1
    rw [fy] at c3 c5 c7 cE d1
    rw [show nP 17 (G 2 x) (G 7 x) = 2 from rfl] at a7
    rw [show nP 17 (G 2 y) (G 7 y) = 2 from rfl] at c7
    have b1' : I (G 0 x) 0 = 17 := b1
    rw [b1', show I (G 0 y) 0 = 17 from d1, if_pos rfl, if_neg (by decide), if_pos hl] at b
    rcases eqC_C hg hc x1 x2 y1 y2 with ⟨e1, e2⟩ | ⟨e1, e2⟩
    case inr =>
      rw [e1, ob_some, if_pos rfl] at b
      exact Or.inr ⟨b, fun h => e2 h.2⟩
    rw [e1, ob_some, if_neg n10, a3, ob_some, if_pos a5, c3, ob_some, if_pos c5, a7, c7, if_pos rfl] at b
    rw [b]
    have q0 : ¬ ((0 : Int32) < 0 ∨ 2 ≤ Int32.toNatClampNeg (0 : Int32)) := by decide
    have q1 : ¬ ((1 : Int32) < 0 ∨ 2 ≤ Int32.toNatClampNeg (1 : Int32)) := by decide
    have t0 : Int32.toNatClampNeg (0 : Int32) = 0 := rfl
    have t1 : Int32.toNatClampNeg (1 : Int32) = 1 := rfl
    have o1 := ok_pn hc h5
    have o2 := ok_pn hc h6
    have o3 := ok_pn hc i5
    have o4 := ok_pn hc i6
    rw [show FUx = 1999999 + 1 from rfl, gX11_equalThings_l67]
    rw [ob_some, if_pos a1, a3, ob_some, if_pos a5, a7, if_neg (by decide +kernel), if_pos b1', if_pos q0]
    rw [ob_some, if_pos c1, c3, ob_some, if_pos c5, c7, if_pos q0, t0, aE.1, cE.1, if_pos o1, if_pos o3]
    by_cases w5 : G 5 x = G 5 y
    case neg =>
      rw [if_neg (fun h => w5 (pn_inj hc h5 i5 h)), if_pos rfl]
      exact Or.inr ⟨rfl, fun h => w5 h.1.1⟩
    rw [if_pos (by rw [w5]), if_neg n10]
    show Dec (gX11_equalThings_l67 (gX11_equalThings n) σ I J R (1999998 + 1) (some (G 0 x)) (some (G 0 y)) lv 1) _
    rw [gX11_equalThings_l67]
    rw [ob_some, if_pos a1, a3, ob_some, if_pos a5, a7, if_neg (by decide +kernel), if_pos b1', if_pos q1]
    rw [ob_some, if_pos c1, c3, ob_some, if_pos c5, c7, if_pos q1, t1, aE.2, cE.2, if_pos o2, if_pos o4]
    by_cases w6 : G 6 x = G 6 y
    case neg =>
      rw [if_neg (fun h => w6 (pn_inj hc h6 i6 h)), if_pos rfl]
      exact Or.inr ⟨rfl, fun h => w6 h.1.2⟩
    rw [if_pos (by rw [w6]), if_neg n10]
    show Dec (gX11_equalThings_l67 (gX11_equalThings n) σ I J R (1999997 + 1) (some (G 0 x)) (some (G 0 y)) lv 2) _
    rw [gX11_equalThings_l67]
    rw [ob_some, if_pos a1, a3, ob_some, if_pos a5, a7, if_pos (by decide +kernel)]
    exact Or.inl ⟨rfl, ⟨w5, w6⟩, e2⟩
