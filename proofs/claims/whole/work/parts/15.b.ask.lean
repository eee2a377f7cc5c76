/-! ===== ask: the model's walk over a graft ===== -/
abbrev TrM (m : Nat) (l : List Int32) (I I' : Nat → Nat → Int32) : Prop := Tr [(129, 133), (1000024, 1000025), (1000029, 1000031)] 129 114 24 m l I I'
theorem bod_M {I : Nat → Nat → Int32} {m : Nat} {x : Int32} (h : I 114 24 = Int32.ofInt (m : Int)) (hm : m < 200) : gX12_body I x = some (u2 (u2 I 129 m x) 114 24 (Int32.ofInt ((m + 1 : Nat) : Int))) := by
  have ek : ((m : Int) + 1) = ((m + 1 : Nat) : Int) := by omega
  unfold gX12_body
  simp (disch := omega) only [fail_r, no_r, nob_r, fI_o, Nat.reduceLeDiff, ↓reduceIte, not_true_eq_false, not_false_eq_true, false_imp_iff, true_imp_iff, and_true, true_and, and_self, implies_true, false_or, or_false, true_or, or_true, d10, d01, d00, d11, g_tn, Tot_some, Tot_none, Tot_ite, Tot_bind, ob_some, onl_n, onl_s, nat32, Int.toNat_natCast, i_add, i_sub, i_mul, i_addl, i_addr, i_subl, i_subr, i_mulr, i_addn, i_gd, i_tn, i_w, i_ltlT, i_ltlF, i_ltrT, i_ltrF, i_lelT, i_lelF, i_lerT, i_lerF, i_eqlT, i_eqlF, i_eqrT, i_eqrF, i_ltnT, i_ltnF, i_lenT, i_lenF, i_eqnT, i_eqnF, i_ltT, i_ltF, i_leT, i_leF, i_eqT, i_eqF, j_ltlT, j_ltlF, j_ltrT, j_ltrF, j_lelT, j_lelF, j_lerT, j_lerF, j_eqlT, j_eqlF, j_ltT, j_ltF, j_leT, j_leF, j_eqT, j_eqF, i_mull, l_tn, l_lt0, l_ne0, nleF, tX11_isStockT, tX11_isStockF, tX11_isBinT, tX11_isBinF, tX11_isPlanT, tX11_isPlanF, tX11_isValveT, tX11_isValveF, tX11_isLaneT, tX11_isLaneF, tX11_isGridFormT, tX11_isGridFormF, tX11_isFormT, tX11_isFormF, tX11_isTrayFormT, tX11_isTrayFormF, tX11_isPlacesFormT, tX11_isPlacesFormF, tX11_isTableT, tX11_isTableF, tX11_isProbeT, tX11_isProbeF, tX11_isHouseT, tX11_isHouseF, tX11_isPestT, tX11_isPestF, tX11_isStageT, tX11_isStageF, tX11_isPartT, tX11_isPartF, tX12_isBinT, tX12_isBinF, tX12_isTableT, tX12_isTableF, tX12_inT, tX12_inF, tX12_innT, tX12_innF, tX12_ingT, tX12_ingF, tX12_isStageT, tX12_isStageF, tX1_isByteT, tX1_isByteF, h, ek, u2n]
theorem bod_T {I : Nat → Nat → Int32} {m : Nat} {x : Int32} : TrM m [x] I (u2 (u2 I 129 m x) 114 24 (Int32.ofInt ((m + 1 : Nat) : Int))) := Tr.one (by omega) rfl rfl
theorem bod_o {I : Nat → Nat → Int32} {m b j : Nat} {x : Int32} (h : b ≠ 129 ∧ ¬ (b = 114 ∧ j = 24)) : u2 (u2 I 129 m x) 114 24 (Int32.ofInt ((m + 1 : Nat) : Int)) b j = I b j := by rw [u2n (by omega), u2n (by omega)]
theorem TrM.mo' {G : Nat → Nat → Nat} {C : Nat → Int64} {N : Nat → Nat → Int32} {I I' : Nat → Nat → Int32} {J : Nat → Nat → Int64} {m : Nat} {l : List Int32} (h : TrM m l I I') (hm : TMo G C N I J) : TMo G C N I' J := hm.kp (h.2.2.2.kp rfl) Kp.rf
def St (p : Nat) (I I' : Nat → Nat → Int32) : Prop := ∀ q, q < p → I' 130 q = I 130 q ∧ I' 131 q = I 131 q ∧ I' 132 q = I 132 q
theorem leaf_M {G : Nat → Nat → Nat} {C : Nat → Int64} {N : Nat → Nat → Int32} {σ : Shp} {I : Nat → Nat → Int32} {J : Nat → Nat → Int64} {R : Nat → Nat → Option Nat} {t m d : Nat} (hm : TMo G C N I J) (t1 : 1 ≤ t) (t2 : t < 4100) (h5 : G 7 t ≤ 5) (k2 : G 7 t ≠ 2) (h : I 114 24 = Int32.ofInt (m : Int)) (hb : m + 2 ≤ 200) (h30 : I 114 30 = 0) : ∃ I' v, gX12_plainSize σ I R (Int32.ofInt t) = some (I', v) ∧ TrM m (szS G N (d + 1) t).1 I I' ∧ I' 114 30 = (szS G N (d + 1) t).2.2 ∧ ((szS G N (d + 1) t).2.2 = 0 → v = (szS G N (d + 1) t).2.1) ∧ St 8 I I' := by
  obtain ⟨-, -, -, -, m5, m6, m7, -⟩ := hm.2.2.1 t t2
  have e : szS G N (d + 1) t = if G 7 t = 1 then ([2] ++ [1], 2 * N 5 t + N 6 t, 0) else if G 7 t = 3 then ([4] ++ [1], if N 6 t = 0 then 0 else N 5 t / N 6 t, if N 6 t = 0 then 6 else 0) else ([1], N 5 t, 0) := by
    show (if t = 0 then _ else _) = _
    rw [if_neg (by omega), if_neg k2]
  rw [e]
  have tw : ∀ x y : Int32, TrM m ([x] ++ [y]) I (u2 (u2 (u2 (u2 I 129 m x) 114 24 (Int32.ofInt ((m + 1 : Nat) : Int))) 129 (m + 1) y) 114 24 (Int32.ofInt ((m + 1 + 1 : Nat) : Int))) := fun x y => Tr.app bod_T bod_T
  have g := g41 t2
  have gp := g41p t2
  have tt' := t41 (t := t) (by omega)
  have so : ∀ x y : Int32, St 8 I (u2 (u2 (u2 (u2 I 129 m x) 114 24 (Int32.ofInt ((m + 1 : Nat) : Int))) 129 (m + 1) y) 114 24 (Int32.ofInt ((m + 1 + 1 : Nat) : Int))) := fun x y q _ => ⟨by rw [bod_o (by omega), bod_o (by omega)], by rw [bod_o (by omega), bod_o (by omega)], by rw [bod_o (by omega), bod_o (by omega)]⟩
  unfold gX12_plainSize
  rw [if_pos g, tt', m5]
  by_cases c1 : G 7 t = 1
  · rw [if_pos c1, if_pos (by rw [c1]; rfl), bod_M h (by omega), ob_some, bod_o (by omega), m5, if_neg (by rw [i_eql (by omega)]; omega)]
    unfold gX12_plainSize_b30
    rw [bod_M (m := m + 1) (u2_self _ _ _ _) (by omega), ob_some, if_pos g, tt', bod_o (by omega), bod_o (by omega), m5, if_neg (by rw [i_eql (by omega)]; omega)]
    unfold gX12_plainSize_b62
    rw [if_pos g, tt', bod_o (by omega), bod_o (by omega), m5, if_pos (by rw [c1]; rfl), if_pos gp, if_pos gp, bod_o (by omega), bod_o (by omega), bod_o (by omega), bod_o (by omega), m6, m7]
    refine ⟨_, _, rfl, tw 2 1, by rw [bod_o (by omega), bod_o (by omega)]; exact h30, fun _ => rfl, so 2 1⟩
  rw [if_neg c1, if_neg (by rw [i_eql (by omega)]; omega)]
  by_cases c3 : G 7 t = 3
  · rw [if_pos c3, if_pos (by rw [c3]; rfl), bod_M h (by omega), ob_some]
    unfold gX12_plainSize_b30
    rw [bod_M (m := m + 1) (u2_self _ _ _ _) (by omega), ob_some, if_pos g, tt', bod_o (by omega), bod_o (by omega), m5, if_pos (by rw [c3]; rfl), if_pos gp, bod_o (by omega), bod_o (by omega), m7]
    by_cases z : N 6 t = 0
    · rw [if_pos z, if_pos z, if_pos z]
      exact ⟨_, _, rfl, (tw 4 1).st (by omega) (by omega) rfl, u2_self _ _ _ _, fun q => absurd q (by decide), fun q hq => ⟨by rw [u2n (by omega)]; exact (so 4 1 q hq).1, by rw [u2n (by omega)]; exact (so 4 1 q hq).2.1, by rw [u2n (by omega)]; exact (so 4 1 q hq).2.2⟩⟩
    · rw [if_neg z, if_neg z, if_neg z]
      unfold gX12_plainSize_b62
      rw [if_pos g, tt', bod_o (by omega), bod_o (by omega), m5, if_neg (by rw [i_eql (by omega)]; omega), if_pos (by rw [c3]; rfl), if_pos gp, if_pos gp, bod_o (by omega), bod_o (by omega), bod_o (by omega), bod_o (by omega), m6, m7, if_pos z]
      exact ⟨_, _, rfl, tw 4 1, by rw [bod_o (by omega), bod_o (by omega)]; exact h30, fun _ => rfl, so 4 1⟩
  · rw [if_neg c3, if_neg (by rw [i_eql (by omega)]; omega)]
    unfold gX12_plainSize_b30
    rw [bod_M h (by omega), ob_some, if_pos g, tt', bod_o (by omega), m5, if_neg (by rw [i_eql (by omega)]; omega)]
    unfold gX12_plainSize_b62
    rw [if_pos g, tt', bod_o (by omega), m5, if_neg (by rw [i_eql (by omega)]; omega), if_neg (by rw [i_eql (by omega)]; omega), if_pos gp, bod_o (by omega), m6]
    exact ⟨_, _, rfl, bod_T, by rw [bod_o (by omega)]; exact h30, fun _ => rfl, fun q _ => ⟨by rw [bod_o (by omega)], by rw [bod_o (by omega)], by rw [bod_o (by omega)]⟩⟩
theorem l18_f {σ : Shp} {R : Nat → Nat → Option Nat} {I : Nat → Nat → Int32} {n : Nat} {x2 x3 : Int32} (h : I 114 30 ≠ 0) : gX12_sizeOf_l18 σ R (n + 1) I x2 x3 = some (I, x3) := by
  rw [gX12_sizeOf_l18]
  by_cases c : x2 ≤ 0
  · rw [if_pos c]
  · rw [if_neg c, if_neg h]
/-- a turn on a graft: up to the part -/
theorem gr_M {σ : Shp} {R : Nat → Nat → Option Nat} {I : Nat → Nat → Int32} {n p t m s : Nat} {v0 : Int32} (hS : Skel σ R) (hp : p < 8) (ht : t < 4100) (h1 : I 130 p = Int32.ofInt (t : Int)) (h2 : I 131 p = Int32.ofInt (s : Int)) (h3 : I 122 t = 2) (h : I 114 24 = Int32.ofInt (m : Int)) (hm : m < 200) (h30 : I 114 30 = 0) (hs : s = 0 ∨ s = 1) : gX12_sizeOf_l18 σ R (n + 1) I (Int32.ofInt ((p + 1 : Nat) : Int)) v0 = if s = 0 then gX12_sizeOf_b193 (gX12_sizeOf_l18 σ R n) σ R (u2 (u2 (u2 (u2 I 129 m 3) 114 24 (Int32.ofInt ((m + 1 : Nat) : Int))) 132 p 0) 131 p 1) (Int32.ofInt ((p + 1 : Nat) : Int)) v0 (I 125 t) else gX12_sizeOf_b193 (gX12_sizeOf_l18 σ R n) σ R (u2 (u2 I 132 p (I 132 p + v0)) 131 p 2) (Int32.ofInt ((p + 1 : Nat) : Int)) v0 (I 126 t) := by
  have k : kdx σ 132 = 20 := hS.k 132 20 (by decide) rfl
  have l : lnx σ 132 = 8 := hS.l 132 8 (by decide) rfl
  have e1 : ((p + 1 : Nat) : Int) - 1 = (p : Int) := by omega
  have x1 : Int32.ofInt ((p + 1 : Nat) : Int) - 1 = Int32.ofInt (p : Int) := by rw [i_subl, e1]
  have g8 : ¬ (Int32.ofInt (p : Int) < 0 ∨ 8 ≤ Int32.toNatClampNeg (Int32.ofInt (p : Int))) := by rw [i_gd (by omega)]; exact id
  have g8p : ¬ (Int32.ofInt (p : Int) < 0 ∨ 8 ≤ p) := by rw [i_ltl (by omega)]; omega
  have tp := t41 (t := p) (by omega)
  have tt' := t41 (t := t) (by omega)
  have g := g41 ht
  rw [gX12_sizeOf_l18, if_neg (by rw [i_lel (by omega)]; omega), if_pos h30]
  dsimp only
  rw [x1, if_pos g8, tp, h1, if_pos g, tt', h3, if_pos rfl, if_pos g8p, h2]
  rcases hs with rfl | rfl
  · rw [if_pos rfl, if_pos (by rfl), bod_M h hm, ob_some]
    unfold gX12_sizeOf_b83
    rw [if_pos (by rfl), x1]
    unfold gX12_sizeOf_b109
    rw [ob_some, if_pos k, tp, l]
    dsimp only
    rw [if_pos (by rw [i_ltl (by omega)]; omega), x1, if_pos g8, tp, if_neg (by decide), if_pos (by rfl), if_pos g, tt']
    rw [show u2 (u2 (u2 I 129 m 3) 114 24 (Int32.ofInt ((m + 1 : Nat) : Int))) 132 p 0 131 p = 0 from by rw [u2n (by omega), bod_o (by omega), h2]; rfl]
    rw [show u2 (u2 (u2 (u2 I 129 m 3) 114 24 (Int32.ofInt ((m + 1 : Nat) : Int))) 132 p 0) 131 p (0 + 1) 125 t = I 125 t from by rw [u2n (by omega), u2n (by omega), bod_o (by omega)]]
    rfl
  · rw [if_neg (by decide), if_neg (by decide)]
    unfold gX12_sizeOf_b83
    rw [if_neg (by decide), x1, if_pos g8, tp]
    unfold gX12_sizeOf_b109
    rw [ob_some, if_pos k, tp, l]
    dsimp only
    rw [if_pos (by rw [i_ltl (by omega)]; omega), x1, if_pos g8, tp, if_neg (by decide), if_neg (by decide), if_pos g, tt']
    rw [show u2 I 132 p (I 132 p + v0) 131 p = 1 from by rw [u2n (by omega), h2]; rfl]
    rw [show u2 (u2 I 132 p (I 132 p + v0)) 131 p (1 + 1) 126 t = I 126 t from by rw [u2n (by omega), u2n (by omega)]]
    rfl
theorem gr2_M {σ : Shp} {R : Nat → Nat → Option Nat} {I : Nat → Nat → Int32} {n p t m : Nat} {v0 : Int32} (hS : Skel σ R) (hp : p < 8) (ht : t < 4100) (h1 : I 130 p = Int32.ofInt (t : Int)) (h2 : I 131 p = 2) (h3 : I 122 t = 2) (h : I 114 24 = Int32.ofInt (m : Int)) (hm : m + 2 ≤ 200) (h30 : I 114 30 = 0) : gX12_sizeOf_l18 σ R (n + 1) I (Int32.ofInt ((p + 1 : Nat) : Int)) v0 = gX12_sizeOf_l18 σ R n (u2 (u2 (u2 (u2 (u2 (u2 I 132 p (I 132 p + v0)) 131 p 3) 129 m 2) 114 24 (Int32.ofInt ((m + 1 : Nat) : Int))) 129 (m + 1) 1) 114 24 (Int32.ofInt ((m + 1 + 1 : Nat) : Int))) (Int32.ofInt (p : Int)) (I 132 p + v0 + 2 * I 123 t + I 124 t) := by
  have k : kdx σ 132 = 20 := hS.k 132 20 (by decide) rfl
  have l : lnx σ 132 = 8 := hS.l 132 8 (by decide) rfl
  have e1 : ((p + 1 : Nat) : Int) - 1 = (p : Int) := by omega
  have x1 : Int32.ofInt ((p + 1 : Nat) : Int) - 1 = Int32.ofInt (p : Int) := by rw [i_subl, e1]
  have x2 : Int32.ofInt ((p + 1 : Nat) : Int) + -1 = Int32.ofInt (p : Int) := by
    rw [show (-1 : Int32) = Int32.ofInt (-1) from by decide, i_add, show ((p + 1 : Nat) : Int) + -1 = (p : Int) by omega]
  have g8 : ¬ (Int32.ofInt (p : Int) < 0 ∨ 8 ≤ Int32.toNatClampNeg (Int32.ofInt (p : Int))) := by rw [i_gd (by omega)]; exact id
  have g8p : ¬ (Int32.ofInt (p : Int) < 0 ∨ 8 ≤ p) := by rw [i_ltl (by omega)]; omega
  have tp := t41 (t := p) (by omega)
  have tt' := t41 (t := t) (by omega)
  have g := g41 ht
  rw [gX12_sizeOf_l18, if_neg (by rw [i_lel (by omega)]; omega), if_pos h30]
  dsimp only
  rw [x1, if_pos g8, tp, h1, if_pos g, tt', h3, if_pos rfl, if_pos g8p, h2, if_neg (by decide)]
  unfold gX12_sizeOf_b83
  rw [if_neg (by decide), x1, if_pos g8, tp]
  unfold gX12_sizeOf_b109
  rw [ob_some, if_pos k, tp, l]
  dsimp only
  rw [if_pos (by rw [i_ltl (by omega)]; omega), x1, if_pos g8, tp, if_pos rfl]
  rw [show u2 I 132 p (I 132 p + v0) 131 p = 2 from by rw [u2n (by omega), h2]]
  rw [show (2 : Int32) + 1 = 3 from by decide, bod_M (m := m) (by rw [u2n (by omega), u2n (by omega)]; exact h) (by omega), ob_some, bod_M (m := m + 1) (u2_self _ _ _ _) (by omega), ob_some, if_pos g8p, if_pos g, if_pos g, x2, tt']
  rw [bod_o (b := 132) (by omega), bod_o (b := 132) (by omega), bod_o (b := 123) (by omega), bod_o (b := 123) (by omega), bod_o (b := 124) (by omega), bod_o (b := 124) (by omega)]
  rw [show u2 (u2 I 132 p (I 132 p + v0)) 131 p 3 132 p = I 132 p + v0 from by rw [u2n (by omega), u2_self]]
  rw [show u2 (u2 I 132 p (I 132 p + v0)) 131 p 3 123 t = I 123 t from by rw [u2n (by omega), u2n (by omega)]]
  rw [show u2 (u2 I 132 p (I 132 p + v0)) 131 p 3 124 t = I 124 t from by rw [u2n (by omega), u2n (by omega)]]
theorem b193_0 {q : (Nat → Nat → Int32) → Int32 → Int32 → Option ((Nat → Nat → Int32) × Int32)} {σ : Shp} {R : Nat → Nat → Option Nat} {I : Nat → Nat → Int32} {x2 x3 : Int32} : gX12_sizeOf_b193 q σ R I x2 x3 (Int32.ofInt ((0 : Nat) : Int)) = q (u2 I 114 30 1) x2 x3 := by
  unfold gX12_sizeOf_b193
  rw [if_pos (by rfl)]
theorem b193_1 {q : (Nat → Nat → Int32) → Int32 → Int32 → Option ((Nat → Nat → Int32) × Int32)} {σ : Shp} {R : Nat → Nat → Option Nat} {I : Nat → Nat → Int32} {x3 : Int32} {p t : Nat} (hp : p < 8) (t1 : 1 ≤ t) (t2 : t < 4100) : gX12_sizeOf_b193 q σ R I (Int32.ofInt (p : Int)) x3 (Int32.ofInt (t : Int)) = q (u2 (u2 I 130 p (Int32.ofInt (t : Int))) 131 p 0) (Int32.ofInt ((p + 1 : Nat) : Int)) x3 := by
  have g8 : ¬ (Int32.ofInt (p : Int) < 0 ∨ 8 ≤ Int32.toNatClampNeg (Int32.ofInt (p : Int))) := by rw [i_gd (by omega)]; exact id
  unfold gX12_sizeOf_b193
  dsimp only
  rw [if_neg (by rw [i_eql (by omega)]; omega), if_pos g8, if_pos g8, t41 (by omega), iadd1]
