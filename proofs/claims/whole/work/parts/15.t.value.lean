/-! ===== value: class, model, the call ===== -/
def tL (r : Nat → Nat) (t : Nat) (T : Nat → Nat → Nat) : Nat → Nat → Nat := if T 0 t = 0 then layS r 3 t T else T
theorem c0_3 (T : Nat → Nat → Nat) : c0 T ≤ 3 := by unfold c0; split <;> split <;> split <;> omega
theorem tL_p {r : Nat → Nat} {T : Nat → Nat → Nat} {t : Nat} (hr : ∀ t, t < 3 → r t ≤ 3) (hI : TI T) (hZ : TZ T) (h01 : ∀ i, i < 3 → T 0 i = T 1 i) (ht : t < 3) : TI (tL r t T) ∧ TZ (tL r t T) ∧ (∀ i, i < 3 → tL r t T 0 i = tL r t T 1 i) ∧ tL r t T 0 t = 1 := by
  unfold tL
  by_cases c : T 0 t = 0
  · rw [if_pos c]
    obtain ⟨x1, x2, x3⟩ := lay_I hr 3 t T hI ht c (c0_3 T)
    refine ⟨x1, fun i hi z => ?_, fun i hi => ?_, x3⟩
    · have b := (hI.1 i hi).1
      by_cases d : T 0 i = 0
      · rw [((x2 i hi).2 d).2 z]
        exact hZ i hi (by rw [← h01 i hi]; exact d)
      · obtain ⟨y1, y2, y3⟩ := (x2 i hi).1 (by omega)
        have := h01 i hi
        omega
    · have b := (hI.1 i hi).1
      by_cases d : T 0 i = 0
      · exact ((x2 i hi).2 d).1
      · obtain ⟨y1, y2, y3⟩ := (x2 i hi).1 (by omega)
        have := h01 i hi
        omega
  · rw [if_neg c]
    have b := (hI.1 t ht).1
    exact ⟨hI, hZ, h01, by omega⟩
theorem valC {r : Nat → Nat} {T : Nat → Nat → Nat} {σ : Shp} {I : Nat → Nat → Int32} {R : Nat → Nat → Option Nat} {t n : Nat} {X Y : Nat → Int} {x : Int} (hr : ∀ t, t < 3 → r t ≤ 3) (hI : TI T) (hQ : QtC r T I) (ht : t < 3) (hB : LnB n X Y) (hx : -2147483648 ≤ x ∧ x < 2147483648) (e1 : I 36 t = Int32.ofInt (n : Int)) (e2 : ∀ k, k < 8 → I (29 + t) k = Int32.ofInt (X k)) (e3 : ∀ k, k < 8 → I (33 + t) k = Int32.ofInt (Y k)) : ∃ I' v, gX9_valueAt σ I R (Int32.ofInt t) (Int32.ofInt x) = some (I', Int32.ofInt (tL r t T 2 t : Nat) + Int32.ofInt v) ∧ LnV n X Y x v ∧ QtC r (tL r t T) I' ∧ Ag [(27, 28), (38, 42)] I I' := by
  have fin : ∀ I1 : Nat → Nat → Int32, QtC r (tL r t T) I1 → Ag [(27, 28), (38, 42)] I I1 → ∃ v, (gX9_lineAt σ I1 R (Int32.ofInt t) (Int32.ofInt x)).bind (fun r8 => some (I1, I1 38 t + r8)) = some (I1, Int32.ofInt (tL r t T 2 t : Nat) + Int32.ofInt v) ∧ LnV n X Y x v := fun I1 q a => by
    have k : ∀ k, k < 8 → I1 (29 + t) k = I (29 + t) k ∧ I1 (33 + t) k = I (33 + t) k := fun k hk => by
      rcases (show t = 0 ∨ t = 1 ∨ t = 2 by omega) with rfl | rfl | rfl
      · exact ⟨a 29 k rfl, a 33 k rfl⟩
      · exact ⟨a 30 k rfl, a 34 k rfl⟩
      · exact ⟨a 31 k rfl, a 35 k rfl⟩
    obtain ⟨v, y1, y2⟩ := lnC (σ := σ) (I := I1) (R := R) ht hB hx (by rw [a 36 t rfl]; exact e1) (fun j hj => by rw [(k j hj).1]; exact e2 j hj) (fun j hj => by rw [(k j hj).2]; exact e3 j hj)
    exact ⟨v, by rw [y1, ob_some, (q.1 t ht).2.2.2.1], y2⟩
  unfold gX9_valueAt
  rw [if_pos (i3 ht), t41 (t := t) (by omega), (hQ.1 t ht).2.1]
  have b := (hI.1 t ht).1
  by_cases c : T 0 t = 0
  · obtain ⟨I1, y1, y2, y3⟩ := layC (σ := σ) (R := R) hr 3 t 0 8 T I hQ hI ht c (c0_3 T) (by have := c0_3 T; omega) (by omega)
    have q : QtC r (tL r t T) I1 := by unfold tL; rw [if_pos c]; exact y2
    obtain ⟨v, z1, z2⟩ := fin I1 q y3
    have y1' : gX9_layDown 8 σ I R (Int32.ofInt t) 0 = some I1 := y1
    rw [if_pos (by rw [c]; rfl), y1', ob_some, if_pos (i3p ht)]
    exact ⟨I1, v, z1, z2, q, y3⟩
  · have q : QtC r (tL r t T) I := by unfold tL; rw [if_neg c]; exact hQ
    obtain ⟨v, z1, z2⟩ := fin I q Ag.rf
    rw [if_neg (by rw [i_eql (by omega)]; omega), if_pos (i3p ht)]
    exact ⟨I, v, z1, z2, q, Ag.rf⟩
theorem layN {r : Nat → Nat} {T : Nat → Nat → Nat} {σ : Shp} {I : Nat → Nat → Int32} {R : Nat → Nat → Option Nat} {t : Nat} (hQ : QtM r T I) (ht : t < 3) (c : T 0 t = 1) : gX12_lay σ I R (Int32.ofInt t) = some I := by
  obtain ⟨F, hF⟩ : ∃ F, FUx = F := ⟨_, rfl⟩
  have hF' : F = 2000000 := by rw [← hF, FUx_eq]
  obtain ⟨f, rfl⟩ : ∃ f, F = f + 1 := ⟨1999999, by rw [hF']⟩
  unfold gX12_lay
  rw [hF, gX12_lay_l4, if_neg (by rw [show (-1 : Int32) = Int32.ofInt (-1) from by decide, i_eq (by omega) (by omega)]; omega), if_pos (i3 ht), t41 (t := t) (by omega), (hQ.1 t ht).2.1, if_neg (by rw [c]; decide), hF, gX12_lay_l45, if_pos (by decide)]
theorem valM {r : Nat → Nat} {T : Nat → Nat → Nat} {σ : Shp} {I : Nat → Nat → Int32} {R : Nat → Nat → Option Nat} {t n : Nat} {X Y : Nat → Int} {x : Int} (hS : Skel σ R) (hr : ∀ t, t < 3 → r t ≤ 3) (hI : TI T) (hZ : TZ T) (h01 : ∀ i, i < 3 → T 0 i = T 1 i) (hQ : QtM r T I) (ht : t < 3) (hB : LnB n X Y) (hx : -2147483648 ≤ x ∧ x < 2147483648) (e1 : I 156 t = Int32.ofInt (n : Int)) (e2 : ∀ k, k < 8 → I 157 (8 * t + k) = Int32.ofInt (X k)) (e3 : ∀ k, k < 8 → I 158 (8 * t + k) = Int32.ofInt (Y k)) : ∃ I' v, gX12_valueOf σ I R (Int32.ofInt t) (Int32.ofInt x) = some (I', Int32.ofInt (tL r t T 2 t : Nat) + Int32.ofInt v) ∧ LnV n X Y x v ∧ QtM r (tL r t T) I' ∧ Ag [(160, 165), (1000083, 1000084)] I I' := by
  have tp := (tL_p hr hI hZ h01 ht).2.2.2
  have b := (hI.1 t ht).1
  have key : ∃ I1, gX12_lay σ I R (Int32.ofInt t) = some I1 ∧ QtM r (tL r t T) I1 ∧ Ag [(160, 165), (1000083, 1000084)] I I1 := by
    by_cases c : T 0 t = 0
    · obtain ⟨F, hF⟩ : ∃ F, FUx = F := ⟨_, rfl⟩
      have hF' : F = 2000000 := by rw [← hF, FUx_eq]
      obtain ⟨K, I1, y1, y2, y3, y4, y5⟩ := layM (σ := σ) (R := R) hS hF (by omega) hr 3 t 0 F T I hQ hI hZ ht c (c0_3 T) (by have := c0_3 T; omega) (by omega)
      have c3 := c0_3 T
      refine ⟨I1, ?_, by unfold tL; rw [if_pos c]; exact y3, y5⟩
      unfold gX12_lay
      rw [hF]
      have y2' : gX12_lay_l4 σ R F I 0 (Int32.ofInt t) = gX12_lay_l45 σ R (F - K) I1 0 := y2
      obtain ⟨f, hf⟩ : ∃ f, F - K = f + 1 := ⟨F - K - 1, by omega⟩
      rw [y2', hf, gX12_lay_l45, if_pos (by decide)]
    · refine ⟨I, layN hQ ht (by omega), ?_, Ag.rf⟩
      unfold tL
      rw [if_neg c]; exact hQ
  obtain ⟨I1, k1, k2, k3⟩ := key
  have l1 := layN (σ := σ) (R := R) k2 ht tp
  obtain ⟨v, y1, y2⟩ := lnM (σ := σ) (R := R) ht hB hx (k2.1 t ht).2.2.2.1 (by rw [k3 156 t rfl]; exact e1) (fun j hj => by rw [k3 157 _ rfl]; exact e2 j hj) (fun j hj => by rw [k3 158 _ rfl]; exact e3 j hj) l1
  refine ⟨I1, v, ?_, y2, k2, k3⟩
  rw [← y1]
  unfold gX12_valueOf
  rw [k1, l1]
theorem tab_b {I0 I : Nat → Nat → Int32} {r : Nat → Nat} {T : Nat → Nat → Nat} (h0 : GTab I0) (hr : ∀ t, t < 3 → r t ≤ 3) (hI : TI T) (hZ : TZ T) (h01 : ∀ i, i < 3 → T 0 i = T 1 i) (hC : QtC r T I) (hM : QtM r T I) (a : Ag [(27, 28), (38, 42), (160, 165), (1000083, 1000084)] I0 I) : GTab I ∧ GOff I := by
  have m3 : T 4 0 ≤ 3 := by
    have := hI.2
    have a0 := hI.1 0 (by omega)
    have a1 := hI.1 1 (by omega)
    have a2 := hI.1 2 (by omega)
    omega
  have kx : ∀ t k, t < 3 → I (29 + t) k = I0 (29 + t) k ∧ I (33 + t) k = I0 (33 + t) k := fun t k ht => by
    rcases (show t = 0 ∨ t = 1 ∨ t = 2 by omega) with rfl | rfl | rfl
    · exact ⟨a 29 k rfl, a 33 k rfl⟩
    · exact ⟨a 30 k rfl, a 34 k rfl⟩
    · exact ⟨a 31 k rfl, a 35 k rfl⟩
  refine ⟨⟨fun t ht => ?_, fun t ht => ?_, fun t k ht hk => ?_, fun t k ht hk => ?_, fun k hk => ?_, fun k hk => ?_, fun t k ht hk => ?_, fun t ht => ?_, fun t ht => ?_, fun t ht => ?_, fun t ht => ?_, fun t ht => ?_, fun t ht => ?_, fun t ht => ?_, fun t ht => ?_, fun t ht => ?_, fun k hk => ?_, ?_, ?_, ?_⟩, ⟨T 4 0, m3, hM.2, fun t ht => ⟨T 2 t, (hI.1 t ht).2.2, (hM.1 t ht).2.2.2.1⟩⟩⟩
  · rw [a 36 t rfl, a 156 t rfl]; exact h0.e0 t ht
  · rw [a 156 t rfl]; exact h0.e1 t ht
  · rw [(kx t k ht).1, a 157 _ rfl]; exact h0.e2 t k ht hk
  · rw [(kx t k ht).2, a 158 _ rfl]; exact h0.e3 t k ht hk
  · rw [a 157 k rfl]; exact h0.e4 k hk
  · rw [a 158 k rfl]; exact h0.e5 k hk
  · rw [a 156 t rfl, a 157 _ rfl, a 157 _ rfl]; exact h0.e6 t k ht hk
  · rw [a 37 t rfl, a 159 t rfl]; exact h0.e7 t ht
  · rw [a 159 t rfl]; exact h0.e8 t ht
  · rw [(hC.1 t ht).2.2.2.1, (hM.1 t ht).2.2.2.1]
  · have := (hI.1 t ht).2.2
    exact ⟨(T 2 t : Int), by omega, by omega, (hM.1 t ht).2.2.2.1⟩
  · rw [(hC.1 t ht).2.1, (hM.1 t ht).2.1]
  · rw [(hC.1 t ht).2.2.1, (hM.1 t ht).2.2.1]
  · rw [(hM.1 t ht).2.1, (hM.1 t ht).2.2.1, h01 t ht]
  · have := (hI.1 t ht).1
    exact ⟨(T 0 t : Int), by omega, by omega, (hM.1 t ht).2.1⟩
  · intro z
    have b := hI.1 t ht
    rw [(hM.1 t ht).2.2.1, i_eql (by omega)] at z
    rw [(hM.1 t ht).2.2.2.1, hZ t ht (by omega)]
    rfl
  · rw [(hC.1 k hk).2.2.2.2, (hM.1 k hk).2.2.2.2]
  · rw [hC.2, hM.2]
  · exact ⟨(T 4 0 : Int), by omega, by omega, hM.2⟩
  · rw [hM.2, (hM.1 0 (by omega)).2.1, (hM.1 1 (by omega)).2.1, (hM.1 2 (by omega)).2.1, i_add, i_add, hI.2, ← h01 0 (by omega), ← h01 1 (by omega), ← h01 2 (by omega)]
    rfl
theorem c_value {σ : Shp} {I : Nat → Nat → Int32} {R : Nat → Nat → Option Nat} {x1 x2 : Int32} (hS : Skel σ R) (h : GTab I) (h2 : GOff I) : Tot (gX11_value σ I R x1 x2) (fun t => Tot (gX12_value σ t.1 R x1 x2) (fun t2 => t.2 = t2.2 ∧ GTab t2.1 ∧ GOff t2.1 ∧ Ag [(27, 28), (38, 42), (160, 165), (1000083, 1000084)] I t2.1)) := by
  obtain ⟨i, hi1, hi2, rfl⟩ := rep x1
  obtain ⟨x, hx1, hx2, rfl⟩ := rep x2
  by_cases c1 : 0 ≤ i ∧ i ≤ 2
  case neg =>
    exact tt (I, 0) (I, 0) (by unfold gX11_value; simp (disch := omega) only [fail_r, no_r, nob_r, fI_o, Nat.reduceLeDiff, ↓reduceIte, not_true_eq_false, not_false_eq_true, false_imp_iff, true_imp_iff, and_true, true_and, and_self, implies_true, false_or, or_false, true_or, or_true, d10, d01, d00, d11, g_tn, Tot_some, Tot_none, Tot_ite, Tot_bind, ob_some, onl_n, onl_s, nat32, Int.toNat_natCast, i_add, i_sub, i_mul, i_addl, i_addr, i_subl, i_subr, i_mulr, i_addn, i_gd, i_tn, i_w, i_ltlT, i_ltlF, i_ltrT, i_ltrF, i_lelT, i_lelF, i_lerT, i_lerF, i_eqlT, i_eqlF, i_eqrT, i_eqrF, i_ltnT, i_ltnF, i_lenT, i_lenF, i_eqnT, i_eqnF, i_ltT, i_ltF, i_leT, i_leF, i_eqT, i_eqF, j_ltlT, j_ltlF, j_ltrT, j_ltrF, j_lelT, j_lelF, j_lerT, j_lerF, j_eqlT, j_eqlF, j_ltT, j_ltF, j_leT, j_leF, j_eqT, j_eqF, i_mull, l_tn, l_lt0, l_ne0, nleF, tX11_isStockT, tX11_isStockF, tX11_isBinT, tX11_isBinF, tX11_isPlanT, tX11_isPlanF, tX11_isValveT, tX11_isValveF, tX11_isLaneT, tX11_isLaneF, tX11_isGridFormT, tX11_isGridFormF, tX11_isFormT, tX11_isFormF, tX11_isTrayFormT, tX11_isTrayFormF, tX11_isPlacesFormT, tX11_isPlacesFormF, tX11_isTableT, tX11_isTableF, tX11_isProbeT, tX11_isProbeF, tX11_isHouseT, tX11_isHouseF, tX11_isPestT, tX11_isPestF, tX11_isStageT, tX11_isStageF, tX11_isPartT, tX11_isPartF, tX12_isBinT, tX12_isBinF, tX12_isTableT, tX12_isTableF, tX12_inT, tX12_inF, tX12_innT, tX12_innF, tX12_ingT, tX12_ingF, tX12_isStageT, tX12_isStageF, tX1_isByteT, tX1_isByteF]) (by unfold gX12_value; simp (disch := omega) only [fail_r, no_r, nob_r, fI_o, Nat.reduceLeDiff, ↓reduceIte, not_true_eq_false, not_false_eq_true, false_imp_iff, true_imp_iff, and_true, true_and, and_self, implies_true, false_or, or_false, true_or, or_true, d10, d01, d00, d11, g_tn, Tot_some, Tot_none, Tot_ite, Tot_bind, ob_some, onl_n, onl_s, nat32, Int.toNat_natCast, i_add, i_sub, i_mul, i_addl, i_addr, i_subl, i_subr, i_mulr, i_addn, i_gd, i_tn, i_w, i_ltlT, i_ltlF, i_ltrT, i_ltrF, i_lelT, i_lelF, i_lerT, i_lerF, i_eqlT, i_eqlF, i_eqrT, i_eqrF, i_ltnT, i_ltnF, i_lenT, i_lenF, i_eqnT, i_eqnF, i_ltT, i_ltF, i_leT, i_leF, i_eqT, i_eqF, j_ltlT, j_ltlF, j_ltrT, j_ltrF, j_lelT, j_lelF, j_lerT, j_lerF, j_eqlT, j_eqlF, j_ltT, j_ltF, j_leT, j_leF, j_eqT, j_eqF, i_mull, l_tn, l_lt0, l_ne0, nleF, tX11_isStockT, tX11_isStockF, tX11_isBinT, tX11_isBinF, tX11_isPlanT, tX11_isPlanF, tX11_isValveT, tX11_isValveF, tX11_isLaneT, tX11_isLaneF, tX11_isGridFormT, tX11_isGridFormF, tX11_isFormT, tX11_isFormF, tX11_isTrayFormT, tX11_isTrayFormF, tX11_isPlacesFormT, tX11_isPlacesFormF, tX11_isTableT, tX11_isTableF, tX11_isProbeT, tX11_isProbeF, tX11_isHouseT, tX11_isHouseF, tX11_isPestT, tX11_isPestF, tX11_isStageT, tX11_isStageF, tX11_isPartT, tX11_isPartF, tX12_isBinT, tX12_isBinF, tX12_isTableT, tX12_isTableF, tX12_inT, tX12_inF, tX12_innT, tX12_innF, tX12_ingT, tX12_ingF, tX12_isStageT, tX12_isStageF, tX1_isByteT, tX1_isByteF]) ⟨rfl, ⟨h, h2, Ag.rf⟩⟩
  obtain ⟨t, rfl⟩ : ∃ k : Nat, i = (k : Int) := ⟨i.toNat, by omega⟩
  have ht : t < 3 := by omega
  obtain ⟨r, T, hr, hI, hZ, hC, hM, h01⟩ := tab_g h h2
  obtain ⟨n, X, Y, hB, e1, e2, e3⟩ := tab_l h ht
  obtain ⟨I1, v, a1, a2, a3, a4⟩ := valC (σ := σ) (R := R) hr hI hC ht hB ⟨hx1, hx2⟩ (by rw [h.e0 t ht]; exact e1) (fun k hk => by rw [h.e2 t k ht hk]; exact e2 k hk) (fun k hk => by rw [h.e3 t k ht hk]; exact e3 k hk)
  have hM1 : QtM r T I1 := ⟨fun i hi => ⟨by rw [a4 159 i rfl]; exact (hM.1 i hi).1, by rw [a4 160 i rfl]; exact (hM.1 i hi).2.1, by rw [a4 161 i rfl]; exact (hM.1 i hi).2.2.1, by rw [a4 162 i rfl]; exact (hM.1 i hi).2.2.2.1, by rw [a4 163 i rfl]; exact (hM.1 i hi).2.2.2.2⟩, by rw [a4 114 83 rfl]; exact hM.2⟩
  obtain ⟨I2, v', b1, b2, b3, b4⟩ := valM (σ := σ) (R := R) hS hr hI hZ h01 hM1 ht hB ⟨hx1, hx2⟩ (by rw [a4 156 t rfl]; exact e1) (fun k hk => by rw [a4 157 _ rfl]; exact e2 k hk) (fun k hk => by rw [a4 158 _ rfl]; exact e3 k hk)
  obtain rfl := LnV.uq hB.2.1 a2 b2
  obtain ⟨p1, p2, p3', -⟩ := tL_p hr hI hZ h01 ht
  have hC2 : QtC r (tL r t T) I2 := ⟨fun i hi => ⟨by rw [b4 37 i rfl]; exact (a3.1 i hi).1, by rw [b4 39 i rfl]; exact (a3.1 i hi).2.1, by rw [b4 40 i rfl]; exact (a3.1 i hi).2.2.1, by rw [b4 38 i rfl]; exact (a3.1 i hi).2.2.2.1, by rw [b4 41 i rfl]; exact (a3.1 i hi).2.2.2.2⟩, by rw [b4 27 8 rfl]; exact a3.2⟩
  have aA : Ag [(27, 28), (38, 42), (160, 165), (1000083, 1000084)] I I2 := (a4.mv rfl).tr (b4.mv rfl)
  obtain ⟨g1, g2⟩ := tab_b h hr p1 p2 p3' hC2 b3 aA
  refine tt (I1, Int32.ofInt (tL r t T 2 t : Nat) + Int32.ofInt v) (I2, Int32.ofInt (tL r t T 2 t : Nat) + Int32.ofInt v) ?_ ?_ ⟨rfl, g1, g2, aA⟩
  · unfold gX11_value
    rw [tX11_isTableT (by omega), if_neg n10, a1, ob_some]
  · show gX12_value σ I1 R _ _ = _
    unfold gX12_value
    rw [tX12_isTableT (by omega), if_neg n10, b1, ob_some]
