/-! ===== a run: HOLD, TAKE, OPEN begin ===== -/
theorem heldS {σ : Shp} {I : Nat → Nat → Int32} {R : Nat → Nat → Option Nat} : gX8_heldInAll σ I R = some (I 20 0 + I 20 1 + I 20 2) := by
  obtain ⟨F, hF⟩ : ∃ F, FUx = F + 4 := ⟨1999996, by rw [FUx_eq]⟩
  unfold gX8_heldInAll
  rw [hF, gX8_heldInAll_l4, if_neg (by decide), if_pos (by decide)]
  try dsimp only
  rw [gX8_heldInAll_l4, if_neg (by decide), if_pos (by decide)]
  try dsimp only
  rw [gX8_heldInAll_l4, if_neg (by decide), if_pos (by decide)]
  try dsimp only
  rw [gX8_heldInAll_l4, if_pos (by decide)]
  show some (((0 : Int32) + I 20 0 + I 20 1) + I 20 2) = _
  rw [Int32.zero_add]
theorem st11 {n O : Nat → Nat} {A : Nat → Nat → Int32} {vd : Nat → Int32} {G : Nat → Nat → Nat} {N : Nat → Nat → Int32} {nb sb : Nat} {σ : Shp} {I : Nat → Nat → Int32} {J : Nat → Nat → Int64} {R : Nat → Nat → Option Nat} {I' : Nat → Nat → Int32} {J' : Nat → Nat → Int64} {fc : Nat → Nat} {E : Nat → Nat → Nat} {V : Nat → Nat → Int32} {σ' : Shp} {R' : Nat → Nat → Option Nat} {t st ch x : Nat} (hb : PlB n O) (hS : Skel σ' R') (h : Core n O A vd G N nb sb σ I J R I' J' fc E V (t + 1) st ch) (hg : Bg n O nb sb σ I I' E t st ch x) (eo : op O (E t 1) x = 11) : StOk n O A vd G N nb sb σ' R' σ I J R I' J' E t st x := by
  have k4 := hS.k 114 13 (by decide) rfl
  obtain ⟨⟨q1, q2, q3⟩, -, -, na, -, -⟩ := pfC hb h hg
  obtain ⟨i, i1, i2, ea⟩ := rep (A 0 (40 * E t 1 + x))
  have ff : fX7_firstNumberFits (Int32.ofInt ((11 : Nat) : Int)) (Int32.ofInt i) = fX11_isValve (Int32.ofInt i) := ff11
  have eM : bg2 σ' I' J' R' (Int32.ofInt ((11 : Nat) : Int)) = if (fX12_in (Int32.ofInt i) 0 2) = 0 then some (flM I' 2 0, J') else gX12_enter_b194 σ' R' I' J' (Int32.ofInt ((11 : Nat) : Int)) := by
    rw [bgB (by omega)]
    unfold gX12_enter gX12_enter_b23 gX12_enter_b41 gX12_enter_b58 gX12_enter_b81 gX12_enter_b121
    rw [if_neg (by decide), if_neg (by decide), if_neg (by decide), if_pos (by rfl), if_pos rfl, if_neg n10, na, ob_some, ea, flI k4, ob_some]
    by_cases z : fX12_in (Int32.ofInt i) 0 2 = 0
    · rw [if_pos z, if_pos z]
    · rw [if_neg z, if_neg z, if_neg (by decide), if_neg (by decide), if_neg (by decide), if_neg (by decide)]
  by_cases c : 0 ≤ i ∧ i ≤ 2
  case neg =>
    refine stF h hg (k := 2) (v := 0) (Or.inr rfl) ?_ ?_
    · rw [eo, ea]; unfold gX7_perform; rw [if_pos (by rw [ff]; exact tX11_isValveF (by omega)), arI, ob_some]
    · rw [eo, eM, tX12_inF (by omega), if_pos rfl]
  have fit : ¬ fX7_firstNumberFits (Int32.ofInt ((11 : Nat) : Int)) (Int32.ofInt i) = 0 := by rw [ff, tX11_isValveT c]; exact n10
  rw [tX12_inT (by omega), if_neg n10] at eM
  obtain ⟨k, rfl⟩ : ∃ k : Nat, i = (k : Int) := ⟨i.toNat, by omega⟩
  obtain ⟨σ1, R1, I2, I2', fc1, E1, V1, p1, p2, p3, ⟨p4, p5, p6⟩, p7, p8, p9, p10⟩ := pushB hb h hg eo (by omega) (fun _ => ⟨(k : Int), by omega, by omega, ea⟩) (fun q => by omega)
  have na2 := (nuM p3.1.2.2 q1 (show x < 40 by omega) (by rw [p9 114 57 rfl]; exact hg.1.2.2.1) (by rw [p9 114 58 rfl]; exact hg.1.2.2.2)).1
  have hc := p3.2.2.2.2.2.1
  have hv : ∀ j : Nat, j < 3 → I2 20 j = I2' 141 j := fun j hj => (hc.2.2.2.1 j hj).2
  have h69 : I2 5 12 = I2' 114 69 := hc.2.2.1.2.2.1
  obtain ⟨I3, e3⟩ : ∃ I3, u2 I2 20 k (I2 20 k + 1) = I3 := ⟨_, rfl⟩
  obtain ⟨I3', e3'⟩ : ∃ I3', u2 I2' 141 k (I2' 141 k + 1) = I3' := ⟨_, rfl⟩
  have hv3 : ∀ j : Nat, j < 3 → I3 20 j = I3' 141 j := fun j hj => by
    rw [← e3, ← e3']
    by_cases e : j = k
    · rw [e, u2_self, u2_self, hv k (by omega)]
    · rw [u2n (by omega), u2n (by omega)]; exact hv j hj
  obtain ⟨s, es⟩ : ∃ s, I3 20 0 + I3 20 1 + I3 20 2 = s := ⟨_, rfl⟩
  have es' : I3' 141 0 + I3' 141 1 + I3' 141 2 = s := by rw [← hv3 0 (by omega), ← hv3 1 (by omega), ← hv3 2 (by omega)]; exact es
  obtain ⟨m, em⟩ : ∃ m, fXM_maxI (I2 5 12) s = m := ⟨_, rfl⟩
  have a : Ag [(5, 6), (20, 21)] I2 (u2 I3 5 12 m) := by rw [← e3]; exact Ag.st (Ag.st Ag.rf rfl) rfl
  have b : Ag [(141, 142), (1000069, 1000070)] I2' (u2 I3' 114 69 m) := by rw [← e3']; exact Ag.st (Ag.st Ag.rf rfl) rfl
  have ia : ∀ f, f ≠ 12 → u2 I3 5 12 m 5 f = I2 5 f := fun f hf => by rw [← e3]; simp (disch := omega) only [u2n, u2s]
  have P : Core n O A vd G N nb sb σ1 (u2 I3 5 12 m) J R1 (u2 I3' 114 69 m) J' fc1 E1 V1 (t + 2) st ch := by
    refine p3.kp2 (a.mv rfl) (b.mv rfl) (ia 6 (by decide)) ?_ ?_ (Nat.le_refl _)
    · obtain ⟨c1, c2, c3, c4, c5, c6⟩ := hc
      have ma : ∀ f, f ≠ 69 → u2 I3' 114 69 m 114 f = I2' 114 f := fun f hf => by rw [← e3']; simp (disch := omega) only [u2n, u2s]
      unfold Cnt
      rw [ia 9 (by decide), ia 8 (by decide), ia 10 (by decide), ia 11 (by decide), ia 13 (by decide), u2_self, u2_self, a 4 13 rfl, a 7 1 rfl, ma 65 (by decide), ma 66 (by decide), ma 67 (by decide), ma 68 (by decide), ma 70 (by decide), ma 1 (by decide), ma 42 (by decide), ma 24 (by decide)]
      refine ⟨c1, c2, ⟨c3.1, c3.2.1, rfl, c3.2.2.2⟩, fun j hj => ?_, c5, c6.1, c6.2.1, fun j hj => by rw [a 8 j rfl, b 129 j rfl]; exact c6.2.2 j hj⟩
      refine ⟨by rw [a 19 j rfl, b 140 j rfl]; exact (c4 j hj).1, ?_⟩
      rw [u2n (by omega), u2n (by omega)]
      exact hv3 j hj
    · have := p3.2.2.2.2.2.2
      unfold Wy at this ⊢
      rw [a 25 0 rfl, a 25 1 rfl, a 25 2 rfl, a 25 3 rfl, a 25 4 rfl, a 25 5 rfl, b 114 59 rfl, b 114 60 rfl, b 114 61 rfl, b 114 62 rfl, b 114 63 rfl, b 114 64 rfl]
      exact this
  refine stE (fc := fc) (V := V) hg P p4 p5 (by rw [b 114 57 rfl, p9 114 57 rfl]) (by rw [b 114 58 rfl, p9 114 58 rfl]) ((p7.mv rfl).tr (a.mv rfl)) Ag.rf (p10.mv rfl) ((p9.mv rfl).tr (b.mv rfl)) Ag.rf ?_ ?_
  · rw [eo, ea, pfB hb h hg (by omega) fit]
    unfold gX7_beginBody gX7_beginBody_b36 gX7_beginBody_b62
    rw [if_neg (by decide), if_neg (by decide), if_neg (by decide), if_neg (by decide), p1, ob_some]
    try dsimp only
    unfold gX7_beginBody_b99
    rw [if_pos (by rfl), if_pos (by rw [i_gd (by omega)]; exact id), t41 (by omega), e3]
    try dsimp only
    rw [heldS, ob_some, es]
    have : I3 5 12 = I2 5 12 := by rw [← e3, u2n (by omega)]
    rw [this, em]
    rfl
  · rw [eo, eM]
    unfold gX12_enter_b194
    rw [p2, ob_some, if_pos (by rfl), na2, ob_some, ea, if_pos (by rw [i_gd (by omega)]; exact id), t41 (by omega), e3', if_pos (by decide), if_pos (by decide), if_pos (by decide)]
    rw [show Int32.toNatClampNeg (0 : Int32) = 0 by decide, show Int32.toNatClampNeg (1 : Int32) = 1 by decide, show Int32.toNatClampNeg (2 : Int32) = 2 by decide]
    try dsimp only
    rw [es']
    have w : I3' 114 69 = I2 5 12 := by rw [← e3', u2n (by omega), h69]
    rw [w]
    by_cases z : s ≤ I2 5 12
    · have : m = I2 5 12 := by rw [← em]; unfold fXM_maxI; rw [if_neg (Int32.not_lt.mpr z)]
      rw [if_pos z, this]
    · have : m = s := by rw [← em]; unfold fXM_maxI; rw [if_pos (Int32.not_le.mp z)]
      rw [if_neg z, this]
theorem st13 {n O : Nat → Nat} {A : Nat → Nat → Int32} {vd : Nat → Int32} {G : Nat → Nat → Nat} {N : Nat → Nat → Int32} {nb sb : Nat} {σ : Shp} {I : Nat → Nat → Int32} {J : Nat → Nat → Int64} {R : Nat → Nat → Option Nat} {I' : Nat → Nat → Int32} {J' : Nat → Nat → Int64} {fc : Nat → Nat} {E : Nat → Nat → Nat} {V : Nat → Nat → Int32} {σ' : Shp} {R' : Nat → Nat → Option Nat} {t st ch x : Nat} (hb : PlB n O) (hS : Skel σ' R') (h : Core n O A vd G N nb sb σ I J R I' J' fc E V (t + 1) st ch) (hg : Bg n O nb sb σ I I' E t st ch x) (eo : op O (E t 1) x = 13) : StOk n O A vd G N nb sb σ' R' σ I J R I' J' E t st x := by
  have k4 := hS.k 114 13 (by decide) rfl
  obtain ⟨⟨q1, q2, q3⟩, -, -, na, -, -⟩ := pfC hb h hg
  obtain ⟨i, i1, i2, ea⟩ := rep (A 0 (40 * E t 1 + x))
  have ff : fX7_firstNumberFits (Int32.ofInt ((13 : Nat) : Int)) (Int32.ofInt i) = fX11_isValve (Int32.ofInt i) := ff13
  have eM : bg2 σ' I' J' R' (Int32.ofInt ((13 : Nat) : Int)) = if (fX12_in (Int32.ofInt i) 0 2) = 0 then some (flM I' 2 0, J') else gX12_enter_b194 σ' R' I' J' (Int32.ofInt ((13 : Nat) : Int)) := by
    rw [bgB (by omega)]
    unfold gX12_enter gX12_enter_b23 gX12_enter_b41 gX12_enter_b58 gX12_enter_b81 gX12_enter_b121
    rw [if_neg (by decide), if_neg (by decide), if_neg (by decide), if_neg (by decide), if_pos (by rfl), if_pos rfl, if_neg n10, na, ob_some, ea, flI k4, ob_some]
    by_cases z : fX12_in (Int32.ofInt i) 0 2 = 0
    · rw [if_pos z, if_pos z]
    · rw [if_neg z, if_neg z, if_neg (by decide), if_neg (by decide), if_neg (by decide), if_neg (by decide)]
  by_cases c : 0 ≤ i ∧ i ≤ 2
  case neg =>
    refine stF h hg (k := 2) (v := 0) (Or.inr rfl) ?_ ?_
    · rw [eo, ea]; unfold gX7_perform; rw [if_pos (by rw [ff]; exact tX11_isValveF (by omega)), arI, ob_some]
    · rw [eo, eM, tX12_inF (by omega), if_pos rfl]
  have fit : ¬ fX7_firstNumberFits (Int32.ofInt ((13 : Nat) : Int)) (Int32.ofInt i) = 0 := by rw [ff, tX11_isValveT c]; exact n10
  rw [tX12_inT (by omega), if_neg n10] at eM
  obtain ⟨k, rfl⟩ : ∃ k : Nat, i = (k : Int) := ⟨i.toNat, by omega⟩
  obtain ⟨σ1, R1, I2, I2', fc1, E1, V1, p1, p2, p3, ⟨p4, p5, p6⟩, p7, p8, p9, p10⟩ := pushB hb h hg eo (by omega) (fun _ => ⟨(k : Int), by omega, by omega, ea⟩) (fun q => by omega)
  obtain ⟨na2, nb2, -⟩ := nuM p3.1.2.2 q1 (show x < 40 by omega) (by rw [p9 114 57 rfl]; exact hg.1.2.2.1) (by rw [p9 114 58 rfl]; exact hg.1.2.2.2)
  have hc := p3.2.2.2.2.2.1
  have a : Ag [(19, 20)] I2 (u2 I2 19 k (A 1 (40 * E t 1 + x))) := Ag.st Ag.rf rfl
  have b : Ag [(140, 141)] I2' (u2 I2' 140 k (A 1 (40 * E t 1 + x))) := Ag.st Ag.rf rfl
  have P : Core n O A vd G N nb sb σ1 (u2 I2 19 k (A 1 (40 * E t 1 + x))) J R1 (u2 I2' 140 k (A 1 (40 * E t 1 + x))) J' fc1 E1 V1 (t + 2) st ch := by
    refine p3.kp2 (a.mv rfl) (b.mv rfl) (a 5 6 rfl) ?_ ?_ (Nat.le_refl _)
    · obtain ⟨c1, c2, c3, c4, c5, c6⟩ := hc
      unfold Cnt
      rw [a 5 9 rfl, a 5 8 rfl, a 5 10 rfl, a 5 11 rfl, a 5 12 rfl, a 5 13 rfl, a 4 13 rfl, a 7 1 rfl, b 114 65 rfl, b 114 66 rfl, b 114 67 rfl, b 114 68 rfl, b 114 69 rfl, b 114 70 rfl, b 114 1 rfl, b 114 42 rfl, b 114 24 rfl]
      refine ⟨c1, c2, c3, fun j hj => ⟨?_, by rw [a 20 j rfl, b 141 j rfl]; exact (c4 j hj).2⟩, c5, c6.1, c6.2.1, fun j hj => by rw [a 8 j rfl, b 129 j rfl]; exact c6.2.2 j hj⟩
      by_cases e : j = k
      · rw [e, u2_self, u2_self]
      · rw [u2n (by omega), u2n (by omega)]; exact (c4 j hj).1
    · have := p3.2.2.2.2.2.2
      unfold Wy at this ⊢
      rw [a 25 0 rfl, a 25 1 rfl, a 25 2 rfl, a 25 3 rfl, a 25 4 rfl, a 25 5 rfl, b 114 59 rfl, b 114 60 rfl, b 114 61 rfl, b 114 62 rfl, b 114 63 rfl, b 114 64 rfl]
      exact this
  refine stE (fc := fc) (V := V) hg P p4 p5 (by rw [b 114 57 rfl, p9 114 57 rfl]) (by rw [b 114 58 rfl, p9 114 58 rfl]) ((p7.mv rfl).tr (a.mv rfl)) Ag.rf (p10.mv rfl) ((p9.mv rfl).tr (b.mv rfl)) Ag.rf ?_ ?_
  · rw [eo, ea, pfB hb h hg (by omega) fit]
    unfold gX7_beginBody gX7_beginBody_b36 gX7_beginBody_b62
    rw [if_neg (by decide), if_neg (by decide), if_neg (by decide), if_neg (by decide), p1, ob_some]
    try dsimp only
    unfold gX7_beginBody_b99
    rw [if_neg (by decide), if_neg (by decide), if_pos (by rfl), if_pos (by rw [i_gd (by omega)]; exact id), t41 (by omega)]
    rfl
  · rw [eo, eM]
    unfold gX12_enter_b194
    rw [p2, ob_some, if_neg (by decide), if_neg (by decide), if_pos (by rfl), na2, ob_some, nb2, ob_some, ea, if_pos (by rw [i_gd (by omega)]; exact id), t41 (by omega)]
theorem st12 {n O : Nat → Nat} {A : Nat → Nat → Int32} {vd : Nat → Int32} {G : Nat → Nat → Nat} {N : Nat → Nat → Int32} {nb sb : Nat} {σ : Shp} {I : Nat → Nat → Int32} {J : Nat → Nat → Int64} {R : Nat → Nat → Option Nat} {I' : Nat → Nat → Int32} {J' : Nat → Nat → Int64} {fc : Nat → Nat} {E : Nat → Nat → Nat} {V : Nat → Nat → Int32} {σ' : Shp} {R' : Nat → Nat → Option Nat} {t st ch x : Nat} (hb : PlB n O) (hS : Skel σ' R') (h : Core n O A vd G N nb sb σ I J R I' J' fc E V (t + 1) st ch) (hg : Bg n O nb sb σ I I' E t st ch x) (eo : op O (E t 1) x = 12) : StOk n O A vd G N nb sb σ' R' σ I J R I' J' E t st x := by
  have k4 := hS.k 114 13 (by decide) rfl
  obtain ⟨⟨q1, q2, q3⟩, -, -, na, nb', -⟩ := pfC hb h hg
  obtain ⟨i, i1, i2, ea⟩ := rep (A 0 (40 * E t 1 + x))
  have ff : fX7_firstNumberFits (Int32.ofInt ((12 : Nat) : Int)) (Int32.ofInt i) = fX11_isStock (Int32.ofInt i) := ff12
  have eM : bg2 σ' I' J' R' (Int32.ofInt ((12 : Nat) : Int)) = if (fX12_in (Int32.ofInt i) 0 5) = 0 then some (flM I' 2 0, J') else gX12_enter_b81 σ' R' I' J' (Int32.ofInt ((12 : Nat) : Int)) := by
    rw [bgB (by omega)]
    unfold gX12_enter gX12_enter_b23 gX12_enter_b41 gX12_enter_b58
    rw [if_pos (by rfl), if_neg (by decide), if_neg (by decide), if_neg n10, na, ob_some, ea, flI k4, ob_some]
    by_cases z : fX12_in (Int32.ofInt i) 0 5 = 0
    · rw [if_pos z, if_pos z]
    · rw [if_neg z, if_neg z, if_pos rfl]
  by_cases c : 0 ≤ i ∧ i ≤ 5
  case neg =>
    refine stF h hg (k := 2) (v := 0) (Or.inr rfl) ?_ ?_
    · rw [eo, ea]; unfold gX7_perform; rw [if_pos (by rw [ff]; exact tX11_isStockF (by omega)), arI, ob_some]
    · rw [eo, eM, tX12_inF (by omega), if_pos rfl]
  have fit : ¬ fX7_firstNumberFits (Int32.ofInt ((12 : Nat) : Int)) (Int32.ofInt i) = 0 := by rw [ff, tX11_isStockT c]; exact n10
  rw [tX12_inT (by omega), if_neg n10] at eM
  obtain ⟨k, rfl⟩ : ∃ k : Nat, i = (k : Int) := ⟨i.toNat, by omega⟩
  have hst := h.2.1.choose_spec.2.2.2.1 k (by omega)
  obtain ⟨v, ev⟩ : ∃ v, A 1 (40 * E t 1 + x) = v := ⟨_, rfl⟩
  by_cases z1 : v < 0
  · refine stF h hg (k := 8) (v := 97) (Or.inl rfl) ?_ ?_
    · rw [eo, ea, pfB hb h hg (by omega) fit, ev]
      unfold gX7_beginBody
      rw [if_pos (by rfl), if_pos z1, arI, ob_some, ob_some]
    · rw [eo, eM]
      unfold gX12_enter_b81
      rw [if_pos (by rfl), nb', ob_some, ev, if_pos z1, flI k4, ob_some]
  by_cases z2 : Int32.toInt64 v ≤ J 18 k
  case neg =>
    refine stF h hg (k := 8) (v := 97) (Or.inl rfl) ?_ ?_
    · rw [eo, ea, pfB hb h hg (by omega) fit, ev]
      unfold gX7_beginBody
      rw [if_pos (by rfl), if_neg z1, if_pos (by rw [i_gd (by omega)]; exact id), t41 (by omega), if_neg z2, arI, ob_some, ob_some]
    · rw [eo, eM]
      unfold gX12_enter_b81
      rw [if_pos (by rfl), nb', ob_some, ev, if_neg z1, na, ob_some, ea, if_pos (by rw [i_gd (by omega)]; exact id), ob_some, t41 (by omega), ← hst, if_neg z2, flI k4, ob_some]
  obtain ⟨σ1, R1, I2, I2', fc1, E1, V1, p1, p2, p3, ⟨p4, p5, p6⟩, p7, p8, p9, p10⟩ := pushB hb h hg eo (by omega) (fun q => by omega) (fun _ => ⟨(k : Int), by omega, by omega, ea⟩)
  obtain ⟨na2, nb2, -⟩ := nuM p3.1.2.2 q1 (show x < 40 by omega) (by rw [p9 114 57 rfl]; exact hg.1.2.2.1) (by rw [p9 114 58 rfl]; exact hg.1.2.2.2)
  have hn := p3.hn
  have st3 := h.2.2.2.2.2.1.1.2.2
  rw [if_pos rfl] at p6
  obtain ⟨I3, J3, R3, I3', J3', y1, y2, y3, y4, y5, y6, y7, y8, y9⟩ := p3.2.1.stock (J 18 k - Int32.toInt64 v) p3.2.2.1.1 ⟨hn.1, by omega⟩ (by have := hg.2.2.2.2.2.1; omega) (k := k) (by omega)
  have P := p3.sto y3 y4 y5 y7 y8 (fun q hq => by
    obtain rfl : q = t + 1 := by omega
    have := hg.2.2.2.2.2.1
    rw [p6]
    omega)
  refine stE (fc := fc) (V := V) hg P p4 p5 (by rw [y8 114 57 rfl, p9 114 57 rfl]) (by rw [y8 114 58 rfl, p9 114 58 rfl]) ((p7.mv rfl).tr (y5.mv rfl)) (y6.mv rfl) ((p10.mv rfl).tr (y7.mv rfl)) ((p9.mv rfl).tr (y8.mv rfl)) (y9.mv rfl) ?_ ?_
  · rw [eo, ea, pfB hb h hg (by omega) fit, ev]
    unfold gX7_beginBody gX7_beginBody_b36 gX7_beginBody_b62
    rw [if_pos (by rfl), if_neg z1, if_pos (by rw [i_gd (by omega)]; exact id), t41 (by omega), if_pos z2, if_neg (by decide), if_neg (by decide), if_neg (by decide), p1, ob_some]
    try dsimp only
    unfold gX7_beginBody_b99
    rw [if_neg (by decide), if_pos (by rfl), if_pos (by rw [i_gd (by omega)]; exact id), t41 (by omega), y1, ob_some, ob_some]
  · rw [eo, eM]
    unfold gX12_enter_b81 gX12_enter_b121
    rw [if_pos (by rfl), nb', ob_some, ev, if_neg z1, na, ob_some, ea, if_pos (by rw [i_gd (by omega)]; exact id), ob_some, t41 (by omega), ← hst, if_pos z2, if_neg (by decide), if_neg (by decide), if_neg (by decide)]
    unfold gX12_enter_b194
    rw [p2, ob_some, if_neg (by decide), if_pos (by rfl), na2, ob_some, ob_some, ea, if_pos (by rw [i_gd (by omega)]; exact id), nb2, ob_some, ev, t41 (by omega), ← hst, y2, ob_some]
