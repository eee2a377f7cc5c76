/-! ===== a run: plans are done, bodies are entered ===== -/
theorem lvl {n O : Nat → Nat} {E : Nat → Nat → Nat} {t : Nat} (h : RSa n O E t) : E t 13 ≤ 20 := by
  obtain ⟨-, -, h3, h4, -, -, -, h8, -⟩ := h
  omega
theorem t159 {n O : Nat → Nat} {E : Nat → Nat → Nat} {t : Nat} (h : RSa n O E t) : t + 1 < 160 := by
  have := lvl h
  obtain ⟨-, -, -, -, -, -, -, -, h9, h10, -⟩ := h
  omega
theorem st10 {n O : Nat → Nat} {A : Nat → Nat → Int32} {vd : Nat → Int32} {G : Nat → Nat → Nat} {N : Nat → Nat → Int32} {nb sb : Nat} {σ : Shp} {I : Nat → Nat → Int32} {J : Nat → Nat → Int64} {R : Nat → Nat → Option Nat} {I' : Nat → Nat → Int32} {J' : Nat → Nat → Int64} {fc : Nat → Nat} {E : Nat → Nat → Nat} {V : Nat → Nat → Int32} {σ' : Shp} {R' : Nat → Nat → Option Nat} {t st ch x : Nat} (hb : PlB n O) (hv : ∀ p, p < 4 → Vd n O A p (vd p)) (hS : Skel σ' R') (h : Core n O A vd G N nb sb σ I J R I' J' fc E V (t + 1) st ch) (hg : Bg n O nb sb σ I I' E t st ch x) (eo : op O (E t 1) x = 10) : StOk n O A vd G N nb sb σ' R' σ I J R I' J' E t st x := by
  have eo' : Int32.ofInt (op O (E t 1) x : Nat) = 10 := by rw [eo]; rfl
  have k4 := hS.k 114 13 (by decide) rfl
  have hn := h.hn
  obtain ⟨⟨q1, q2, q3⟩, eb, ec, na, -, -⟩ := pfC hb h hg
  obtain ⟨i, i1, i2, ea⟩ := rep (A 0 (40 * E t 1 + x))
  by_cases c : 0 ≤ i ∧ i ≤ 3
  case neg =>
    refine stF h hg (k := 2) (v := 0) (Or.inr rfl) ?_ ?_
    · rw [eo', ea]; unfold gX7_perform; rw [if_pos (by rw [ff10]; exact tX11_isPlanF (by omega)), arI, ob_some]
    · rw [eo']; unfold bg2; rw [if_pos hb10, an10, na, ob_some, ea, tX12_inF (by omega), ob_some, if_pos rfl, flI k4, ob_some]
  obtain ⟨a, rfl⟩ : ∃ k : Nat, i = (k : Int) := ⟨i.toNat, by omega⟩
  have a4 : a < 4 := by omega
  have fit : ¬ fX7_firstNumberFits 10 (Int32.ofInt (a : Int)) = 0 := by rw [ff10, tX11_isPlanT c]; exact n10
  have eC : gX7_perform σ I J R (Int32.ofInt (E t 1 : Nat)) 10 (Int32.ofInt (a : Int)) = (gX7_doPlan σ I R (Int32.ofInt (a : Int))).bind fun (σ20, I21, R22) => gX7_perform_b234 σ20 I21 J R22 := by
    unfold gX7_perform
    rw [if_neg fit, eb, ob_some, ec, ob_some, if_neg (by decide), if_neg (by decide), if_neg (by decide), if_neg (by decide), if_neg (by decide), if_neg (by decide), if_neg (by decide), if_neg (by decide), if_neg (by decide), if_pos rfl]
  have eM : bg2 σ' I' J' R' 10 = (gX12_call σ' I' R').bind fun I13 => some (I13, J') := by
    unfold bg2
    rw [if_pos hb10, an10, na, ob_some, ea, tX12_inT (by omega), ob_some, if_neg n10, if_neg (by decide), if_neg (by decide), if_pos rfl]
  obtain ⟨I1, I1', f1, f2, h1, a1, b1, f3⟩ := h.fw (σ' := σ') (R' := R') hb (hv a a4)
  have dos := (h1.2.2.2.2.2.1.2.1 t rfl)
  have fr := h.2.2.2.2.1 t (Nat.lt_succ_self t)
  have d6 := fr.1.2.2.2.2.2.2.2.2.2.1
  have eC2 : gX7_doPlan σ I R (Int32.ofInt (a : Int)) = if vd a = -1 then (if E t 14 < 6 then (gX7_enterPlan σ (u2 I1 5 8 (Int32.ofInt ((E t 14 + 1 : Nat) : Int))) R 10 (Int32.ofInt (a : Int))).bind fun (σ5, I6, R7) => gX7_doPlan_b60 σ5 I6 R7 else some (σ, arC I1 8 99, R)) else some (σ, arC I1 8 98, R) := by
    unfold gX7_doPlan
    rw [f1, ob_some]
    try dsimp only
    by_cases z : vd a = -1
    · rw [if_pos z, if_pos z, dos.1]
      by_cases z2 : E t 14 < 6
      · rw [if_pos (by rw [i_ltl (by omega)]; omega), if_pos z2, iadd1]
      · rw [if_neg (by rw [i_ltl (by omega)]; omega), if_neg z2, arI, ob_some]
        rfl
    · rw [if_neg z, if_neg z, arI, ob_some]
      rfl
  have na1 := (nuM h1.1.2.2 q1 (show x < 40 by omega) (by rw [b1 114 57 rfl]; exact hg.1.2.2.1) (by rw [b1 114 58 rfl]; exact hg.1.2.2.2)).1
  obtain ⟨C, -, -, -, -, h17, h54, h640, -⟩ := id h1.2.1
  have cl1 := h1.2.2.2.1.1
  have d42 : I1' 114 42 = Int32.ofInt ((t + 1 : Nat) : Int) := h1.2.2.2.2.2.1.2.2.2.2.1
  have t16 := t159 fr.1
  have eM2 : gX12_call σ' I' R' = if vd a = -1 then (if E t 14 < 6 then some (u2 (u2 (u2 (puM I1' (t + 1) 10 ch) 114 66 (Int32.ofInt ((E t 14 + 1 : Nat) : Int))) 114 57 (Int32.ofInt (a : Int))) 114 58 0) else some (flM I1' 8 99)) else some (flM I1' 8 98) := by
    unfold gX12_call
    rw [na, ob_some, ea, f2, ob_some]
    try dsimp only
    by_cases z : vd a = -1
    · rw [if_pos z, if_pos z, dos.2.1]
      by_cases z2 : E t 14 < 6
      · rw [if_neg (by rw [i_eql (by omega)]; omega), if_pos z2, na1, ob_some, ea, puI d42 (by omega) h54, ob_some]
        try dsimp only
        have e66 : puM I1' (t + 1) 10 ch 114 66 = Int32.ofInt (E t 14 : Nat) := by unfold puM; simp (disch := omega) only [u2n, u2s]; exact dos.2.1
        rw [e66, iadd1]
      · rw [if_pos (by rw [i_eql (by omega)]; omega), if_neg z2, flI k4, ob_some]
    · rw [if_neg z, if_neg z, flI k4, ob_some]
  by_cases z : vd a = -1
  case neg =>
    rw [if_neg z] at eC2 eM2
    refine stF2 h1 hg (k := 8) (v := 98) (Or.inl rfl) (a1 5 7 rfl) (b1 114 58 rfl) (a1.mv rfl) (b1.mv rfl) ?_ ?_
    · rw [eo', ea, eC, eC2, ob_some]
      rfl
    · rw [eo', eM, eM2, ob_some]
  rw [if_pos z] at eC2 eM2
  by_cases z2 : E t 14 < 6
  case neg =>
    rw [if_neg z2] at eC2 eM2
    refine stF2 h1 hg (k := 8) (v := 99) (Or.inl rfl) (a1 5 7 rfl) (b1 114 58 rfl) (a1.mv rfl) (b1.mv rfl) ?_ ?_
    · rw [eo', ea, eC, eC2, ob_some]
      rfl
    · rw [eo', eM, eM2, ob_some]
  rw [if_pos z2] at eC2 eM2
  obtain ⟨wf, bd⟩ := f3 z
  have nn := hb.1 a a4
  -- the frame
  obtain ⟨σ1, R1, c, n0, n1, n2, n3, n4, n5, n6⟩ := newT (I := u2 I1 5 8 (Int32.ofInt ((E t 14 + 1 : Nat) : Int))) (d := t + 1) (ch := ch) h1.2.2.1.1 h1.2.2.1.2.1 (by rw [u2n (by omega)]; exact cl1) t16 (by rw [u2n (by omega)]; exact h17)
  have cg := n3.1 (t + 1) c t16 n1
  have c1 : 202 ≤ c ∧ c < 1000000 := by
    rcases n6 with ⟨rfl, -⟩ | ⟨rfl, -, rfl⟩
    · omega
    · omega
  obtain ⟨I2, e2⟩ : ∃ I2, u2 (u2 (u2 (u2 (u2 (nT (u2 I1 5 8 (Int32.ofInt ((E t 14 + 1 : Nat) : Int))) c (t + 1) ch) c 0 10) c 1 (Int32.ofInt (a : Int))) c 2 0) c 3 0) c 4 (Int32.ofInt (n a : Nat)) = I2 := ⟨_, rfl⟩
  obtain ⟨I2', e2'⟩ : ∃ I2', u2 (u2 (u2 (puM I1' (t + 1) 10 ch) 114 66 (Int32.ofInt ((E t 14 + 1 : Nat) : Int))) 114 57 (Int32.ofInt (a : Int))) 114 58 0 = I2' := ⟨_, rfl⟩
  have hI : ∀ k, inW [(5, 6), (202, 1000000)] (key c k) = true := fun k => inF c1.1 c1.2 (by decide)
  have aI : Ag [(5, 6), (202, 1000000)] I1 I2 := by
    rw [← e2]
    exact Ag.st (Ag.st (Ag.st (Ag.st (Ag.st (Ag.st (Ag.st (Ag.st (Ag.st (Ag.st (Ag.st Ag.rf rfl) rfl) (hI _)) (hI _)) (hI _)) (hI _)) (hI _)) (hI _)) (hI _)) (hI _)) (hI _)
  have bI : Ag [(143, 148), (1000042, 1000043), (1000057, 1000059), (1000066, 1000067)] I1' I2' := by
    rw [← e2']
    exact Ag.st (Ag.st (Ag.st (Ag.st (Ag.st (Ag.st (Ag.st (Ag.st (Ag.st Ag.rf rfl) rfl) rfl) rfl) rfl) rfl) rfl) rfl) rfl
  have i5 : ∀ f, f ≠ 6 → f ≠ 8 → I2 5 f = I1 5 f := fun f g1 g2 => by rw [← e2]; unfold nT; simp (disch := omega) only [u2n, u2s]
  have m5 : ∀ f, f ≠ 42 → f ≠ 57 → f ≠ 58 → f ≠ 66 → I2' 114 f = I1' 114 f := fun f g1 g2 g3 g4 => by rw [← e2']; unfold puM; simp (disch := omega) only [u2n, u2s]
  have P := h1.push (c := c) (σ1 := σ1) (R1 := R1) (I2 := I2) (I2' := I2') (l := [10, a, 0, 0, n a, 0, 0, 0, 0, 0, ch, 0, 0, 0, E t 14 + 1, E t 15, 0]) t16 ⟨hg.2.2.2.2.2.2.1, hg.2.2.2.2.2.2.2⟩ n1 n2 n3 n4 n5 n6 aI
    (fun q g1 g2 => by
      funext k
      rw [← e2]
      unfold nT
      simp (disch := omega) only [u2n, u2s])
    (by rw [← e2]; unfold nT; simp (disch := omega) only [u2n, u2s])
    (by
      show I2 c 0 = Int32.ofInt ((10 : Nat) : Int) ∧ I2 c 1 = Int32.ofInt (a : Nat) ∧ I2 c 2 = Int32.ofInt ((0 : Nat) : Int) ∧ I2 c 3 = Int32.ofInt ((0 : Nat) : Int) ∧ I2 c 4 = Int32.ofInt (n a : Nat) ∧ I2 c 8 = Int32.ofInt ((0 : Nat) : Int) ∧ I2 c 10 = Int32.ofInt (ch : Nat)
      rw [← e2]
      unfold nT
      refine ⟨?_, ?_, ?_, ?_, ?_, ?_, ?_⟩
      · simp (disch := omega) only [u2n, u2s]; rfl
      · simp (disch := omega) only [u2n, u2s]
      · simp (disch := omega) only [u2n, u2s]; rfl
      · simp (disch := omega) only [u2n, u2s]; rfl
      · simp (disch := omega) only [u2n, u2s]
      · simp (disch := omega) only [u2n, u2s]; rfl
      · simp (disch := omega) only [u2n, u2s])
    bI
    (fun q j g1 g2 g3 => by rw [← e2']; unfold puM; simp (disch := omega) only [u2n, u2s])
    (by
      have := lvl fr.1
      have t1 := fr.1.2.2.2.2.2.2.2.2.1
      refine ⟨?_, ?_, ?_, ?_, ?_, ?_, ?_, ?_, ?_, ?_, ?_, ?_⟩
      · show (mkE E (t + 1) _ (t + 1) 1) < 4; rw [mkE_t]; exact a4
      · rw [mkE_t, mkE_t, mkE_t]; exact wf.bd
      · rw [mkE_t, mkE_t]; exact Nat.le_refl _
      · rw [mkE_t, mkE_t]; exact Nat.zero_le _
      · rw [mkE_t, mkE_t, mkE_t]; rfl
      · rw [mkE_t, mkE_t]; exact Nat.le_refl _
      · intro _; rw [mkE_t, mkE_t]; rfl
      · rw [mkE_t, mkE_t, mkE_t]; show 2 * 0 + (n a + 1) ≤ 41 + 0; omega
      · rw [mkE_t, mkE_t]; show t + 1 ≤ 21 * (E t 14 + 1) + 0; omega
      · rw [mkE_t]; show E t 14 + 1 ≤ 6; omega
      · rw [mkE_t]; show ch ≤ 640; exact h640
      · rw [mkE_t]; show 0 ≤ 2; omega)
    (by
      have ep : mkE E (t + 1) [10, a, 0, 0, n a, 0, 0, 0, 0, 0, ch, 0, 0, 0, E t 14 + 1, E t 15, 0] (t + 1 - 1) = E t := mkE_o (by omega)
      have e3 := hg.2.2.1 (by omega)
      refine Or.inr (Or.inl ⟨by rw [mkE_t]; rfl, by omega, by rw [mkE_t]; rfl, ?_, ?_, ?_, ?_⟩)
      · rw [mkE_t, ep]; rfl
      · rw [mkE_t, ep]; rfl
      · rw [ep]; omega
      · rw [ep, e3, Nat.add_sub_cancel]; exact eo)
    (by
      have ep : mkE E (t + 1) [10, a, 0, 0, n a, 0, 0, 0, 0, 0, ch, 0, 0, 0, E t 14 + 1, E t 15, 0] (t + 1 - 1) = E t := mkE_o (by omega)
      have e3 := hg.2.2.1 (by omega)
      have e0 : mkE E (t + 1) [10, a, 0, 0, n a, 0, 0, 0, 0, 0, ch, 0, 0, 0, E t 14 + 1, E t 15, 0] (t + 1) 0 = 10 := by rw [mkE_t]; rfl
      unfold RMo
      rw [e0, ep]
      refine ⟨?_, ?_, ?_, fun q => by omega, fun q => by omega, fun q => by omega, fun q => by omega⟩
      · rw [← e2', if_neg (by decide)]; unfold puM; simp (disch := omega) only [u2n, u2s]; rfl
      · rw [← e2', if_pos rfl]; unfold puM; simp (disch := omega) only [u2n, u2s]; rw [b1 114 57 rfl]; exact hg.1.2.2.1
      · rw [← e2', if_pos rfl, e3, Nat.add_sub_cancel]; unfold puM; simp (disch := omega) only [u2n, u2s]; rw [b1 114 58 rfl]; exact hg.1.2.2.2)
    (by
      unfold RPf
      rw [mkE_t]
      exact ⟨z, wf, bd⟩)
    (by
      obtain ⟨c1', c2', c3', c4', c5', c6'⟩ := h1.2.2.2.2.2.1
      unfold Cnt
      rw [i5 9 (by decide) (by decide), i5 10 (by decide) (by decide), i5 11 (by decide) (by decide), i5 12 (by decide) (by decide), i5 13 (by decide) (by decide), aI 4 13 rfl, aI 7 1 rfl, m5 65 (by decide) (by decide) (by decide) (by decide), m5 67 (by decide) (by decide) (by decide) (by decide), m5 68 (by decide) (by decide) (by decide) (by decide), m5 69 (by decide) (by decide) (by decide) (by decide), m5 70 (by decide) (by decide) (by decide) (by decide), m5 1 (by decide) (by decide) (by decide) (by decide), m5 24 (by decide) (by decide) (by decide) (by decide)]
      refine ⟨c1', fun q hq => ?_, c3', fun k hk => by rw [aI 19 k rfl, aI 20 k rfl, bI 140 k rfl, bI 141 k rfl]; exact c4' k hk, ?_, c6'.1, c6'.2.1, fun k hk => by rw [aI 8 k rfl, bI 129 k rfl]; exact c6'.2.2 k hk⟩
      · obtain rfl : q = t + 1 := by omega
        rw [mkE_t, mkE_t]
        refine ⟨?_, ?_, ?_⟩
        · rw [← e2]; unfold nT; simp (disch := omega) only [u2n, u2s]; rfl
        · rw [← e2']; unfold puM; simp (disch := omega) only [u2n, u2s]; rfl
        · show ch + E t 15 ≤ 2 * st
          exact (c2' t rfl).2.2
      · rw [← e2']; unfold puM; simp (disch := omega) only [u2n, u2s])
  refine ⟨σ1, I2, J, R1, I2', J', _, _, _, t + 2, ch, ?_, ?_, P, ?_, Nat.le_refl _, ?_, Ag.rf, ?_, ?_, Ag.rf⟩
  · rw [eo', ea, eC, eC2]
    unfold gX7_enterPlan
    rw [n0, ob_some]
    try dsimp only
    unfold gX7_enterPlan_b4
    rw [onl_s, if_pos n2]
    try dsimp only
    have ln : ∀ K : Nat → Nat → Int32, K 10 a = Int32.ofInt (n a : Nat) → gX6_lengthOf K (Int32.ofInt (a : Int)) = some (Int32.ofInt (n a : Nat)) := fun K hK => by
      unfold gX6_lengthOf
      rw [if_pos (p40 a4), t41 (by omega), hK]
    rw [ln _ (by unfold nT; simp (disch := omega) only [u2n, u2s]; exact h1.1.1.1 a a4), ob_some, ob_some, e2]
    rfl
  · rw [eo', eM, eM2, e2', ob_some]
  · intro q hq _
    obtain rfl : q = t + 1 := by omega
    rw [mkE_t, mkE_t]
    refine ⟨?_, 0, 0, ?_, rfl, Nat.zero_le _, wf.ok (Nat.zero_le _) (Or.inl rfl)⟩
    · rw [← e2']; simp (disch := omega) only [u2n, u2s]; rfl
    · rw [← e2']; simp (disch := omega) only [u2n, u2s]; rfl
  · exact (a1.mv rfl).tr (aI.mv rfl)
  · rcases n6 with ⟨-, rfl⟩ | ⟨-, rfl, -⟩
    · exact Ag.rf
    · exact Ag.st (Ag.st Ag.rf (inF c1.1 c1.2 (by decide))) rfl
  · exact (b1.mv rfl).tr (bI.mv rfl)
