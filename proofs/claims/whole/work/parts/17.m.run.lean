/-! ===== a run: each step with a body ===== -/
/-- bodies without an effect of their own: KEEP, AGAIN, TRY, IF, LOOP -/
theorem stG {n O : Nat → Nat} {A : Nat → Nat → Int32} {vd : Nat → Int32} {G : Nat → Nat → Nat} {N : Nat → Nat → Int32} {nb sb : Nat} {σ : Shp} {I : Nat → Nat → Int32} {J : Nat → Nat → Int64} {R : Nat → Nat → Option Nat} {I' : Nat → Nat → Int32} {J' : Nat → Nat → Int64} {fc : Nat → Nat} {E : Nat → Nat → Nat} {V : Nat → Nat → Int32} {σ' : Shp} {R' : Nat → Nat → Option Nat} {t st ch x o : Nat} (hb : PlB n O) (h : Core n O A vd G N nb sb σ I J R I' J' fc E V (t + 1) st ch) (hg : Bg n O nb sb σ I I' E t st ch x) (eo : op O (E t 1) x = o) (ho : 14 ≤ o) (e1 : gX7_perform σ I J R (Int32.ofInt (E t 1 : Nat)) (Int32.ofInt (op O (E t 1) x : Nat)) (A 0 (40 * E t 1 + x)) = (gX7_enterBody σ I R (Int32.ofInt (o : Nat)) (Int32.ofInt (E t 1 : Nat)) (I 5 7)).bind fun (σ18, I19, R20) => some (σ18, I19, J, R20)) (e2 : bg2 σ' I' J' R' (Int32.ofInt (op O (E t 1) x : Nat)) = (gX12_push I' (Int32.ofInt (o : Nat))).bind fun I4 => some (u2 I4 114 58 (I4 114 58 + 1), J')) : StOk n O A vd G N nb sb σ' R' σ I J R I' J' E t st x := by
  obtain ⟨σ1, R1, I2, I2', fc1, E1, V1, p1, p2, p3, ⟨p4, p5, p6⟩, p7, p8, p9, p10⟩ := pushB hb h hg eo (by omega) (fun q => by omega) (fun q => by omega)
  refine stE (fc := fc) (V := V) hg p3 p4 p5 (p9 114 57 rfl) (p9 114 58 rfl) (p7.mv rfl) Ag.rf (p10.mv rfl) (p9.mv rfl) Ag.rf ?_ ?_
  · rw [e1, p1, ob_some]
  · rw [e2, p2, ob_some]
theorem b99 {σ : Shp} {I : Nat → Nat → Int32} {J : Nat → Nat → Int64} {R : Nat → Nat → Option Nat} {o : Nat} {a b : Int32} (h : 14 ≤ o ∧ o ≤ 20) : gX7_beginBody_b99 σ I J R (Int32.ofInt (o : Nat)) a b = some (σ, I, J, R) := by
  unfold gX7_beginBody_b99
  rw [if_neg (by rw [i_eql (by omega)]; omega), if_neg (by rw [i_eql (by omega)]; omega), if_neg (by rw [i_eql (by omega)]; omega)]
theorem b194 {σ : Shp} {R : Nat → Nat → Option Nat} {I : Nat → Nat → Int32} {J : Nat → Nat → Int64} {o : Nat} (h : 14 ≤ o ∧ o ≤ 20) : gX12_enter_b194 σ R I J (Int32.ofInt (o : Nat)) = (gX12_push I (Int32.ofInt (o : Nat))).bind fun I4 => some (u2 I4 114 58 (I4 114 58 + 1), J) := by
  unfold gX12_enter_b194
  congr 1
  funext I4
  rw [if_neg (by rw [i_eql (by omega)]; omega), if_neg (by rw [i_eql (by omega)]; omega), if_neg (by rw [i_eql (by omega)]; omega)]
/-- what the class does at a step with a body whose number fits -/
theorem pfB {n O : Nat → Nat} {A : Nat → Nat → Int32} {vd : Nat → Int32} {G : Nat → Nat → Nat} {N : Nat → Nat → Int32} {nb sb : Nat} {σ : Shp} {I : Nat → Nat → Int32} {J : Nat → Nat → Int64} {R : Nat → Nat → Option Nat} {I' : Nat → Nat → Int32} {J' : Nat → Nat → Int64} {fc : Nat → Nat} {E : Nat → Nat → Nat} {V : Nat → Nat → Int32} {t st ch x : Nat} {a : Int32} {o : Nat} (hb : PlB n O) (h : Core n O A vd G N nb sb σ I J R I' J' fc E V (t + 1) st ch) (hg : Bg n O nb sb σ I I' E t st ch x) (ho : 11 ≤ o ∧ o ≤ 20) (fit : ¬ fX7_firstNumberFits (Int32.ofInt (o : Nat)) a = 0) : gX7_perform σ I J R (Int32.ofInt (E t 1 : Nat)) (Int32.ofInt (o : Nat)) a = (gX7_beginBody σ I J R (Int32.ofInt (E t 1 : Nat)) (Int32.ofInt (o : Nat)) a (A 1 (40 * E t 1 + x))).bind fun (σ15, I16, J17, R18) => some (σ15, I16, J17, R18) := by
  obtain ⟨⟨q1, q2, q3⟩, eb, ec, -⟩ := pfC hb h hg
  unfold gX7_perform
  rw [if_neg fit, eb, ob_some, ec, ob_some, if_neg (by rw [i_eql (by omega)]; omega), if_neg (by rw [i_eql (by omega)]; omega), if_neg (by rw [i_eql (by omega)]; omega), if_neg (by rw [i_eql (by omega)]; omega), if_neg (by rw [i_eql (by omega)]; omega), if_neg (by rw [i_eql (by omega)]; omega), if_neg (by rw [i_eql (by omega)]; omega), if_neg (by rw [i_eql (by omega)]; omega), if_neg (by rw [i_eql (by omega)]; omega), if_neg (by rw [i_eql (by omega)]; omega)]
  rfl
theorem bgB {σ : Shp} {I : Nat → Nat → Int32} {J : Nat → Nat → Int64} {R : Nat → Nat → Option Nat} {o : Nat} (ho : 11 ≤ o ∧ o ≤ 20) : bg2 σ I J R (Int32.ofInt (o : Nat)) = gX12_enter σ I J R (Int32.ofInt (o : Nat)) := by
  unfold bg2 fX12_hasBody
  rw [if_neg (show ¬ Int32.ofInt (o : Nat) < 11 by rw [i_ltl (by omega)]; omega), if_neg n10]
  generalize gX12_enter σ I J R (Int32.ofInt (o : Nat)) = e
  cases e with
  | none => rfl
  | some r => rfl
/-- KEEP, TRY -/
theorem st14 {n O : Nat → Nat} {A : Nat → Nat → Int32} {vd : Nat → Int32} {G : Nat → Nat → Nat} {N : Nat → Nat → Int32} {nb sb : Nat} {σ : Shp} {I : Nat → Nat → Int32} {J : Nat → Nat → Int64} {R : Nat → Nat → Option Nat} {I' : Nat → Nat → Int32} {J' : Nat → Nat → Int64} {fc : Nat → Nat} {E : Nat → Nat → Nat} {V : Nat → Nat → Int32} {σ' : Shp} {R' : Nat → Nat → Option Nat} {t st ch x : Nat} (hb : PlB n O) (h : Core n O A vd G N nb sb σ I J R I' J' fc E V (t + 1) st ch) (hg : Bg n O nb sb σ I I' E t st ch x) (eo : op O (E t 1) x = 14 ∨ op O (E t 1) x = 16) : StOk n O A vd G N nb sb σ' R' σ I J R I' J' E t st x := by
  obtain ⟨o, ho⟩ : ∃ o, op O (E t 1) x = o := ⟨_, rfl⟩
  rw [ho] at eo
  refine stG hb h hg ho (by omega) ?_ ?_
  · rw [ho, pfB hb h hg (by omega) (by rcases eo with rfl | rfl; exact (by rw [show Int32.ofInt ((14 : Nat) : Int) = 14 from rfl, ff14]; exact n10); exact (by rw [show Int32.ofInt ((16 : Nat) : Int) = 16 from rfl, ff16]; exact n10))]
    unfold gX7_beginBody gX7_beginBody_b36 gX7_beginBody_b62
    rw [if_neg (by rw [i_eql (by omega)]; omega), if_neg (by rw [i_eql (by omega)]; omega), if_neg (by rw [i_eql (by omega)]; omega), if_neg (by rw [i_eql (by omega)]; omega)]
    generalize gX7_enterBody σ I R (Int32.ofInt (o : Nat)) (Int32.ofInt (E t 1 : Nat)) (I 5 7) = e
    cases e with
    | none => rfl
    | some r =>
      obtain ⟨s1, i1, r1⟩ := r
      show (gX7_beginBody_b99 s1 i1 J r1 _ _ _).bind _ = _
      rw [b99 (by omega)]
      rfl
  · rw [ho, bgB (by omega)]
    unfold gX12_enter gX12_enter_b23 gX12_enter_b41 gX12_enter_b58 gX12_enter_b81 gX12_enter_b121
    rw [if_neg (by rw [i_eql (by omega)]; omega), if_neg (by rw [i_eql (by omega)]; omega), if_neg (by rw [i_eql (by omega)]; omega), if_neg (by rw [i_eql (by omega)]; omega), if_neg (by rw [i_eql (by omega)]; omega), if_pos rfl, if_pos rfl, if_neg (by rw [i_eql (by omega)]; omega), if_neg (by rw [i_eql (by omega)]; omega), if_neg (by rw [i_eql (by omega)]; omega), if_neg (by rw [i_eql (by omega)]; omega)]
    exact b194 (by omega)
/-- AGAIN -/
theorem st15 {n O : Nat → Nat} {A : Nat → Nat → Int32} {vd : Nat → Int32} {G : Nat → Nat → Nat} {N : Nat → Nat → Int32} {nb sb : Nat} {σ : Shp} {I : Nat → Nat → Int32} {J : Nat → Nat → Int64} {R : Nat → Nat → Option Nat} {I' : Nat → Nat → Int32} {J' : Nat → Nat → Int64} {fc : Nat → Nat} {E : Nat → Nat → Nat} {V : Nat → Nat → Int32} {σ' : Shp} {R' : Nat → Nat → Option Nat} {t st ch x : Nat} (hb : PlB n O) (hS : Skel σ' R') (h : Core n O A vd G N nb sb σ I J R I' J' fc E V (t + 1) st ch) (hg : Bg n O nb sb σ I I' E t st ch x) (eo : op O (E t 1) x = 15) : StOk n O A vd G N nb sb σ' R' σ I J R I' J' E t st x := by
  have k4 := hS.k 114 13 (by decide) rfl
  obtain ⟨-, -, -, na, -, -⟩ := pfC hb h hg
  obtain ⟨i, i1, i2, ea⟩ := rep (A 0 (40 * E t 1 + x))
  have fit : ¬ fX7_firstNumberFits (Int32.ofInt ((15 : Nat) : Int)) (Int32.ofInt i) = 0 := by rw [show Int32.ofInt ((15 : Nat) : Int) = 15 from rfl, ff15]; exact n10
  have eM : bg2 σ' I' J' R' (Int32.ofInt ((15 : Nat) : Int)) = if (fX12_in (Int32.ofInt i) 1 9) = 0 then some (flM I' 8 96, J') else gX12_enter_b194 σ' R' I' J' (Int32.ofInt ((15 : Nat) : Int)) := by
    rw [bgB (by omega)]
    unfold gX12_enter gX12_enter_b23 gX12_enter_b41 gX12_enter_b58 gX12_enter_b81 gX12_enter_b121
    rw [if_neg (by decide), if_neg (by decide), if_neg (by decide), if_neg (by decide), if_neg (by decide), if_pos rfl, if_pos rfl, if_neg (by decide), if_pos (by rfl), na, ob_some, ea, flI k4, ob_some]
    by_cases z : fX12_in (Int32.ofInt i) 1 9 = 0
    · rw [if_pos z, if_pos z]
    · rw [if_neg z, if_neg z, if_neg (by decide), if_neg (by decide)]
  by_cases c : 1 ≤ i ∧ i ≤ 9
  case neg =>
    refine stF h hg (k := 8) (v := 96) (Or.inl rfl) ?_ ?_
    · rw [eo, ea, pfB hb h hg (by omega) fit]
      unfold gX7_beginBody gX7_beginBody_b36
      rw [if_neg (by decide), if_pos (by rfl)]
      by_cases c1 : i < 1
      · rw [if_pos (by rw [i_ltl (by omega)]; omega), arI, ob_some, ob_some]
      · rw [if_neg (by rw [i_ltl (by omega)]; omega), if_neg (by rw [i_lel (by omega)]; omega), arI, ob_some, ob_some]
    · rw [eo, eM, tX12_inF (by omega), if_pos rfl]
  refine stG hb h hg eo (by omega) ?_ ?_
  · rw [eo, ea, pfB hb h hg (by omega) fit]
    unfold gX7_beginBody gX7_beginBody_b36 gX7_beginBody_b62
    rw [if_neg (by decide), if_pos (by rfl), if_neg (by rw [i_ltl (by omega)]; omega), if_pos (by rw [i_lel (by omega)]; omega), if_neg (by decide), if_neg (by decide)]
    generalize gX7_enterBody σ I R (Int32.ofInt ((15 : Nat) : Int)) (Int32.ofInt (E t 1 : Nat)) (I 5 7) = e
    cases e with
    | none => rfl
    | some r =>
      obtain ⟨s1, i1, r1⟩ := r
      show (gX7_beginBody_b99 s1 i1 J r1 _ _ _).bind _ = _
      rw [b99 (by omega)]
      rfl
  · rw [eo, eM, tX12_inT (by omega), if_neg n10]
    exact b194 (by omega)
/-- IF, LOOP -/
theorem st19 {n O : Nat → Nat} {A : Nat → Nat → Int32} {vd : Nat → Int32} {G : Nat → Nat → Nat} {N : Nat → Nat → Int32} {nb sb : Nat} {σ : Shp} {I : Nat → Nat → Int32} {J : Nat → Nat → Int64} {R : Nat → Nat → Option Nat} {I' : Nat → Nat → Int32} {J' : Nat → Nat → Int64} {fc : Nat → Nat} {E : Nat → Nat → Nat} {V : Nat → Nat → Int32} {σ' : Shp} {R' : Nat → Nat → Option Nat} {t st ch x : Nat} (hb : PlB n O) (hS : Skel σ' R') (h : Core n O A vd G N nb sb σ I J R I' J' fc E V (t + 1) st ch) (hg : Bg n O nb sb σ I I' E t st ch x) (eo : op O (E t 1) x = 19 ∨ op O (E t 1) x = 20) : StOk n O A vd G N nb sb σ' R' σ I J R I' J' E t st x := by
  have k4 := hS.k 114 13 (by decide) rfl
  obtain ⟨⟨q1, q2, q3⟩, -, -, na, -, -⟩ := pfC hb h hg
  obtain ⟨i, i1, i2, ea⟩ := rep (A 0 (40 * E t 1 + x))
  obtain ⟨o, ho⟩ : ∃ o, op O (E t 1) x = o := ⟨_, rfl⟩
  rw [ho] at eo
  have ff : fX7_firstNumberFits (Int32.ofInt (o : Nat)) (Int32.ofInt i) = fX11_isStock (Int32.ofInt i) := by
    rcases eo with rfl | rfl
    · exact ff19
    · exact ff20
  have eM : bg2 σ' I' J' R' (Int32.ofInt (o : Nat)) = if (fX12_in (Int32.ofInt i) 0 5) = 0 then some (flM I' 2 0, J') else gX12_enter_b161 σ' R' I' J' (Int32.ofInt (o : Nat)) := by
    rw [bgB (by omega)]
    unfold gX12_enter gX12_enter_b23 gX12_enter_b41 gX12_enter_b58 gX12_enter_b81 gX12_enter_b121
    rcases eo with rfl | rfl
    · rw [if_neg (by decide), if_pos (by rfl), if_neg (by decide), if_neg (by decide), if_neg n10, na, ob_some, ea, flI k4, ob_some]
      by_cases z : fX12_in (Int32.ofInt i) 0 5 = 0
      · rw [if_pos z, if_pos z]
      · rw [if_neg z, if_neg z, if_pos rfl, if_neg (by decide), if_neg (by decide), if_pos (by rfl)]
    · rw [if_neg (by decide), if_neg (by decide), if_pos (by rfl), if_neg (by decide), if_neg (by decide), if_neg n10, na, ob_some, ea, flI k4, ob_some]
      by_cases z : fX12_in (Int32.ofInt i) 0 5 = 0
      · rw [if_pos z, if_pos z]
      · rw [if_neg z, if_neg z, if_pos rfl, if_neg (by decide), if_neg (by decide), if_neg (by decide), if_pos (by rfl)]
  by_cases c : 0 ≤ i ∧ i ≤ 5
  case neg =>
    refine stF h hg (k := 2) (v := 0) (Or.inr rfl) ?_ ?_
    · rw [ho, ea]; unfold gX7_perform; rw [if_pos (by rw [ff]; exact tX11_isStockF (by omega)), arI, ob_some]
    · rw [ho, eM, tX12_inF (by omega), if_pos rfl]
  have fit : ¬ fX7_firstNumberFits (Int32.ofInt (o : Nat)) (Int32.ofInt i) = 0 := by rw [ff, tX11_isStockT c]; exact n10
  rw [tX12_inT (by omega), if_neg n10] at eM
  obtain ⟨k, rfl⟩ : ∃ k : Nat, i = (k : Int) := ⟨i.toNat, by omega⟩
  have hst := h.2.1.choose_spec.2.2.2.1 k (by omega)
  have eC : gX7_perform σ I J R (Int32.ofInt (E t 1 : Nat)) (Int32.ofInt (o : Nat)) (Int32.ofInt (k : Int)) = (gX7_beginBody_b74 σ I J R (Int32.ofInt (E t 1 : Nat)) (Int32.ofInt (o : Nat)) (Int32.ofInt (k : Int)) (A 1 (40 * E t 1 + x))).bind fun (σ15, I16, J17, R18) => some (σ15, I16, J17, R18) := by
    rw [pfB hb h hg (by omega) fit]
    unfold gX7_beginBody gX7_beginBody_b36 gX7_beginBody_b62
    rcases eo with rfl | rfl
    · rw [if_neg (by decide), if_neg (by decide), if_pos (by rfl)]
    · rw [if_neg (by decide), if_neg (by decide), if_neg (by decide), if_pos (by rfl)]
  by_cases z : (0 : Int64) < J 18 k
  · refine stG hb h hg ho (by omega) ?_ ?_
    · rw [ho, ea, eC]
      unfold gX7_beginBody_b74
      rw [if_pos (by rw [i_gd (by omega)]; exact id), t41 (by omega), if_pos z]
      generalize gX7_enterBody σ I R (Int32.ofInt (o : Nat)) (Int32.ofInt (E t 1 : Nat)) (I 5 7) = e
      cases e with
      | none => rfl
      | some r =>
        obtain ⟨s1, i1, r1⟩ := r
        show (gX7_beginBody_b99 s1 i1 J r1 _ _ _).bind _ = _
        rw [b99 (by omega)]
        rfl
    · rw [ho, eM]
      unfold gX12_enter_b161
      rw [na, ob_some, ea, if_pos (by rw [i_gd (by omega)]; exact id), t41 (by omega), ← hst, if_pos z]
      exact b194 (by omega)
  · -- not entered
    obtain ⟨⟨b1, b2, b3, b4⟩, ⟨b5, b6⟩, b7, b8, ⟨b9, -⟩, -⟩ := hg
    have mt := b8 (by omega)
    have fr := h.2.2.2.2.1 t (Nat.lt_succ_self t)
    have wf := fr.2.2.2.2.1
    have le := fr.1
    have y4 : E t 3 ≤ n (E t 1) := by
      obtain ⟨-, -, -, z1, -, z2, -⟩ := le
      omega
    have b : Ag [(1000058, 1000059)] I' (u2 I' 114 58 (Int32.ofInt (E t 3 : Nat))) := Ag.st Ag.rf rfl
    refine ⟨σ, I, J, R, u2 I' 114 58 (Int32.ofInt (E t 3 : Nat)), J', fc, E, V, t + 1, ch, ?_, ?_, h.kp2 Ag.rf (b.mv rfl) rfl (h.2.2.2.2.2.1.ka Ag.rf (b.mv rfl)) ?_ (Nat.le_refl _), ?_, by omega, Ag.rf, Ag.rf, Ag.rf, b.mv rfl, Ag.rf⟩
    · rw [ho, ea, eC]
      unfold gX7_beginBody_b74
      rw [if_pos (by rw [i_gd (by omega)]; exact id), t41 (by omega), if_neg z]
      rfl
    · rw [ho, eM]
      unfold gX12_enter_b161
      have := mt.1
      rw [na, ob_some, ea, if_pos (by rw [i_gd (by omega)]; exact id), t41 (by omega), ← hst, if_neg z, b3, b4, endM h.1.2.2 hb q1 mt (by omega), ob_some, iadd1, show E t 3 - 1 + 1 = E t 3 by omega]
    · have := h.2.2.2.2.2.2
      unfold Wy at this ⊢
      rw [b 114 59 rfl, b 114 60 rfl, b 114 61 rfl, b 114 62 rfl, b 114 63 rfl, b 114 64 rfl]
      exact this
    · intro q hq _
      obtain rfl : q = t := by omega
      refine ⟨by rw [b 114 57 rfl, b3], E q 3, 0, u2_self _ _ _ _, rfl, y4, ?_⟩
      refine wf.ok y4 (Or.inr (Or.inr ⟨x, mt, ?_, ?_⟩))
      · rw [ho]; omega
      · rw [ho]; omega
