/-! ===== a run: what a step does ===== -/
def arC (I : Nat → Nat → Int32) (k v : Int32) : Nat → Nat → Int32 := u2 (u2 (u2 (u2 (u2 (u2 I 5 13 (I 5 13 + 1)) 25 0 1) 25 1 k) 25 2 v) 25 3 (I 5 7)) 25 4 0
def flM (I : Nat → Nat → Int32) (k v : Int32) : Nat → Nat → Int32 := u2 (u2 (u2 (u2 (u2 (u2 (u2 I 114 59 1) 114 60 k) 114 61 (if k = 8 then v else 0)) 114 62 (I 114 58)) 114 63 0) 114 70 (I 114 70 + 1)) 114 1 (I 114 1 + 1)
theorem arI (I : Nat → Nat → Int32) (k v : Int32) : gX7_arise I k v = some (arC I k v) := by
  unfold gX7_arise
  rw [if_pos g00, if_pos g01, if_pos g02, if_pos g03, if_pos g04, c00, c01, c02, c03, c04]
  try dsimp only
  rw [u2n (by omega), u2n (by omega), u2n (by omega), u2n (by omega)]
  rfl
theorem flI {σ : Shp} (hk : kdx σ 114 = 13) (I : Nat → Nat → Int32) (k v : Int32) : gX12_fails σ I k v = some (flM I k v) := by
  have z : ∀ w : Int32, gX12_fails_b22 σ (u2 (u2 I 114 59 1) 114 60 k) (some 114) w = some (u2 (u2 (u2 (u2 (u2 (u2 (u2 I 114 59 1) 114 60 k) 114 61 w) 114 62 (I 114 58)) 114 63 0) 114 70 (I 114 70 + 1)) 114 1 (I 114 1 + 1)) := fun w => by
    unfold gX12_fails_b22
    rw [ob_some, if_pos hk]
    try dsimp only
    simp (disch := omega) only [u2n, u2s]
  unfold gX12_fails flM
  try dsimp only
  by_cases c : k = 8
  · rw [if_pos c, if_pos c, z]
  · rw [if_neg c, if_neg c, z]
/-- the model's step, once it is counted -/
def bg2 (σ : Shp) (I1 : Nat → Nat → Int32) (J : Nat → Nat → Int64) (R : Nat → Nat → Option Nat) (x1 : Int32) : Option ((Nat → Nat → Int32) × (Nat → Nat → Int64)) :=
    if (fX12_hasBody x1) = 0 then
      (gX12_areNumbers I1 x1).bind fun r4 =>
      if r4 = 0 then
        (gX12_fails σ I1 (2 : Int32) (0 : Int32)).bind fun I23 =>
        some (I23, J)
      else
        if x1 = (7 : Int32) then
          (gX12_a I1).bind fun r19 =>
          (gX12_fails σ I1 (8 : Int32) r19).bind fun I21 =>
          some (I21, J)
        else
          if x1 = (8 : Int32) then
            let I15 := u2 I1 114 59 (2 : Int32)
            (gX12_a I15).bind fun r16 =>
            let I18 := u2 I15 114 64 r16
            some (I18, J)
          else
            if x1 = (10 : Int32) then
              (gX12_call σ I1 R).bind fun I13 =>
              some (I13, J)
            else
              (gX12_plain σ I1 J R x1).bind fun (I6, J7, r8) =>
              if r8 = 0 then
                let I10 := u2 I6 114 58 ((I6 114 58) + (1 : Int32))
                some (I10, J7)
              else
                (gX12_fails σ I6 r8 (0 : Int32)).bind fun I11 =>
                some (I11, J7)
    else
      (gX12_enter σ I1 J R x1).bind fun (I25, J26) =>
      some (I25, J26)
theorem bgE {σ : Shp} {I : Nat → Nat → Int32} {J : Nat → Nat → Int64} {R : Nat → Nat → Option Nat} {x : Int32} {st : Nat} (h : I 114 65 = Int32.ofInt (st : Nat)) (hs : st < 300) : gX12_begin σ I J R x = bg2 σ (u2 I 114 65 (Int32.ofInt ((st + 1 : Nat) : Int))) J R x := by
  unfold gX12_begin gX12_isStep bg2
  rw [h, if_neg (by rw [i_eql (by omega)]; omega), ob_some, iadd1]
  try dsimp only
  rw [if_neg n10]
theorem bgS {σ : Shp} {I : Nat → Nat → Int32} {J : Nat → Nat → Int64} {R : Nat → Nat → Option Nat} {x : Int32} (h : I 114 65 = Int32.ofInt (300 : Nat)) : gX12_begin σ I J R x = some (u2 I 114 59 3, J) := by
  unfold gX12_begin gX12_isStep
  rw [h, if_pos (by rfl), ob_some]
  try dsimp only
  rw [if_pos rfl]
/-- a step has begun -/
def Bg (n O : Nat → Nat) (nb sb : Nat) (σ : Shp) (I I' : Nat → Nat → Int32) (E : Nat → Nat → Nat) (t st ch x : Nat) : Prop := (I 25 0 = 0 ∧ I 5 7 = Int32.ofInt (x : Nat) ∧ I' 114 57 = Int32.ofInt (E t 1 : Nat) ∧ I' 114 58 = Int32.ofInt (x : Nat)) ∧ (E t 16 ≤ x ∧ x < E t 3) ∧ (op O (E t 1) x < 11 → E t 3 = x + 1) ∧ (11 ≤ op O (E t 1) x → Mt (op O (E t 1)) x (E t 3 - 1)) ∧ (op O (E t 1) x ≠ 0 ∧ op O (E t 1) x ≠ 17 ∧ op O (E t 1) x ≠ 18 ∧ op O (E t 1) x ≤ 20) ∧ ch + E t 15 + 2 ≤ 2 * st ∧ nxx σ + 2 ≤ nb + 2 * st ∧ slx σ + 19 ≤ sb + 19 * st
def StOk (n O : Nat → Nat) (A : Nat → Nat → Int32) (vd : Nat → Int32) (G : Nat → Nat → Nat) (N : Nat → Nat → Int32) (nb sb : Nat) (σ' : Shp) (R' : Nat → Nat → Option Nat) (σ : Shp) (I : Nat → Nat → Int32) (J : Nat → Nat → Int64) (R : Nat → Nat → Option Nat) (I' : Nat → Nat → Int32) (J' : Nat → Nat → Int64) (E : Nat → Nat → Nat) (t st x : Nat) : Prop := ∃ σ1 I1 J1 R1 I1' J1' fc1 E1 V1 d1 ch1, gX7_perform σ I J R (Int32.ofInt (E t 1 : Nat)) (Int32.ofInt (op O (E t 1) x : Nat)) (A 0 (40 * E t 1 + x)) = some (σ1, I1, J1, R1) ∧ bg2 σ' I' J' R' (Int32.ofInt (op O (E t 1) x : Nat)) = some (I1', J1') ∧ Core n O A vd G N nb sb σ1 I1 J1 R1 I1' J1' fc1 E1 V1 d1 st ch1 ∧ Pc n O I1 I1' E1 d1 ∧ d1 ≤ t + 2 ∧ Ag WRc I I1 ∧ Ag WRc J J1 ∧ Ag WRc R R1 ∧ Ag WRm I' I1' ∧ Ag WRm J' J1'
theorem Cnt.ka {I I1 I' I1' : Nat → Nat → Int32} {E : Nat → Nat → Nat} {d st ch : Nat} (h : Cnt I I' E d st ch) (a : Ag [(17, 18), (22, 23), (25, 26)] I I1) (b : Ag [(154, 155), (1000054, 1000055), (1000057, 1000065)] I' I1') : Cnt I1 I1' E d st ch := by
  obtain ⟨c1, c2, c3, c4, c5, c6⟩ := h
  unfold Cnt
  rw [a 5 9 rfl, a 5 8 rfl, a 5 10 rfl, a 5 11 rfl, a 5 12 rfl, a 5 13 rfl, a 4 13 rfl, a 7 1 rfl, b 114 65 rfl, b 114 66 rfl, b 114 67 rfl, b 114 68 rfl, b 114 69 rfl, b 114 70 rfl, b 114 1 rfl, b 114 42 rfl, b 114 24 rfl]
  exact ⟨c1, c2, c3, fun k hk => by rw [a 19 k rfl, a 20 k rfl, b 140 k rfl, b 141 k rfl]; exact c4 k hk, c5, c6.1, c6.2.1, fun k hk => by rw [a 8 k rfl, b 129 k rfl]; exact c6.2.2 k hk⟩
/-- a step that fails -/
theorem stF2 {n O : Nat → Nat} {A : Nat → Nat → Int32} {vd : Nat → Int32} {G : Nat → Nat → Nat} {N : Nat → Nat → Int32} {nb sb : Nat} {σ : Shp} {I : Nat → Nat → Int32} {J : Nat → Nat → Int64} {R : Nat → Nat → Option Nat} {I' : Nat → Nat → Int32} {J' : Nat → Nat → Int64} {fc : Nat → Nat} {E : Nat → Nat → Nat} {V : Nat → Nat → Int32} {σ' : Shp} {R' : Nat → Nat → Option Nat} {t st ch x : Nat} {k v : Int32} {I0 I0' : Nat → Nat → Int32} (h : Core n O A vd G N nb sb σ I J R I' J' fc E V (t + 1) st ch) (hg : Bg n O nb sb σ I0 I0' E t st ch x) (hk : k = 8 ∨ v = 0) (k7 : I 5 7 = I0 5 7) (k58 : I' 114 58 = I0' 114 58) (aI : Ag WRc I0 I) (aM : Ag WRm I0' I') (e1 : gX7_perform σ I0 J R (Int32.ofInt (E t 1 : Nat)) (Int32.ofInt (op O (E t 1) x : Nat)) (A 0 (40 * E t 1 + x)) = some (σ, arC I k v, J, R)) (e2 : bg2 σ' I0' J' R' (Int32.ofInt (op O (E t 1) x : Nat)) = some (flM I' k v, J')) (hk0 : k ≠ 0 := by decide) : StOk n O A vd G N nb sb σ' R' σ I0 J R I0' J' E t st x := by
  have a : Ag [(5, 6), (25, 26)] I (arC I k v) := Ag.st (Ag.st (Ag.st (Ag.st (Ag.st (Ag.st Ag.rf rfl) rfl) rfl) rfl) rfl) rfl
  have b : Ag [(1000001, 1000002), (1000059, 1000071)] I' (flM I' k v) := Ag.st (Ag.st (Ag.st (Ag.st (Ag.st (Ag.st (Ag.st Ag.rf rfl) rfl) rfl) rfl) rfl) rfl) rfl
  have ca : ∀ f, f ≠ 13 → arC I k v 5 f = I 5 f := fun f hf => by unfold arC; simp (disch := omega) only [u2n, u2s]
  have w1 : arC I k v 25 0 = 1 := by unfold arC; simp (disch := omega) only [u2n, u2s]
  obtain ⟨⟨b1, b2, b3, b4⟩, -⟩ := hg
  rw [← k7] at b2
  rw [← k58] at b4
  have hc := h.2.2.2.2.2.1
  refine ⟨σ, _, J, R, _, J', fc, E, V, t + 1, ch, e1, e2, h.kp2 (a.mv rfl) (b.mv rfl) (ca 6 (by decide)) ?_ ?_ (Nat.le_refl _), fun _ _ q => ?_, by omega, aI.tr (a.mv rfl), Ag.rf, Ag.rf, aM.tr (b.mv rfl), Ag.rf⟩
  · obtain ⟨c1, c2, c3, c4, c5, c6⟩ := hc
    have m : ∀ f, f ≠ 1 → (f < 59 ∨ 63 < f) → f ≠ 70 → flM I' k v 114 f = I' 114 f := fun f h1 h2 h3 => by unfold flM; simp (disch := omega) only [u2n, u2s]
    unfold Cnt
    rw [ca 9 (by decide), ca 8 (by decide), ca 10 (by decide), ca 11 (by decide), ca 12 (by decide), a 4 13 rfl, a 7 1 rfl, m 65 (by decide) (by decide) (by decide), m 66 (by decide) (by decide) (by decide), m 67 (by decide) (by decide) (by decide), m 68 (by decide) (by decide) (by decide), m 69 (by decide) (by decide) (by decide), m 42 (by decide) (by decide) (by decide), m 24 (by decide) (by decide) (by decide)]
    have e13 : arC I k v 5 13 = I 5 13 + 1 := by unfold arC; simp (disch := omega) only [u2n, u2s]
    have e70 : flM I' k v 114 70 = I' 114 70 + 1 := by unfold flM; simp (disch := omega) only [u2n, u2s]
    have e01 : flM I' k v 114 1 = I' 114 1 + 1 := by unfold flM; simp (disch := omega) only [u2n, u2s]
    rw [e13, e70, e01]
    refine ⟨c1, c2, ⟨c3.1, c3.2.1, c3.2.2.1, by rw [c3.2.2.2.1], by rw [c3.2.2.2.2, Int32.add_assoc]⟩, fun q hq => by rw [a 19 q rfl, a 20 q rfl, b 140 q rfl, b 141 q rfl]; exact c4 q hq, c5, c6.1, c6.2.1, fun q hq => by rw [a 8 q rfl, b 129 q rfl]; exact c6.2.2 q hq⟩
  · have z1 : arC I k v 25 1 = k := by unfold arC; simp (disch := omega) only [u2n, u2s]
    have z2 : arC I k v 25 2 = v := by unfold arC; simp (disch := omega) only [u2n, u2s]
    have z3 : arC I k v 25 3 = I 5 7 := by unfold arC; simp (disch := omega) only [u2n, u2s]
    have z4 : arC I k v 25 4 = 0 := by unfold arC; simp (disch := omega) only [u2n, u2s]
    have y0 : flM I' k v 114 59 = 1 := by unfold flM; simp (disch := omega) only [u2n, u2s]
    have y1 : flM I' k v 114 60 = k := by unfold flM; simp (disch := omega) only [u2n, u2s]
    have y2 : flM I' k v 114 61 = if k = 8 then v else 0 := by unfold flM; simp (disch := omega) only [u2n, u2s]
    have y3 : flM I' k v 114 62 = I' 114 58 := by unfold flM; simp (disch := omega) only [u2n, u2s]
    have y4 : flM I' k v 114 63 = 0 := by unfold flM; simp (disch := omega) only [u2n, u2s]
    unfold Wy WyR
    rw [w1, z1, z2, z3, z4, y0, y1, y2, y3, y4, b2, b4]
    refine ⟨rfl, Or.inr (Or.inl rfl), fun _ => ⟨rfl, ?_, rfl, rfl⟩, fun q => absurd q (by decide), fun _ => hk0⟩
    by_cases c : k = 8
    · rw [if_pos c]
    · rw [if_neg c]; exact hk.resolve_left c
  · rw [w1] at q
    exact absurd q (by decide)
theorem stF {n O : Nat → Nat} {A : Nat → Nat → Int32} {vd : Nat → Int32} {G : Nat → Nat → Nat} {N : Nat → Nat → Int32} {nb sb : Nat} {σ : Shp} {I : Nat → Nat → Int32} {J : Nat → Nat → Int64} {R : Nat → Nat → Option Nat} {I' : Nat → Nat → Int32} {J' : Nat → Nat → Int64} {fc : Nat → Nat} {E : Nat → Nat → Nat} {V : Nat → Nat → Int32} {σ' : Shp} {R' : Nat → Nat → Option Nat} {t st ch x : Nat} {k v : Int32} (h : Core n O A vd G N nb sb σ I J R I' J' fc E V (t + 1) st ch) (hg : Bg n O nb sb σ I I' E t st ch x) (hk : k = 8 ∨ v = 0) (e1 : gX7_perform σ I J R (Int32.ofInt (E t 1 : Nat)) (Int32.ofInt (op O (E t 1) x : Nat)) (A 0 (40 * E t 1 + x)) = some (σ, arC I k v, J, R)) (e2 : bg2 σ' I' J' R' (Int32.ofInt (op O (E t 1) x : Nat)) = some (flM I' k v, J')) (hk0 : k ≠ 0 := by decide) : StOk n O A vd G N nb sb σ' R' σ I J R I' J' E t st x := stF2 h hg hk rfl rfl Ag.rf Ag.rf e1 e2 hk0
/-- a step that changes nothing but stores -/
theorem stP {n O : Nat → Nat} {A : Nat → Nat → Int32} {vd : Nat → Int32} {G : Nat → Nat → Nat} {N : Nat → Nat → Int32} {nb sb : Nat} {σ : Shp} {I : Nat → Nat → Int32} {J : Nat → Nat → Int64} {R : Nat → Nat → Option Nat} {I' : Nat → Nat → Int32} {J' : Nat → Nat → Int64} {fc : Nat → Nat} {E : Nat → Nat → Nat} {V : Nat → Nat → Int32} {σ' : Shp} {R' : Nat → Nat → Option Nat} {t st ch x ch1 : Nat} {I1 I1' : Nat → Nat → Int32} {J1 J1' : Nat → Nat → Int64} {R1 : Nat → Nat → Option Nat} (hg : Bg n O nb sb σ I I' E t st ch x) (h11 : op O (E t 1) x < 11) (h : Core n O A vd G N nb sb σ I1 J1 R1 I1' J1' fc E V (t + 1) st ch1) (w : I1 25 0 = I 25 0) (m1 : I1' 114 57 = I' 114 57) (m2 : I1' 114 58 = I' 114 58) (aI : Ag WRc I I1) (aJ : Ag WRc J J1) (aR : Ag WRc R R1) (bI : Ag WRm I' I1') (bJ : Ag WRm J' J1') (e1 : gX7_perform σ I J R (Int32.ofInt (E t 1 : Nat)) (Int32.ofInt (op O (E t 1) x : Nat)) (A 0 (40 * E t 1 + x)) = some (σ, I1, J1, R1)) (e2 : bg2 σ' I' J' R' (Int32.ofInt (op O (E t 1) x : Nat)) = some (u2 I1' 114 58 (I1' 114 58 + 1), J1')) : StOk n O A vd G N nb sb σ' R' σ I J R I' J' E t st x := by
  obtain ⟨⟨b1, b2, b3, b4⟩, ⟨b5, b6⟩, b7, b8, ⟨b9, -⟩, -⟩ := hg
  have b : Ag [(1000058, 1000059)] I1' (u2 I1' 114 58 (I1' 114 58 + 1)) := Ag.st Ag.rf rfl
  have fr := h.2.2.2.2.1 t (Nat.lt_succ_self t)
  have wf := fr.2.2.2.2.1
  have le := fr.1
  refine ⟨σ, I1, J1, R1, _, J1', fc, E, V, t + 1, ch1, e1, e2, h.kp2 Ag.rf (b.mv rfl) rfl (h.2.2.2.2.2.1.ka Ag.rf (b.mv rfl)) ?_ (Nat.le_refl _), ?_, by omega, aI, aJ, aR, bI.tr (b.mv rfl), bJ⟩
  · have := h.2.2.2.2.2.2
    unfold Wy at this ⊢
    rw [b 114 59 rfl, b 114 60 rfl, b 114 61 rfl, b 114 62 rfl, b 114 63 rfl, b 114 64 rfl]
    exact this
  · intro q hq _
    obtain rfl : q = t := by omega
    refine ⟨by rw [b 114 57 rfl, m1, b3], x + 1, 0, by rw [u2_self, m2, b4, iadd1], b7 h11, ?_, ?_⟩
    · obtain ⟨-, -, -, l1, -, l2, -⟩ := le
      omega
    · refine wf.ok ?_ (Or.inr (Or.inl ?_))
      · obtain ⟨-, -, -, l1, -, l2, -⟩ := le
        omega
      · rw [Nat.add_sub_cancel]; exact b9
theorem GFrm.kp {σ : Shp} {R R1 : Nat → Nat → Option Nat} (h : GFrm σ R) (hn : nxx σ ≤ 900000) (a : Ag [(21, 22)] R R1) : GFrm σ R1 := by
  refine ⟨fun j c hj e => ?_, fun j j' c hj hj' e1 e2 => ?_⟩
  · rw [a 24 j rfl] at e
    have := h.1 j c hj e
    rw [a.far rfl c this.1 (by omega)]
    exact this
  · rw [a 24 j rfl] at e1
    rw [a 24 j' rfl] at e2
    exact h.2 j j' c hj hj' e1 e2
theorem Core.sto {n O : Nat → Nat} {A : Nat → Nat → Int32} {vd : Nat → Int32} {G : Nat → Nat → Nat} {N : Nat → Nat → Int32} {nb sb : Nat} {σ : Shp} {I : Nat → Nat → Int32} {J : Nat → Nat → Int64} {R : Nat → Nat → Option Nat} {I' : Nat → Nat → Int32} {J' : Nat → Nat → Int64} {fc : Nat → Nat} {E : Nat → Nat → Nat} {V : Nat → Nat → Int32} {d st ch ch1 : Nat} {I1 I1' : Nat → Nat → Int32} {J1 J1' : Nat → Nat → Int64} {R1 : Nat → Nat → Option Nat} (h : Core n O A vd G N nb sb σ I J R I' J' fc E V d st ch) (s : Sto G N σ I1 J1 R1 I1' J1' ch1) (k : Skel σ R1) (aI : Ag [(17, 18), (22, 23)] I I1) (aR : Ag [(21, 22)] R R1) (aM : Ag [(154, 155), (1000054, 1000055)] I' I1') (hc : ∀ t, d = t + 1 → ch1 + E t 15 ≤ 2 * st) : Core n O A vd G N nb sb σ I1 J1 R1 I1' J1' fc E V d st ch1 := by
  have hn := h.hn
  obtain ⟨⟨p1, p2, p3⟩, -, ⟨k1, k2, k3⟩, cl, fr, c, w⟩ := h
  refine ⟨⟨p1.kp (aI.kp rfl), p2.kp (aI.kp rfl), p3.kp (aM.kp rfl)⟩, s, ⟨k, k2.kp (by omega) aR, k3⟩, cl.kp k2 (aI 5 6 rfl) (fun q h1 h2 => aI.far rfl q h1 (by omega)) (fun j _ => aR 24 j rfl), fun j hj => (fr j hj).kp rfl rfl rfl (aI.at1 15 (by decide) (by decide) rfl) (fun q h1 h2 => aM q j ?_), ?_, ?_⟩
  · rw [key_o (by omega) (by omega)]
    exact disW_no (C := [(143, 154)]) rfl (inW_iff.mpr ⟨(143, 154), List.mem_singleton.mpr rfl, h1, by omega⟩)
  · obtain ⟨c1, c2, c3⟩ := c.ka (aI.mv rfl) (aM.mv rfl)
    exact ⟨c1, fun t ht => ⟨(c2 t ht).1, (c2 t ht).2.1, hc t ht⟩, c3⟩
  · unfold Wy at w ⊢
    rw [aI 25 0 rfl, aI 25 1 rfl, aI 25 2 rfl, aI 25 3 rfl, aI 25 4 rfl, aI 25 5 rfl, aM 114 59 rfl, aM 114 60 rfl, aM 114 61 rfl, aM 114 62 rfl, aM 114 63 rfl, aM 114 64 rfl]
    exact w
/-- a stock is changed by a step -/
theorem stS {n O : Nat → Nat} {A : Nat → Nat → Int32} {vd : Nat → Int32} {G : Nat → Nat → Nat} {N : Nat → Nat → Int32} {nb sb : Nat} {σ : Shp} {I : Nat → Nat → Int32} {J : Nat → Nat → Int64} {R : Nat → Nat → Option Nat} {I' : Nat → Nat → Int32} {J' : Nat → Nat → Int64} {fc : Nat → Nat} {E : Nat → Nat → Nat} {V : Nat → Nat → Int32} {σ' : Shp} {R' : Nat → Nat → Option Nat} {t st ch x k : Nat} {v : Int64} (h : Core n O A vd G N nb sb σ I J R I' J' fc E V (t + 1) st ch) (hg : Bg n O nb sb σ I I' E t st ch x) (h11 : op O (E t 1) x < 11) (hk : k < 6) (e1 : ∀ I1 J1 R1, gX8_changeStock σ I J R (Int32.ofInt (k : Int)) v = some (I1, J1, R1) → gX7_perform σ I J R (Int32.ofInt (E t 1 : Nat)) (Int32.ofInt (op O (E t 1) x : Nat)) (A 0 (40 * E t 1 + x)) = some (σ, I1, J1, R1)) (e2 : ∀ I1' J1', gX12_changeStock I' J' (Int32.ofInt (k : Int)) v = some (I1', J1') → bg2 σ' I' J' R' (Int32.ofInt (op O (E t 1) x : Nat)) = some (u2 I1' 114 58 (I1' 114 58 + 1), J1')) : StOk n O A vd G N nb sb σ' R' σ I J R I' J' E t st x := by
  have hn := h.hn
  have st3 := h.2.2.2.2.2.1.1.2.2
  obtain ⟨I1, J1, R1, I1', J1', r1, r2, r3, r4, r5, r6, r7, r8, r9⟩ := h.2.1.stock v h.2.2.1.1 ⟨hn.1, by omega⟩ (by have := hg.2.2.2.2.2.1; omega) hk
  have hc := h.sto r3 r4 r5 r7 r8 (fun q hq => by
    obtain rfl : q = t := by omega
    have := hg.2.2.2.2.2.1
    omega)
  exact stP hg h11 hc (r5 25 0 rfl) (r8 114 57 rfl) (r8 114 58 rfl) (r5.mv rfl) (r6.mv rfl) (r7.mv rfl) (r8.mv rfl) (r9.mv rfl) (e1 _ _ _ r1) (e2 _ _ r2)
/-- a cell is changed by a step -/
theorem srC {n O : Nat → Nat} {A : Nat → Nat → Int32} {vd : Nat → Int32} {G : Nat → Nat → Nat} {N : Nat → Nat → Int32} {nb sb : Nat} {σ : Shp} {I : Nat → Nat → Int32} {J : Nat → Nat → Int64} {R : Nat → Nat → Option Nat} {I' : Nat → Nat → Int32} {J' : Nat → Nat → Int64} {fc : Nat → Nat} {E : Nat → Nat → Nat} {V : Nat → Nat → Int32} {σ' : Shp} {R' : Nat → Nat → Option Nat} {t st ch x u i : Nat} {v : Int32} (h : Core n O A vd G N nb sb σ I J R I' J' fc E V (t + 1) st ch) (hg : Bg n O nb sb σ I I' E t st ch x) (h11 : op O (E t 1) x < 11) (q1 : 1 ≤ u) (q2 : u ≤ G 10 0) (uf : G 1 u = 4 ∨ G 1 u = 17) (hi : i < nC (G 1 u) (G 2 u)) (e1 : ∀ I1 J1 R1, gX8_changeCell σ I J R (some (G 0 u)) (Int32.ofInt (i : Int)) (Int32.toInt64 v) = some (I1, J1, R1) → gX7_perform σ I J R (Int32.ofInt (E t 1 : Nat)) (Int32.ofInt (op O (E t 1) x : Nat)) (A 0 (40 * E t 1 + x)) = some (σ, I1, J1, R1)) (e2 : ∀ I1' J1', gX12_setCell I' J' (Int32.ofInt ((G 3 u + i : Nat) : Int)) (Int32.toInt64 v) = some (I1', J1') → bg2 σ' I' J' R' (Int32.ofInt (op O (E t 1) x : Nat)) = some (u2 I1' 114 58 (I1' 114 58 + 1), J1')) : StOk n O A vd G N nb sb σ' R' σ I J R I' J' E t st x := by
  have hn := h.hn
  have st3 := h.2.2.2.2.2.1.1.2.2
  obtain ⟨I1, J1, R1, I1', J1', r1, r2, r3, r4, r5, r6, r7, r8, r9⟩ := h.2.1.cell v h.2.2.1.1 ⟨hn.1, by omega⟩ (by have := hg.2.2.2.2.2.1; omega) q1 q2 uf hi
  have hc := h.sto r3 r4 r5 r7 r8 (fun q hq => by
    obtain rfl : q = t := by omega
    have := hg.2.2.2.2.2.1
    omega)
  exact stP hg h11 hc (r5 25 0 rfl) (r8 114 57 rfl) (r8 114 58 rfl) (r5.mv rfl) (r6.mv rfl) (r7.mv rfl) (r8.mv rfl) (r9.mv rfl) (e1 _ _ _ r1) (e2 _ _ r2)
