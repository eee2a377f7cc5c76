/-! ===== a run: LOOP, plans, KEEP and AGAIN ===== -/
/-- the uppermost frame changes, both sides -/
theorem Core.topc {n O : Nat → Nat} {A : Nat → Nat → Int32} {vd : Nat → Int32} {G : Nat → Nat → Nat} {N : Nat → Nat → Int32} {nb sb : Nat} {σ : Shp} {I : Nat → Nat → Int32} {J : Nat → Nat → Int64} {R : Nat → Nat → Option Nat} {I' : Nat → Nat → Int32} {J' : Nat → Nat → Int64} {fc : Nat → Nat} {E : Nat → Nat → Nat} {V : Nat → Nat → Int32} {t st ch st1 ch1 : Nat} {I1 I1' : Nat → Nat → Int32} {J1 J1' : Nat → Nat → Int64} {E1 : Nat → Nat → Nat} {V1 : Nat → Nat → Int32} (h : Core n O A vd G N nb sb σ I J R I' J' fc E V (t + 1) st ch) (s : Sto G N σ I1 J1 R I1' J1' ch1) (aI : Ag [(5, 6), (17, 18), (25, 26), (202, 1000000)] I I1) (ao : ∀ q, 202 ≤ q → q ≠ fc t → q ≠ fc t + 1 → I1 q = I q) (k : I1 5 6 = I 5 6) (ee : ∀ j f, j ≠ t → E1 j f = E j f) (vv : ∀ j f, j ≠ t → V1 j f = V j f) (tp : FrC I1 (fc t) E1 V1 t) (aM : Ag [(143, 155), (1000042, 1000043), (1000054, 1000055), (1000057, 1000071)] I' I1') (bo : ∀ q j, 143 ≤ q → q ≤ 153 → j < t → I1' q j = I' q j) (fm : Frm n O A vd I I1' E1 V1 t) (cc : Cnt I1 I1' E1 (t + 1) st1 ch1) (w : Wy I1 I1') (hst : st ≤ st1) : Core n O A vd G N nb sb σ I1 J1 R I1' J1' fc E1 V1 (t + 1) st1 ch1 := by
  have hn := h.hn
  obtain ⟨⟨p1, p2, p3⟩, -, ⟨k1, k2, k3, k4, k5⟩, cl, fr, -, -⟩ := h
  refine ⟨⟨p1.kp (aI.kp rfl), p2.kp (aI.kp rfl), p3.kp (aM.kp rfl)⟩, s, ⟨k1, k2, by omega, by omega, k5⟩, cl.top k2 k ao ee vv tp, fun j hj => ?_, cc, w⟩
  by_cases e : j = t
  · subst e
    exact fm.kp rfl rfl rfl (aI.at1 15 (by decide) (by decide) rfl) (fun _ _ _ => rfl)
  · exact (fr j hj).kp (by funext f; exact ee j f e) (by funext f; exact ee (j - 1) f (by omega)) (by funext f; exact vv j f e) (aI.at1 15 (by decide) (by decide) rfl) (fun q h1 h2 => bo q j h1 h2 (by omega))
/-- LOOP: looked at again -/
theorem lv20 {n O : Nat → Nat} {A : Nat → Nat → Int32} {vd : Nat → Int32} {G : Nat → Nat → Nat} {N : Nat → Nat → Int32} {nb sb : Nat} {σ : Shp} {I : Nat → Nat → Int32} {J : Nat → Nat → Int64} {R : Nat → Nat → Option Nat} {I' : Nat → Nat → Int32} {J' : Nat → Nat → Int64} {fc : Nat → Nat} {E : Nat → Nat → Nat} {V : Nat → Nat → Int32} {σ' : Shp} {R' : Nat → Nat → Option Nat} {t st ch : Nat} (hb : PlB n O) (h : Core n O A vd G N nb sb σ I J R I' J' fc E V (t + 1) st ch) (hp : Pc n O I I' E (t + 1)) (w : I 25 0 = 0) (hx : E t 3 = E t 4) (eo : E t 0 = 20) : LvOk n O A vd G N nb sb σ' R' σ I J R I' J' fc E t st := by
  obtain ⟨t1, t2, t3, t4, t5, t6, t7, t8, t9, t10, t11, t12, t13, t14⟩ := h.tp hb
  obtain ⟨b1, b2, -, b3, b4, b5, b6, b7, -⟩ := h.bd (by omega)
  have hn := h.hn
  have hv := h.2.2.2.2.2.1.2.2.2.1
  obtain ⟨B0, B, -, -⟩ := h.2.2.2.2.1 t (Nat.lt_succ_self t)
  have B := (B.resolve_left (fun q => by omega)).resolve_left (fun q => by omega)
  obtain ⟨-, c2, c3, c4, c5, c6, c7, c8, c9, c10, -, c12, -, c14, -⟩ := B
  obtain ⟨q, rfl⟩ : ∃ q, t = q + 1 := ⟨t - 1, by omega⟩
  rw [show q + 1 - 1 = q by omega] at c4 c6 c7 c14
  obtain ⟨A0, -, -, A3⟩ := h.2.2.2.2.1 q (by omega)
  have c71 := c7.1
  have pl : I (fc (q + 1)) 2 = Int32.ofInt (E (q + 1) 2 : Nat) := (h.2.2.2.1.2.2 (q + 1) (by omega)).2.1.2.2.1
  have a : Ag [(5, 6)] I (u2 I 5 6 (Int32.ofInt ((q + 1 : Nat) : Int))) := Ag.st Ag.rf rfl
  have em := mdN (σ' := σ') (R' := R') (o := 20) hb h hp w hx b1 (by rw [b4, eo]) (by omega) (gbN (by omega) b4 (by omega)) rfl rfl rfl
  rw [if_pos rfl, b6] at em
  have b : Ag [(1000042, 1000043), (1000058, 1000059)] I' (u2 (u2 I' 114 42 (Int32.ofInt ((q + 1 : Nat) : Int))) 114 58 (Int32.ofInt (E (q + 1) 2 : Nat))) := Ag.st (Ag.st Ag.rf rfl) rfl
  have P := h.pop3 (a.mv rfl) (b.mv rfl) (u2_self _ _ _ _) (CntP h.2.2.2.2.2.1 (fun f h1 h2 => u2n (by omega)) (a 4 13 rfl) (a 7 1 rfl) (fun k => a 8 k rfl) (fun f hf => by
      rcases hf with rfl | rfl | hf
      · exact b 114 1 rfl
      · exact b 114 24 rfl
      · rw [u2n (by omega), u2n (by omega)]) (fun k => b 129 k rfl) (by simp (disch := omega) only [u2n, u2s]) (fun j hj => ⟨by rw [a 19 j rfl, b 140 j rfl]; exact (hv j hj).1, by rw [a 20 j rfl, b 141 j rfl]; exact (hv j hj).2⟩) (fun z hz => by
      obtain ⟨z1, z2⟩ := b7 z hz
      have := (h.2.2.2.2.2.1.2.1 (q + 1) rfl).2.2
      rw [if_neg (by omega)] at z2
      exact ⟨z1, by omega⟩)) (by
      have := h.2.2.2.2.2.2
      unfold Wy at this ⊢
      rw [a 25 0 rfl, a 25 1 rfl, a 25 2 rfl, a 25 3 rfl, a 25 4 rfl, a 25 5 rfl, b 114 59 rfl, b 114 60 rfl, b 114 61 rfl, b 114 62 rfl, b 114 63 rfl, b 114 64 rfl]
      exact this)
  have hq := P.fc (Nat.lt_succ_self q)
  have ap := h.2.2.2.1.apart h.2.2.1.2.1 (show q < q + 1 + 1 by omega) (show q + 1 < q + 1 + 1 by omega) (by omega)
  have y1 : E q 16 ≤ E (q + 1) 2 := c14
  have y2 : E (q + 1) 2 ≤ E q 4 := by
    have := A0.2.2.2.1
    omega
  have y3 : dq (op O (E q 1)) (E q 16) (E (q + 1) 2) = 1 := by
    rw [c4] at c7
    have z := dq_sh (O := op O (E q 1)) (s := E q 16) (r := E (q + 1) 2) y1 (E q 3) (by omega)
    have z2 := c7.2.2.2.1
    rw [show E q 3 - 1 + 1 = E q 3 by omega] at z2
    rw [A0.2.2.2.2.1, z2, dlt_11 c7.2.2.1] at z
    omega
  -- the outer frame
  obtain ⟨I2, e2⟩ : ∃ I2, u2 (u2 I 5 6 (Int32.ofInt ((q + 1 : Nat) : Int))) (fc q) 3 (Int32.ofInt (E (q + 1) 2 : Nat)) = I2 := ⟨_, rfl⟩
  have a2 : Ag [(202, 1000000)] (u2 I 5 6 (Int32.ofInt ((q + 1 : Nat) : Int))) I2 := by rw [← e2]; exact Ag.st Ag.rf (inF hq.2.1 (by omega) (by decide))
  have ee : ∀ j f, j ≠ q → u2 E q 3 (E (q + 1) 2) j f = E j f := fun j f hj => u2n (by omega)
  have o : ∀ z, 202 ≤ z → z ≠ fc q → I2 z = u2 I 5 6 (Int32.ofInt ((q + 1 : Nat) : Int)) z := fun z h1 h2 => by
    funext k
    rw [← e2, u2n (by omega)]
  have P2 := P.topc (I1 := I2) (I1' := u2 (u2 I' 114 42 (Int32.ofInt ((q + 1 : Nat) : Int))) 114 58 (Int32.ofInt (E (q + 1) 2 : Nat))) (E1 := u2 E q 3 (E (q + 1) 2)) (V1 := V) (st1 := st) (ch1 := ch) (J1 := J) (J1' := J') (P.2.1.kpC ⟨hn.1, by omega⟩ (a2 4 12 rfl) (fun z h1 h2 h3 => o z h1 (fun e => by rw [e, hq.2.2.2.1] at h3; omega)) (a2 17 6 rfl) (a2.at1 22 (by decide) (by decide) rfl)) (a2.mv rfl) (fun z h1 h2 _ => o z h1 h2) (a2 5 6 rfl) ee (fun _ _ _ => rfl)
    (by
      obtain ⟨⟨g0, g1, g2, g3, g4, g8, g10⟩, ⟨v5, v6, v7, v9, v11⟩, wt⟩ := (P.2.2.2.1.2.2 q (by omega)).2
      have z : ∀ f, f ≠ 3 → I2 (fc q) f = u2 I 5 6 (Int32.ofInt ((q + 1 : Nat) : Int)) (fc q) f := fun f hf => by rw [← e2, u2n (by omega)]
      refine ⟨⟨?_, ?_, ?_, ?_, ?_, ?_, ?_⟩, ⟨?_, ?_, ?_, ?_, ?_⟩, fun k hk => ?_⟩
      · rw [z 0 (by decide), u2n (f := E) (by omega)]; exact g0
      · rw [z 1 (by decide), u2n (f := E) (by omega)]; exact g1
      · rw [z 2 (by decide), u2n (f := E) (by omega)]; exact g2
      · rw [← e2, u2_self, u2_self]
      · rw [z 4 (by decide), u2n (f := E) (by omega)]; exact g4
      · rw [z 8 (by decide), u2n (f := E) (by omega)]; exact g8
      · rw [z 10 (by decide), u2n (f := E) (by omega)]; exact g10
      · rw [z 5 (by decide)]; exact v5
      · rw [z 6 (by decide)]; exact v6
      · rw [z 7 (by decide)]; exact v7
      · rw [z 9 (by decide)]; exact v9
      · rw [z 11 (by decide)]; exact v11
      · rw [o (fc q + 1) (by omega) (by omega)]; exact wt k hk)
    Ag.rf (fun _ _ _ _ _ => rfl) ((P.2.2.2.2.1 q (Nat.lt_succ_self q)).x3 y1 y2 y3)
    (by
      obtain ⟨d1, d2, d3, d4, d5, d6⟩ := P.2.2.2.2.2.1
      unfold Cnt
      rw [a2 5 9 rfl, a2 5 8 rfl, a2 5 10 rfl, a2 5 11 rfl, a2 5 12 rfl, a2 5 13 rfl, a2 4 13 rfl, a2 7 1 rfl]
      refine ⟨d1, fun z hz => ?_, d3, fun k hk => by rw [a2 19 k rfl, a2 20 k rfl]; exact d4 k hk, d5, d6.1, d6.2.1, fun k hk => by rw [a2 8 k rfl]; exact d6.2.2 k hk⟩
      obtain rfl : z = q := by omega
      rw [u2n (f := E) (by omega), u2n (f := E) (by omega)]
      exact d2 z rfl)
    (by
      have := P.2.2.2.2.2.2
      unfold Wy at this ⊢
      rw [a2 25 0 rfl, a2 25 1 rfl, a2 25 2 rfl, a2 25 3 rfl, a2 25 4 rfl, a2 25 5 rfl]
      exact this) (Nat.le_refl _)
  refine ⟨I2, J, R, _, J', u2 E q 3 (E (q + 1) 2), V, q + 1, st, ch, ?_, em, P2, ?_, phiP, (a.mv rfl).tr (a2.mv rfl), Ag.rf, Ag.rf, b.mv rfl, Ag.rf⟩
  · rw [(lvC t1 t11 t5).2.2.2.2.2.2.2 (Or.inr eo)]
    have e : Int32.ofInt ((q + 1 + 1 : Nat) : Int) - 1 = Int32.ofInt ((q + 1 : Nat) : Int) := by rw [i_subl]; congr 1; omega
    unfold gX7_leave_b169
    rw [t9, e, ob_some, if_pos t1]
    try dsimp only
    rw [u2n (by omega), t11, eo, if_pos (by rfl), if_pos g00, c00, u2n (by omega), if_pos w, u2n (by omega), pl]
    unfold gX7_lookAgain
    rw [topC P.2.2.2.1, ob_some, onl_s, if_pos hq.2.2.2.1, e2]
    rfl
  · intro z hz _
    obtain rfl : z = q := by omega
    rw [u2n (f := E) (by omega), u2_self E]
    refine ⟨?_, E (z + 1) 2, 0, u2_self _ _ _ _, rfl, ?_, Or.inr ⟨?_, ?_⟩⟩
    · simp (disch := omega) only [u2n, u2s]
      rw [← c4]
      exact (pcE hb h hp w hx).1
    · have := A0.2.2.2.2.2.1
      omega
    · rw [← c4, c5]; omega
    · rw [← c4, c5]; omega
