/-! ===== a run: plans end; KEEP and AGAIN undo ===== -/
/-- a plan ends, in the model -/
theorem hmP {n O : Nat → Nat} {A : Nat → Nat → Int32} {σ : Shp} {R : Nat → Nat → Option Nat} {I : Nat → Nat → Int32} {J : Nat → Nat → Int64} {t p : Nat} (hS : Skel σ R) (ht : t < 400) (hm : PlM n O A I) (hb : PlB n O) (hp : p < 4) (hd : I 114 42 = Int32.ofInt ((t + 1 : Nat) : Int)) (w : I 114 59 = 0) (e1 : I 114 57 = Int32.ofInt (p : Nat)) (e2 : I 114 58 = Int32.ofInt (n p : Nat)) : ∀ f, gX12_run_l95 σ R (f + 1) I J = gX12_run_l95 σ R f (u2 (u2 (u2 (u2 I 114 42 (Int32.ofInt (t : Nat))) 114 66 (I 114 66 - (if I 143 t = 10 then 1 else 0))) 114 57 (I 144 t)) 114 58 (I 145 t + 1)) J := by
  intro f
  have hn := hb.1 p hp
  have e : Int32.ofInt ((t + 1 : Nat) : Int) - 1 = Int32.ofInt (t : Nat) := by rw [i_subl]; congr 1; omega
  have g : ¬ (Int32.ofInt (t : Int) < 0 ∨ 400 ≤ Int32.toNatClampNeg (Int32.ofInt (t : Int))) := by rw [i_gd (by omega)]; exact id
  have k4 := hS.k 114 13 (by decide) rfl
  have b6 : ∀ s : Int32, gX12_run_b166 (gX12_run_l95 σ R f) σ R (u2 I 114 42 (Int32.ofInt (t : Nat))) J (some 114) (I 114 66) s = gX12_run_l95 σ R f (u2 (u2 (u2 (u2 I 114 42 (Int32.ofInt (t : Nat))) 114 66 (I 114 66 - s)) 114 57 (I 144 t)) 114 58 (I 145 t + 1)) J := fun s => by
    unfold gX12_run_b166
    rw [ob_some, if_pos k4]
    try dsimp only
    have z1 : u2 (u2 I 114 42 (Int32.ofInt (t : Nat))) 114 66 (I 114 66 - s) 114 42 = Int32.ofInt (t : Nat) := by simp (disch := omega) only [u2n, u2s]
    rw [z1, if_pos g, t41 (by omega)]
    have z2 : u2 (u2 I 114 42 (Int32.ofInt (t : Nat))) 114 66 (I 114 66 - s) 144 t = I 144 t := by simp (disch := omega) only [u2n, u2s]
    rw [z2]
    have z3 : u2 (u2 (u2 I 114 42 (Int32.ofInt (t : Nat))) 114 66 (I 114 66 - s)) 114 57 (I 144 t) 114 42 = Int32.ofInt (t : Nat) := by simp (disch := omega) only [u2n, u2s]
    rw [z3, if_pos g, t41 (by omega)]
    have z4 : u2 (u2 (u2 I 114 42 (Int32.ofInt (t : Nat))) 114 66 (I 114 66 - s)) 114 57 (I 144 t) 145 t = I 145 t := by simp (disch := omega) only [u2n, u2s]
    rw [z4]
  rw [gX12_run_l95, hd, if_neg (by rw [i_lel (by omega)]; omega), if_pos w, e1, e2, if_pos (p40 hp), t41 (by omega), hm.1 p hp, if_pos rfl]
  try dsimp only
  rw [e, u2_self, if_pos g, t41 (by omega), u2n (by omega), u2n (a := 114) (k := 42) (j := 66) (by omega)]
  by_cases z : I 143 t = 10
  · rw [if_pos z, if_pos z, b6]
  · rw [if_neg z, if_neg z, b6]
theorem lv10 {n O : Nat → Nat} {A : Nat → Nat → Int32} {vd : Nat → Int32} {G : Nat → Nat → Nat} {N : Nat → Nat → Int32} {nb sb : Nat} {σ : Shp} {I : Nat → Nat → Int32} {J : Nat → Nat → Int64} {R : Nat → Nat → Option Nat} {I' : Nat → Nat → Int32} {J' : Nat → Nat → Int64} {fc : Nat → Nat} {E : Nat → Nat → Nat} {V : Nat → Nat → Int32} {σ' : Shp} {R' : Nat → Nat → Option Nat} {t st ch : Nat} (hb : PlB n O) (hS : Skel σ' R') (h : Core n O A vd G N nb sb σ I J R I' J' fc E V (t + 1) st ch) (hp : Pc n O I I' E (t + 1)) (md : I 25 0 ≠ 0 ∨ E t 3 = E t 4) (eo : E t 0 = 10) : LvOk n O A vd G N nb sb σ' R' σ I J R I' J' fc E t st := by
  obtain ⟨t1, t2, t3, t4, t5, t6, t7, t8, t9, t10, t11, t12, t13, t14⟩ := h.tp hb
  have hv := h.2.2.2.2.2.1.2.2.2.1
  obtain ⟨B0, B, B2, -⟩ := h.2.2.2.2.1 t (Nat.lt_succ_self t)
  have B := (B.resolve_left (fun q => by omega)).resolve_right (fun q => by omega)
  obtain ⟨-, c2, c3, c4, c5, c6, c7⟩ := B
  obtain ⟨m1, m2, m3, -⟩ := B2
  rw [eo, if_neg (by decide)] at m1
  rw [if_pos eo] at m2 m3
  obtain ⟨q, rfl⟩ : ∃ q, t = q + 1 := ⟨t - 1, by omega⟩
  rw [show q + 1 - 1 = q by omega] at c4 c5 c6 c7 m2 m3
  obtain ⟨A0, -, -, A3⟩ := h.2.2.2.2.1 q (by omega)
  obtain ⟨d1, d2, d3⟩ := h.2.2.2.2.2.1.2.1 (q + 1) rfl
  rw [c4] at d1 d2
  have es : ∀ x : Int32, x = Int32.ofInt ((E q 14 + 1 : Nat) : Int) → x - 1 = Int32.ofInt (E q 14 : Nat) := fun x hx => by rw [hx, i_subl]; congr 1; omega
  obtain ⟨I1, e1⟩ : ∃ I1, u2 (u2 I 5 8 (I 5 8 - 1)) 5 6 (Int32.ofInt ((q + 1 : Nat) : Int)) = I1 := ⟨_, rfl⟩
  have eC : gX7_leave σ I J R (some (fc (q + 1))) = some (I1, J, R) := by
    rw [(lvC t1 t11 t5).1 eo, ← e1]
    exact b169 t1 t2 (by rw [u2n (by omega)]; exact t9) (by rw [u2n (by omega)]; exact t11) t5 (Or.inl (by omega))
  have a : Ag [(5, 6)] I I1 := by rw [← e1]; exact Ag.st (Ag.st Ag.rf rfl) rfl
  have go : ∀ I1' : Nat → Nat → Int32, Ag [(1000042, 1000043), (1000057, 1000059), (1000066, 1000067)] I' I1' → I1' 114 42 = Int32.ofInt ((q + 1 : Nat) : Int) → I1' 114 66 = I' 114 66 - 1 → (∀ f, gX12_run_l95 σ' R' (f + 1) I' J' = gX12_run_l95 σ' R' f I1' J') → (I 25 0 = 0 → I1' 114 57 = I' 144 (q + 1) ∧ I1' 114 58 = I' 145 (q + 1) + 1) → LvOk n O A vd G N nb sb σ' R' σ I J R I' J' fc E (q + 1) st := fun I1' b m42 m66 em pc => by
    refine lvK (V := V) (ch := ch) eC em (h.pop3 (a.mv rfl) (b.mv rfl) (by rw [← e1, u2_self]) ?_ ?_) ?_ (a.mv rfl) Ag.rf Ag.rf (b.mv rfl) Ag.rf
    · obtain ⟨k1, k2, k3, k4, k5, k6⟩ := h.2.2.2.2.2.1
      have i5 : ∀ f, f ≠ 6 → f ≠ 8 → I1 5 f = I 5 f := fun f g1 g2 => by rw [← e1]; simp (disch := omega) only [u2n, u2s]
      have i8 : I1 5 8 = I 5 8 - 1 := by rw [← e1]; simp (disch := omega) only [u2n, u2s]
      unfold Cnt
      rw [i5 9 (by decide) (by decide), i8, i5 10 (by decide) (by decide), i5 11 (by decide) (by decide), i5 12 (by decide) (by decide), i5 13 (by decide) (by decide), a 4 13 rfl, a 7 1 rfl, m66, b 114 65 rfl, b 114 67 rfl, b 114 68 rfl, b 114 69 rfl, b 114 70 rfl, b 114 1 rfl, b 114 24 rfl]
      refine ⟨k1, fun z hz => ?_, k3, fun k hk => by rw [a 19 k rfl, a 20 k rfl, b 140 k rfl, b 141 k rfl]; exact k4 k hk, m42, k6.1, k6.2.1, fun k hk => by rw [a 8 k rfl, b 129 k rfl]; exact k6.2.2 k hk⟩
      obtain rfl : z = q := by omega
      exact ⟨es _ d1, es _ d2, by omega⟩
    · have := h.2.2.2.2.2.2
      unfold Wy at this ⊢
      rw [a 25 0 rfl, a 25 1 rfl, a 25 2 rfl, a 25 3 rfl, a 25 4 rfl, a 25 5 rfl, b 114 59 rfl, b 114 60 rfl, b 114 61 rfl, b 114 62 rfl, b 114 63 rfl, b 114 64 rfl]
      exact this
    · intro z hz w
      obtain rfl : z = q := by omega
      rw [a 25 0 rfl] at w
      obtain ⟨y1, y2⟩ := pc w
      refine ⟨by rw [y1, m2], E z 3, 0, by rw [y2, m3, iadd1, show E z 3 - 1 + 1 = E z 3 by omega], rfl, ?_, ?_⟩
      · obtain ⟨-, -, -, z1, -, z2, -⟩ := A0
        omega
      · refine A3.2.1.ok ?_ (Or.inr (Or.inl ?_))
        · obtain ⟨-, -, -, z1, -, z2, -⟩ := A0
          omega
        · rw [c7]; decide
  by_cases w : I 25 0 = 0
  · have hx : E (q + 1) 3 = E (q + 1) 4 := md.resolve_left (fun z => z w)
    obtain ⟨y1, y2, y3, -, y5⟩ := pcE hb h hp w hx
    rw [y5 c3] at y2
    have em := hmP (J := J') hS (show q + 1 < 400 by omega) h.1.2.2 hb t6 t10 y3 y1 y2
    rw [if_pos (by rw [m1]; rfl)] at em
    exact go _ (Ag.st (Ag.st (Ag.st (Ag.st Ag.rf rfl) rfl) rfl) rfl) (by simp (disch := omega) only [u2n, u2s]) (by simp (disch := omega) only [u2n, u2s]) em (fun _ => ⟨by simp (disch := omega) only [u2n, u2s], u2_self _ _ _ _⟩)
  · have em := (mdU (σ' := σ') (R' := R') (o := 10) (I7 := u2 I' 114 42 (Int32.ofInt ((q + 1 : Nat) : Int))) hb h w (by rw [u2n (by omega), m1]) (gbN (J := J') (show q + 1 < 400 by omega) (by rw [u2n (by omega)]; exact m1) (by omega))).2.1 rfl
    exact go _ (Ag.st (Ag.st Ag.rf rfl) rfl) (by simp (disch := omega) only [u2n, u2s]) (by simp (disch := omega) only [u2n, u2s]) em (fun z => absurd z w)
/-- what was changed is undone, both sides; the model's frame is gone already -/
theorem udB {n O : Nat → Nat} {A : Nat → Nat → Int32} {vd : Nat → Int32} {G : Nat → Nat → Nat} {N : Nat → Nat → Int32} {nb sb : Nat} {σ : Shp} {I : Nat → Nat → Int32} {J : Nat → Nat → Int64} {R : Nat → Nat → Option Nat} {I' : Nat → Nat → Int32} {J' : Nat → Nat → Int64} {fc : Nat → Nat} {E : Nat → Nat → Nat} {V : Nat → Nat → Int32} {σ' : Shp} {R' : Nat → Nat → Option Nat} {t st ch : Nat} (h : Core n O A vd G N nb sb σ I J R I' J' fc E V (t + 1) st ch) : ∃ I1 J1 I1' J1' c1, gX8_undoTo σ I J R (Int32.ofInt (E t 10 : Nat)) = some (I1, J1) ∧ gX12_undoTo σ' (u2 I' 114 42 (Int32.ofInt (t : Nat))) J' R' (Int32.ofInt (E t 10 : Nat)) = some (I1', J1') ∧ Sto G N σ I1 J1 R I1' J1' c1 ∧ c1 ≤ ch ∧ Ag [(17, 18)] I I1 ∧ Ag [(18, 19), (202, 1000000)] J J1 ∧ Ag [(1000042, 1000043), (1000054, 1000055)] I' I1' ∧ I1' 114 42 = Int32.ofInt (t : Nat) ∧ Ag [(119, 120), (139, 140)] J' J1' := by
  have hn := h.hn
  have g0 : Ag [(1000042, 1000043)] I' (u2 I' 114 42 (Int32.ofInt (t : Nat))) := Ag.st Ag.rf rfl
  obtain ⟨I1, J1, I1', J1', c1, r1, r2, r3, r4, r5, r6, r7, r8⟩ := undoCM (σ' := σ') (R' := R') (m := E t 10) ⟨hn.1, by omega⟩ (h.2.1.kpM (g0.kp rfl)) (h.2.2.2.2.1 t (Nat.lt_succ_self t)).1.2.2.2.2.2.2.2.2.2.2.1
  exact ⟨I1, J1, I1', J1', c1, r1, r2, r3, r4, r5, r6, (g0.mv rfl).tr (r7.mv rfl), by rw [r7 114 42 rfl, u2_self], r8⟩
/-- a frame goes once all is undone -/
theorem lvF {n O : Nat → Nat} {A : Nat → Nat → Int32} {vd : Nat → Int32} {G : Nat → Nat → Nat} {N : Nat → Nat → Int32} {nb sb : Nat} {σ : Shp} {I : Nat → Nat → Int32} {J : Nat → Nat → Int64} {R : Nat → Nat → Option Nat} {I' : Nat → Nat → Int32} {J' : Nat → Nat → Int64} {fc : Nat → Nat} {E : Nat → Nat → Nat} {V : Nat → Nat → Int32} {σ' : Shp} {R' : Nat → Nat → Option Nat} {t st ch c1 : Nat} {I1 I1' I2 I2' : Nat → Nat → Int32} {J1 J1' : Nat → Nat → Int64} (hb : PlB n O) (h : Core n O A vd G N nb sb σ I J R I' J' fc E V (t + 1) st ch) (s : Sto G N σ I1 J1 R I1' J1' c1) (hc : c1 ≤ ch) (a1 : Ag [(17, 18)] I I1) (aJ : Ag [(18, 19), (202, 1000000)] J J1) (b1 : Ag [(1000042, 1000043), (1000054, 1000055)] I' I1') (m42 : I1' 114 42 = Int32.ofInt (t : Nat)) (bJ : Ag [(119, 120), (139, 140)] J' J1') (eo : E t 0 = 14 ∨ E t 0 = 15 ∨ E t 0 = 21) (a2 : Ag [(25, 26)] I1 I2) (b2 : Ag [(1000059, 1000060)] I1' I2') (w2 : I2 25 0 ≠ 0) (wy : Wy I2 I2') (eC : gX7_leave σ I J R (some (fc t)) = gX7_leave_b169 σ I2 J1 R (some (fc t))) (em : ∀ f, gX12_run_l95 σ' R' (f + 1) I' J' = gX12_run_l95 σ' R' f I2' J1') : LvOk n O A vd G N nb sb σ' R' σ I J R I' J' fc E t st := by
  obtain ⟨t1, t2, t3, t4, t5, t6, t7, t8, t9, t10, t11, t12, t13, t14⟩ := h.tp hb
  have hn := h.hn
  have hv := h.2.2.2.2.2.1.2.2.2.1
  have a3 : Ag [(5, 6)] I2 (u2 I2 5 6 (Int32.ofInt (t : Nat))) := Ag.st Ag.rf rfl
  have a23 : Ag [(5, 6), (25, 26)] I1 (u2 I2 5 6 (Int32.ofInt (t : Nat))) := (a2.mv rfl).tr (a3.mv rfl)
  have a : Ag [(5, 6), (17, 18), (25, 26)] I (u2 I2 5 6 (Int32.ofInt (t : Nat))) := (a1.mv rfl).tr (a23.mv rfl)
  have b : Ag [(1000042, 1000043), (1000054, 1000055), (1000059, 1000060)] I' I2' := (b1.mv rfl).tr (b2.mv rfl)
  have e169 := b169 (J := J1) (R := R) (I := I2) t1 t2 (by rw [a2 5 6 rfl, a1 5 6 rfl]; exact t9) (by rw [a2.far rfl (fc t) t2 (by omega), a1.far rfl (fc t) t2 (by omega)]; exact t11) t5 (Or.inl (by omega))
  have bd : ∀ q, t = q + 1 → E t 14 = E q 14 ∧ E t 15 = E q 15 := fun q hq => by
    obtain ⟨-, B, -, -⟩ := h.2.2.2.2.1 t (Nat.lt_succ_self t)
    subst hq
    rcases B with B | B | B
    · omega
    · omega
    · obtain ⟨-, -, -, -, -, -, -, -, z1, z2, -⟩ := B
      rw [if_neg (by omega)] at z2
      exact ⟨z1, z2⟩
  refine lvK (V := V) (ch := ch) (eC.trans e169) em (h.pop2 ((s.kpC ⟨hn.1, by omega⟩ (a23 4 12 rfl) (fun q h1 h2 _ => a23.far rfl q h1 h2) (a23 17 6 rfl) (a23.at1 22 (by decide) (by decide) rfl)).kpM (b2.kp rfl)) h.2.2.1.1 (a.mv rfl) Ag.rf (b.mv rfl) (u2_self _ _ _ _) (CntP h.2.2.2.2.2.1 (fun f h1 h2 => ?_) (a 4 13 rfl) (a 7 1 rfl) (fun k => a 8 k rfl) (fun f hf => ?_) (fun k => b 129 k rfl) (by rw [b2 114 42 rfl]; exact m42) (fun j hj => ⟨by rw [a 19 j rfl, b 140 j rfl]; exact (hv j hj).1, by rw [a 20 j rfl, b 141 j rfl]; exact (hv j hj).2⟩) (fun q hq => ?_)) ?_) (fun q hq w => ?_) (a.mv rfl) (aJ.mv rfl) Ag.rf (b.mv rfl) (bJ.mv rfl)
  · rw [u2n (by omega), a2 5 f rfl, a1 5 f rfl]
  · rcases hf with rfl | rfl | hf
    · exact b 114 1 rfl
    · exact b 114 24 rfl
    · refine b 114 f (disW_no (C := [(1000065, 1000071)]) rfl (inW_iff.mpr ⟨_, List.mem_singleton.mpr rfl, ?_, ?_⟩))
      · show 1000065 ≤ 1000000 + f; omega
      · show 1000000 + f < 1000071; omega
  · obtain ⟨z1, z2⟩ := bd q hq
    have := (h.2.2.2.2.2.1.2.1 t rfl).2.2
    exact ⟨z1, by omega⟩
  · unfold Wy at wy ⊢
    rw [a3 25 0 rfl, a3 25 1 rfl, a3 25 2 rfl, a3 25 3 rfl, a3 25 4 rfl, a3 25 5 rfl]
    exact wy
  · rw [a3 25 0 rfl] at w
    exact absurd w w2
