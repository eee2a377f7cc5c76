/-! ===== a run: KEEP, AGAIN and the whole, where a fault comes out ===== -/
theorem Core.wy1 {n O : Nat → Nat} {A : Nat → Nat → Int32} {vd : Nat → Int32} {G : Nat → Nat → Nat} {N : Nat → Nat → Int32} {nb sb : Nat} {σ : Shp} {I : Nat → Nat → Int32} {J : Nat → Nat → Int64} {R : Nat → Nat → Option Nat} {I' : Nat → Nat → Int32} {J' : Nat → Nat → Int64} {fc : Nat → Nat} {E : Nat → Nat → Nat} {V : Nat → Nat → Int32} {d st ch : Nat} {I1 I1' : Nat → Nat → Int32} (h : Core n O A vd G N nb sb σ I J R I' J' fc E V d st ch) (a : ∀ f, f < 6 → I1 25 f = I 25 f) (b : ∀ f, 59 ≤ f → f ≤ 64 → I1' 114 f = I' 114 f) : Wy I1 I1' := by
  have := h.2.2.2.2.2.2
  unfold Wy at this ⊢
  rw [a 0 (by omega), a 1 (by omega), a 2 (by omega), a 3 (by omega), a 4 (by omega), a 5 (by omega), b 59 (by omega) (by omega), b 60 (by omega) (by omega), b 61 (by omega) (by omega), b 62 (by omega) (by omega), b 63 (by omega) (by omega), b 64 (by omega) (by omega)]
  exact this
theorem agN {I : Nat → Nat → Int32} {t o : Nat} (ht : t < 400) (ho : I 143 t = Int32.ofInt (o : Nat)) (h : o ≤ 30 ∧ o ≠ 15) : gX12_again I (Int32.ofInt (t : Nat)) = some I := by
  have g : ¬ (Int32.ofInt (t : Int) < 0 ∨ 400 ≤ Int32.toNatClampNeg (Int32.ofInt (t : Int))) := by rw [i_gd (by omega)]; exact id
  have gp : ¬ (Int32.ofInt (t : Int) < 0 ∨ 400 ≤ t) := by rw [i_ltl (by omega)]; omega
  unfold gX12_again
  rw [if_pos g, t41 (by omega), if_pos gp]
  try dsimp only
  rw [if_pos gp, ho, if_neg (by rw [i_eql (by omega)]; omega)]
theorem lv14 {n O : Nat → Nat} {A : Nat → Nat → Int32} {vd : Nat → Int32} {G : Nat → Nat → Nat} {N : Nat → Nat → Int32} {nb sb : Nat} {σ : Shp} {I : Nat → Nat → Int32} {J : Nat → Nat → Int64} {R : Nat → Nat → Option Nat} {I' : Nat → Nat → Int32} {J' : Nat → Nat → Int64} {fc : Nat → Nat} {E : Nat → Nat → Nat} {V : Nat → Nat → Int32} {σ' : Shp} {R' : Nat → Nat → Option Nat} {t st ch : Nat} (hb : PlB n O) (h : Core n O A vd G N nb sb σ I J R I' J' fc E V (t + 1) st ch) (w : I 25 0 = 1) (eo : E t 0 = 14) : LvOk n O A vd G N nb sb σ' R' σ I J R I' J' fc E t st := by
  obtain ⟨t1, t2, t3, t4, t5, t6, t7, t8, t9, t10, t11, -⟩ := h.tp hb
  obtain ⟨b1, b2, -, b3, b4, b5, b6, b7, -⟩ := h.bd (by omega)
  have m146 := (h.2.2.2.2.1 t (Nat.lt_succ_self t)).2.2.1.2.2.2.1 (Or.inl eo)
  have c10 : I (fc t) 10 = Int32.ofInt (E t 10 : Nat) := (h.2.2.2.1.2.2 t (by omega)).2.1.2.2.2.2.2.2
  obtain ⟨Iu, Ju, Iu', Ju', cu, r1, r2, r3, r4, r5, r6, r7, r8, r9⟩ := udB (σ' := σ') (R' := R') h
  have wne : I 25 0 ≠ 0 := by rw [w]; decide
  have g0 : Ag [(1000042, 1000043)] I' (u2 I' 114 42 (Int32.ofInt (t : Nat))) := Ag.st Ag.rf rfl
  refine lvF hb h r3 r4 r5 r6 r7 r8 r9 (Or.inl eo) Ag.rf Ag.rf (by rw [r5 25 0 rfl]; exact wne) (h.wy1 (fun f _ => r5 25 f rfl) (fun f h1 h2 => r7 114 f (disW_no (C := [(1000059, 1000065)]) rfl (inW_iff.mpr ⟨_, List.mem_singleton.mpr rfl, by show 1000059 ≤ 1000000 + f; omega, by show 1000000 + f < 1000065; omega⟩)))) ?_ ?_
  · rw [(lvC t1 t11 t5).2.2.2.2.1 (Or.inl eo), udF t1 w, c10, r1, ob_some]
  · refine (mdU (σ' := σ') (R' := R') (o := 14) hb h wne (by rw [u2n (by omega), b4, eo]) (gbN (J := J') (show t < 400 by omega) (by rw [u2n (by omega)]; exact b4) (by omega))).2.2.1 (Or.inl rfl) _ _ ?_
    unfold gX12_unwind_b133
    rw [if_pos (by rw [g0 114 59 rfl, h.2.2.2.2.2.2.1]; exact w), if_pos (by rw [i_gd (by omega)]; exact id), t41 (by omega), g0 146 t rfl, m146, r2, ob_some]
    try dsimp only
    rw [agN (o := 14) (by omega) (by rw [r7 143 t rfl, b4, eo]) (by omega), ob_some]
theorem lv21 {n O : Nat → Nat} {A : Nat → Nat → Int32} {vd : Nat → Int32} {G : Nat → Nat → Nat} {N : Nat → Nat → Int32} {nb sb : Nat} {σ : Shp} {I : Nat → Nat → Int32} {J : Nat → Nat → Int64} {R : Nat → Nat → Option Nat} {I' : Nat → Nat → Int32} {J' : Nat → Nat → Int64} {fc : Nat → Nat} {E : Nat → Nat → Nat} {V : Nat → Nat → Int32} {σ' : Shp} {R' : Nat → Nat → Option Nat} {t st ch : Nat} (hb : PlB n O) (hS : Skel σ' R') (h : Core n O A vd G N nb sb σ I J R I' J' fc E V (t + 1) st ch) (hp : Pc n O I I' E (t + 1)) (md : I 25 0 ≠ 0 ∨ E t 3 = E t 4) (eo : E t 0 = 21) : LvOk n O A vd G N nb sb σ' R' σ I J R I' J' fc E t st := by
  obtain ⟨t1, t2, t3, t4, t5, t6, t7, t8, t9, t10, t11, -⟩ := h.tp hb
  have hv := h.2.2.2.2.2.1.2.2.2.1
  obtain ⟨B0, B, B2, -⟩ := h.2.2.2.2.1 t (Nat.lt_succ_self t)
  have B : t = 0 ∧ E t 16 = 0 ∧ E t 10 = 0 := by
    rcases B with B | B | B
    · exact ⟨B.2.1, B.2.2.1, B.2.2.2.1⟩
    · omega
    · omega
  obtain ⟨m1, -⟩ := B2
  rw [eo, if_neg (by decide)] at m1
  have c10 : I (fc t) 10 = Int32.ofInt (E t 10 : Nat) := (h.2.2.2.1.2.2 t (by omega)).2.1.2.2.2.2.2.2
  have g0 : Ag [(1000042, 1000043)] I' (u2 I' 114 42 (Int32.ofInt (t : Nat))) := Ag.st Ag.rf rfl
  by_cases w1 : I 25 0 = 1
  · obtain ⟨Iu, Ju, Iu', Ju', cu, r1, r2, r3, r4, r5, r6, r7, r8, r9⟩ := udB (σ' := σ') (R' := R') h
    have wne : I 25 0 ≠ 0 := by rw [w1]; decide
    refine lvF hb h r3 r4 r5 r6 r7 r8 r9 (Or.inr (Or.inr eo)) Ag.rf Ag.rf (by rw [r5 25 0 rfl]; exact wne) (h.wy1 (fun f _ => r5 25 f rfl) (fun f h1 h2 => r7 114 f (disW_no (C := [(1000059, 1000065)]) rfl (inW_iff.mpr ⟨_, List.mem_singleton.mpr rfl, by show 1000059 ≤ 1000000 + f; omega, by show 1000000 + f < 1000065; omega⟩)))) ?_ ?_
    · rw [(lvC t1 t11 t5).2.2.2.2.1 (Or.inr eo), udF t1 w1, c10, r1, ob_some]
    · refine (mdU (σ' := σ') (R' := R') (o := 21) hb h wne (by rw [u2n (by omega), m1]) (gbN (J := J') (show t < 400 by omega) (by rw [u2n (by omega)]; exact m1) (by omega))).2.2.2 rfl _ _ ?_
      rw [if_pos (by rw [g0 114 59 rfl, h.2.2.2.2.2.2.1]; exact w1)]
      rw [B.2.2] at r2
      exact r2
  have eC : gX7_leave σ I J R (some (fc t)) = some (u2 I 5 6 (Int32.ofInt (t : Nat)), J, R) := by
    rw [(lvC t1 t11 t5).2.2.2.2.1 (Or.inr eo), udN w1, ob_some]
    exact b169 t1 t2 t9 t11 t5 (Or.inl (by omega))
  have a : Ag [(5, 6)] I (u2 I 5 6 (Int32.ofInt (t : Nat))) := Ag.st Ag.rf rfl
  have i5 : ∀ f, 8 ≤ f → f ≤ 13 → u2 I 5 6 (Int32.ofInt (t : Nat)) 5 f = I 5 f := fun f h1 h2 => u2n (by omega)
  have go : ∀ I1' : Nat → Nat → Int32, Ag [(1000042, 1000043), (1000057, 1000059), (1000066, 1000067)] I' I1' → I1' 114 42 = Int32.ofInt (t : Nat) → I1' 114 66 = I' 114 66 → (∀ f, gX12_run_l95 σ' R' (f + 1) I' J' = gX12_run_l95 σ' R' f I1' J') → LvOk n O A vd G N nb sb σ' R' σ I J R I' J' fc E t st := fun I1' b m42 m66 em => by
    refine lvK (V := V) (ch := ch) eC em (h.pop3 (a.mv rfl) (b.mv rfl) (u2_self _ _ _ _) (CntP h.2.2.2.2.2.1 i5 (a 4 13 rfl) (a 7 1 rfl) (fun k => a 8 k rfl) (fun f hf => ?_) (fun k => b 129 k rfl) m42 (fun j hj => ⟨by rw [a 19 j rfl, b 140 j rfl]; exact (hv j hj).1, by rw [a 20 j rfl, b 141 j rfl]; exact (hv j hj).2⟩) (fun q hq => by omega)) ?_) (fun q hq _ => by omega) (a.mv rfl) Ag.rf Ag.rf (b.mv rfl) Ag.rf
    · rcases hf with rfl | rfl | hf
      · exact b 114 1 rfl
      · exact b 114 24 rfl
      · by_cases z : f = 66
        · rw [z]; exact m66
        · by_cases z2 : f < 66
          · have : f = 65 := by omega
            rw [this]
            exact b 114 65 rfl
          · refine b 114 f (disW_no (C := [(1000067, 1000071)]) rfl (inW_iff.mpr ⟨_, List.mem_singleton.mpr rfl, ?_, ?_⟩))
            · show 1000067 ≤ 1000000 + f; omega
            · show 1000000 + f < 1000071; omega
    · exact h.wy1 (fun f _ => a 25 f rfl) (fun f h1 h2 => b 114 f (disW_no (C := [(1000059, 1000065)]) rfl (inW_iff.mpr ⟨_, List.mem_singleton.mpr rfl, by show 1000059 ≤ 1000000 + f; omega, by show 1000000 + f < 1000065; omega⟩)))
  by_cases w : I 25 0 = 0
  · have hx : E t 3 = E t 4 := md.resolve_left (fun z => z w)
    obtain ⟨y1, y2, y3, -, y5⟩ := pcE hb h hp w hx
    rw [y5 B.2.1] at y2
    have em := hmP (J := J') hS (show t < 400 by omega) h.1.2.2 hb t6 t10 y3 y1 y2
    rw [if_neg (by rw [m1]; decide)] at em
    exact go _ (Ag.st (Ag.st (Ag.st (Ag.st Ag.rf rfl) rfl) rfl) rfl) (by simp (disch := omega) only [u2n, u2s]) (by simp (disch := omega) only [u2n, u2s]; exact Int32.sub_zero _) em
  · have em := (mdU (σ' := σ') (R' := R') (o := 21) (I7 := u2 I' 114 42 (Int32.ofInt (t : Nat))) (J8 := J') hb h w (by rw [u2n (by omega), m1]) (gbN (J := J') (show t < 400 by omega) (by rw [u2n (by omega)]; exact m1) (by omega))).2.2.2 rfl _ _ (by rw [if_neg (by rw [g0 114 59 rfl, h.2.2.2.2.2.2.1]; exact w1)])
    exact go _ (g0.mv rfl) (u2_self _ _ _ _) (g0 114 66 rfl) em
theorem lv15 {n O : Nat → Nat} {A : Nat → Nat → Int32} {vd : Nat → Int32} {G : Nat → Nat → Nat} {N : Nat → Nat → Int32} {nb sb : Nat} {σ : Shp} {I : Nat → Nat → Int32} {J : Nat → Nat → Int64} {R : Nat → Nat → Option Nat} {I' : Nat → Nat → Int32} {J' : Nat → Nat → Int64} {fc : Nat → Nat} {E : Nat → Nat → Nat} {V : Nat → Nat → Int32} {σ' : Shp} {R' : Nat → Nat → Option Nat} {t st ch : Nat} (hb : PlB n O) (h : Core n O A vd G N nb sb σ I J R I' J' fc E V (t + 1) st ch) (w : I 25 0 = 1) (eo : E t 0 = 15) : LvOk n O A vd G N nb sb σ' R' σ I J R I' J' fc E t st := by
  obtain ⟨t1, t2, t3, t4, t5, t6, t7, t8, t9, t10, t11, t12, t13, t14⟩ := h.tp hb
  obtain ⟨b1, b2, -, b3, b4, b5, b6, b7, ⟨b8, -, -⟩, -⟩ := h.bd (by omega)
  have hn := hb.1 _ t6
  have hnn := h.hn
  have F := h.2.2.2.2.1 t (Nat.lt_succ_self t)
  have m146 := F.2.2.1.2.2.2.1 (Or.inr eo)
  have m147 := F.2.2.1.2.2.2.2.1 eo
  obtain ⟨⟨-, -, x2, -, -, -, c10⟩, ⟨-, -, -, v9, -⟩, -⟩ := (h.2.2.2.1.2.2 t (by omega)).2
  obtain ⟨Iu, Ju, Iu', Ju', cu, r1, r2, r3, r4, r5, r6, r7, r8, r9⟩ := udB (σ' := σ') (R' := R') h
  have wne : I 25 0 ≠ 0 := by rw [w]; decide
  have g0 : Ag [(1000042, 1000043)] I' (u2 I' 114 42 (Int32.ofInt (t : Nat))) := Ag.st Ag.rf rfl
  have wu : Wy Iu Iu' := h.wy1 (fun f _ => r5 25 f rfl) (fun f h1 h2 => r7 114 f (disW_no (C := [(1000059, 1000065)]) rfl (inW_iff.mpr ⟨_, List.mem_singleton.mpr rfl, by show 1000059 ≤ 1000000 + f; omega, by show 1000000 + f < 1000065; omega⟩)))
  have cf := r5.far rfl (fc t) t2 (by omega)
  have st9 : Iu 5 9 = Int32.ofInt (st : Nat) := by rw [r5 5 9 rfl]; exact h.2.2.2.2.2.1.1.1
  have st65 : Iu' 114 65 = Int32.ofInt (st : Nat) := by rw [r7 114 65 rfl]; exact h.2.2.2.2.2.1.1.2.1
  have st300 := h.2.2.2.2.2.1.1.2.2
  have g : ¬ (Int32.ofInt (t : Int) < 0 ∨ 400 ≤ Int32.toNatClampNeg (Int32.ofInt (t : Int))) := by rw [i_gd (by omega)]; exact id
  have gp : ¬ (Int32.ofInt (t : Int) < 0 ∨ 400 ≤ t) := by rw [i_ltl (by omega)]; omega
  -- the class
  have eC : gX7_leave σ I J R (some (fc t)) = if V t 5 ≤ V t 9 then gX7_leave_b169 σ Iu Ju R (some (fc t)) else if st < 300 then some (u2 (u2 (u2 (u2 Iu 5 9 (Int32.ofInt ((st + 1 : Nat) : Int))) (fc t) 9 (V t 9 + 1)) (fc t) 3 (Int32.ofInt ((E t 2 + 1 : Nat) : Int))) 25 0 0, Ju, R) else gX7_leave_b169 σ (u2 Iu 25 0 3) Ju R (some (fc t)) := by
    rw [(lvC t1 t11 t5).2.2.2.2.2.1 eo]
    unfold gX7_goesAgain
    rw [udF t1 w, c10, r1, ob_some]
    try dsimp only
    rw [if_pos g00, c00, r5 25 0 rfl, if_pos w, ob_some, if_pos t1, cf, t12, v9]
    by_cases z : V t 5 ≤ V t 9
    · rw [if_pos z, if_pos z, ob_some]
      try dsimp only
      rw [if_pos rfl]
    · rw [if_neg z, if_neg z]
      unfold gX7_counted
      rw [st9]
      by_cases z2 : st < 300
      · rw [if_pos (by rw [i_ltl (by omega)]; omega), if_pos z2, iadd1, ob_some]
        try dsimp only
        rw [if_neg n10, u2n (by omega), cf, v9, u2n (by omega), u2n (by omega), cf, x2, iadd1, ob_some]
        try dsimp only
        rw [if_neg n10]
      · rw [if_neg (by rw [i_ltl (by omega)]; omega), if_neg z2, if_pos g00, c00, ob_some]
        try dsimp only
        rw [if_pos rfl, ob_some]
        try dsimp only
        rw [if_pos rfl]
  -- the model
  have ag : gX12_again Iu' (Int32.ofInt (t : Nat)) = if V t 5 ≤ V t 9 then some Iu' else if st < 300 then some (u2 (u2 (u2 (u2 (u2 (u2 Iu' 114 65 (Int32.ofInt ((st + 1 : Nat) : Int))) 147 t (V t 9 + 1)) 114 42 (Int32.ofInt ((t + 1 : Nat) : Int))) 114 59 0) 114 57 (Int32.ofInt (E t 1 : Nat))) 114 58 (Int32.ofInt ((E t 2 + 1 : Nat) : Int))) else some (u2 Iu' 114 59 3) := by
    have y1 := (h.1.2.2.2 (40 * E t 1 + E t 2) (by omega)).2.1
    unfold gX12_again
    rw [if_pos g, t41 (by omega), if_pos gp]
    try dsimp only
    rw [if_pos gp, r7 143 t rfl, b4, eo, if_pos (by rfl), if_pos gp, r7 144 t rfl, r7 145 t rfl, b5, b6, iy40, if_pos (p16 (by omega)), t41 (by omega), r7 136 _ rfl, y1, ← b8, r7 147 t rfl, m147]
    by_cases z : V t 5 ≤ V t 9
    · rw [if_pos z, if_pos z]
    · rw [if_neg z, if_neg z]
      unfold gX12_isStep
      rw [st65]
      by_cases z2 : st < 300
      · rw [if_neg (by rw [i_eql (by omega)]; omega), if_pos z2, iadd1, ob_some]
        try dsimp only
        have q0 : u2 Iu' 114 65 (Int32.ofInt ((st + 1 : Nat) : Int)) 147 t = V t 9 := by rw [u2n (by omega), r7 147 t rfl, m147]
        rw [if_neg n10, q0]
        have q1 : u2 (u2 Iu' 114 65 (Int32.ofInt ((st + 1 : Nat) : Int))) 147 t (V t 9 + 1) 114 42 = Int32.ofInt (t : Nat) := by simp (disch := omega) only [u2n, u2s]; exact r8
        rw [q1, iadd1]
        have q2 : u2 (u2 (u2 (u2 Iu' 114 65 (Int32.ofInt ((st + 1 : Nat) : Int))) 147 t (V t 9 + 1)) 114 42 (Int32.ofInt ((t + 1 : Nat) : Int))) 114 59 0 144 t = Int32.ofInt (E t 1 : Nat) := by simp (disch := omega) only [u2n, u2s]; rw [r7 144 t rfl]; exact b5
        rw [q2]
        have q3 : u2 (u2 (u2 (u2 (u2 Iu' 114 65 (Int32.ofInt ((st + 1 : Nat) : Int))) 147 t (V t 9 + 1)) 114 42 (Int32.ofInt ((t + 1 : Nat) : Int))) 114 59 0) 114 57 (Int32.ofInt (E t 1 : Nat)) 145 t = Int32.ofInt (E t 2 : Nat) := by simp (disch := omega) only [u2n, u2s]; rw [r7 145 t rfl]; exact b6
        rw [q3, iadd1]
      · have z3 : st = 300 := by omega
        rw [if_pos (by rw [z3]; rfl), if_neg z2, ob_some]
        try dsimp only
        rw [if_pos rfl]
  have em : ∀ X, gX12_again Iu' (Int32.ofInt (t : Nat)) = some X → ∀ f, gX12_run_l95 σ' R' (f + 1) I' J' = gX12_run_l95 σ' R' f X Ju' := fun X hX => by
    refine (mdU (σ' := σ') (R' := R') (o := 15) hb h wne (by rw [u2n (by omega), b4, eo]) (gbN (J := J') (show t < 400 by omega) (by rw [u2n (by omega)]; exact b4) (by omega))).2.2.1 (Or.inr rfl) _ _ ?_
    unfold gX12_unwind_b133
    rw [if_pos (by rw [g0 114 59 rfl, h.2.2.2.2.2.2.1]; exact w), if_pos g, t41 (by omega), g0 146 t rfl, m146, r2, ob_some]
    try dsimp only
    rw [hX, ob_some]
  by_cases z : V t 5 ≤ V t 9
  · rw [if_pos z] at eC ag
    exact lvF hb h r3 r4 r5 r6 r7 r8 r9 (Or.inr (Or.inl eo)) Ag.rf Ag.rf (by rw [r5 25 0 rfl]; exact wne) wu eC (em _ ag)
  rw [if_neg z] at eC ag
  by_cases z2 : st < 300
  case neg =>
    rw [if_neg z2] at eC ag
    have a2 : Ag [(25, 26)] Iu (u2 Iu 25 0 3) := Ag.st Ag.rf rfl
    have b2' : Ag [(1000059, 1000060)] Iu' (u2 Iu' 114 59 3) := Ag.st Ag.rf rfl
    refine lvF hb h r3 r4 r5 r6 r7 r8 r9 (Or.inr (Or.inl eo)) a2 b2' (by rw [u2_self]; decide) ?_ eC (em _ ag)
    unfold Wy WyR
    rw [u2_self, u2_self]
    exact ⟨rfl, Or.inr (Or.inr (Or.inr rfl)), fun q => absurd q (by decide), fun q => absurd q (by decide), fun q => absurd q (by decide)⟩
  rw [if_pos z2] at eC ag
  -- once more
  obtain ⟨I2, e2⟩ : ∃ I2, u2 (u2 (u2 (u2 Iu 5 9 (Int32.ofInt ((st + 1 : Nat) : Int))) (fc t) 9 (V t 9 + 1)) (fc t) 3 (Int32.ofInt ((E t 2 + 1 : Nat) : Int))) 25 0 0 = I2 := ⟨_, rfl⟩
  obtain ⟨I2', e2'⟩ : ∃ I2', u2 (u2 (u2 (u2 (u2 (u2 Iu' 114 65 (Int32.ofInt ((st + 1 : Nat) : Int))) 147 t (V t 9 + 1)) 114 42 (Int32.ofInt ((t + 1 : Nat) : Int))) 114 59 0) 114 57 (Int32.ofInt (E t 1 : Nat))) 114 58 (Int32.ofInt ((E t 2 + 1 : Nat) : Int)) = I2' := ⟨_, rfl⟩
  rw [e2] at eC
  rw [e2'] at ag
  have hI : ∀ k, inW [(5, 6), (25, 26), (202, 1000000)] (key (fc t) k) = true := fun k => inF t2 (by omega) (by decide)
  have a2 : Ag [(5, 6), (25, 26), (202, 1000000)] Iu I2 := by rw [← e2]; exact Ag.st (Ag.st (Ag.st (Ag.st Ag.rf rfl) (hI _)) (hI _)) rfl
  have a : Ag [(5, 6), (17, 18), (25, 26), (202, 1000000)] I I2 := (r5.mv rfl).tr (a2.mv rfl)
  have bb : Ag [(147, 148), (1000042, 1000043), (1000057, 1000060), (1000065, 1000066)] Iu' I2' := by rw [← e2']; exact Ag.st (Ag.st (Ag.st (Ag.st (Ag.st (Ag.st Ag.rf rfl) rfl) rfl) rfl) rfl) rfl
  have b : Ag [(147, 148), (1000042, 1000043), (1000054, 1000055), (1000057, 1000060), (1000065, 1000066)] I' I2' := (r7.mv rfl).tr (bb.mv rfl)
  have o : ∀ q, 202 ≤ q → q ≠ fc t → I2 q = I q := fun q h1 h2 => by
    by_cases q9 : q < 1000000
    · rw [← r5.far rfl q h1 q9]
      funext k
      rw [← e2]
      simp (disch := omega) only [u2n, u2s]
    · funext k
      rw [← e2]
      simp (disch := omega) only [u2n, u2s]
      exact r5 q k (by rw [key_o (by omega) (by omega)]; exact Bool.eq_false_iff.mpr (fun z => by
        obtain ⟨w, w1, w2, w3⟩ := inW_iff.mp z
        rw [List.mem_singleton] at w1
        subst w1
        dsimp only at w3
        omega))
  obtain ⟨F1, F2, F3, F4⟩ := F
  have B := (F2.resolve_left (fun q => by omega)).resolve_left (fun q => by omega)
  obtain ⟨-, -, c3, -, c5, -, -, c8, -, -, -, c12, -⟩ := B
  have k12 := c12 (by omega)
  rw [k12] at c3 c8
  have c81 := c8.1
  have mt : Mt (op O (E t 1)) (E t 2) (E t 4) := c8
  have fx : Frm n O A vd I I' (u2 E t 3 (E t 2 + 1)) V t := Frm.x3 ⟨F1, F2, F3, F4⟩ (by omega) (by omega) (by rw [c3]; exact dq_1 _ (Nat.le_refl _))
  have P := h.topc (I1 := I2) (I1' := I2') (J1 := Ju) (J1' := Ju') (E1 := u2 E t 3 (E t 2 + 1)) (V1 := u2 V t 9 (V t 9 + 1)) (st1 := st + 1) (ch1 := cu)
    ((r3.kpC ⟨hnn.1, by omega⟩ (a2 4 12 rfl) (fun q h1 h2 h3 => by
      have : q ≠ fc t := fun e => by rw [e, t1] at h3; omega
      rw [o q h1 this, r5.far rfl q h1 h2]) (a2 17 6 rfl) (a2.at1 22 (by decide) (by decide) rfl)).kpM (bb.kp rfl)) a (fun q h1 h2 _ => o q h1 h2)
    (by rw [← e2]; simp (disch := omega) only [u2n, u2s]; exact r5 5 6 rfl) (fun j f hj => u2n (by omega)) (fun j f hj => u2n (by omega))
    (by
      obtain ⟨⟨g0', g1, g2, g3, g4, g8, g10⟩, ⟨v5, v6, v7, v9', v11⟩, wt⟩ := (h.2.2.2.1.2.2 t (by omega)).2
      have z : ∀ f, f ≠ 3 → f ≠ 9 → I2 (fc t) f = I (fc t) f := fun f h1 h2 => by rw [← e2]; simp (disch := omega) only [u2n, u2s]; rw [cf]
      refine ⟨⟨?_, ?_, ?_, ?_, ?_, ?_, ?_⟩, ⟨?_, ?_, ?_, ?_, ?_⟩, fun k hk => ?_⟩
      · rw [z 0 (by decide) (by decide), u2n (f := E) (by omega)]; exact g0'
      · rw [z 1 (by decide) (by decide), u2n (f := E) (by omega)]; exact g1
      · rw [z 2 (by decide) (by decide), u2n (f := E) (by omega)]; exact g2
      · rw [u2_self E, ← e2]; simp (disch := omega) only [u2n, u2s]
      · rw [z 4 (by decide) (by decide), u2n (f := E) (by omega)]; exact g4
      · rw [z 8 (by decide) (by decide), u2n (f := E) (by omega)]; exact g8
      · rw [z 10 (by decide) (by decide), u2n (f := E) (by omega)]; exact g10
      · rw [z 5 (by decide) (by decide), u2n (f := V) (by omega)]; exact v5
      · rw [z 6 (by decide) (by decide), u2n (f := V) (by omega)]; exact v6
      · rw [z 7 (by decide) (by decide), u2n (f := V) (by omega)]; exact v7
      · rw [u2_self V, ← e2]; simp (disch := omega) only [u2n, u2s]
      · rw [z 11 (by decide) (by decide), u2n (f := V) (by omega)]; exact v11
      · rw [o (fc t + 1) (by omega) (by omega), u2n (f := V) (by omega)]; exact wt k hk)
    (b.mv rfl) (fun q j h1 h2 h3 => by rw [← e2']; simp (disch := omega) only [u2n, u2s]; exact r7 q j (by
      rw [key_o (by omega) (by omega)]
      exact disW_no (C := [(143, 154)]) rfl (inW_iff.mpr ⟨(143, 154), List.mem_singleton.mpr rfl, h1, by omega⟩)))
    (by
      obtain ⟨f1, f2, f3, f4⟩ := fx
      refine ⟨f1, ?_, ?_, f4⟩
      · unfold RSb at f2 ⊢
        rw [u2n (f := V) (a := t) (k := 9) (b := t) (j := 5) (by omega), u2n (f := V) (a := t) (k := 9) (b := t) (j := 6) (by omega), u2n (f := V) (a := t) (k := 9) (b := t) (j := 7) (by omega)]
        exact f2
      · have ne : u2 E t 3 (E t 2 + 1) t 0 = 15 := by rw [u2n (by omega)]; exact eo
        have e12 : u2 E t 3 (E t 2 + 1) t 12 = E t 2 := by rw [u2n (by omega)]; exact k12
        obtain ⟨y1, y2, y3, y4, -⟩ := f3
        have mm : ∀ q, 143 ≤ q → q ≤ 146 → I2' q t = I' q t := fun q h1 h2 => by rw [← e2']; simp (disch := omega) only [u2n, u2s]; exact r7 q t (by
          rw [key_o (by omega) (by omega)]
          exact disW_no (C := [(143, 154)]) rfl (inW_iff.mpr ⟨(143, 154), List.mem_singleton.mpr rfl, h1, by omega⟩))
        refine ⟨by rw [mm 143 (by omega) (by omega)]; exact y1, by rw [mm 144 (by omega) (by omega)]; exact y2, by rw [mm 145 (by omega) (by omega)]; exact y3, fun q => by rw [mm 146 (by omega) (by omega)]; exact y4 q, fun q => ?_, fun q => ?_, fun q => ?_⟩
        · rw [u2_self V, ← e2']; simp (disch := omega) only [u2n, u2s]
        · rw [ne] at q; omega
        · rw [ne] at q; omega)
    (by
      obtain ⟨d1, d2, d3, d4, d5, d6⟩ := h.2.2.2.2.2.1
      have i5 : ∀ f, f ≠ 9 → I2 5 f = I 5 f := fun f g1 => by rw [← e2]; simp (disch := omega) only [u2n, u2s]; exact r5 5 f rfl
      have i9 : I2 5 9 = Int32.ofInt ((st + 1 : Nat) : Int) := by rw [← e2]; simp (disch := omega) only [u2n, u2s]
      have i65 : I2' 114 65 = Int32.ofInt ((st + 1 : Nat) : Int) := by rw [← e2']; simp (disch := omega) only [u2n, u2s]
      unfold Cnt
      rw [i9, i65, i5 8 (by decide), i5 10 (by decide), i5 11 (by decide), i5 12 (by decide), i5 13 (by decide), a 4 13 rfl, a 7 1 rfl, b 114 66 rfl, b 114 67 rfl, b 114 68 rfl, b 114 69 rfl, b 114 70 rfl, b 114 1 rfl, b 114 24 rfl]
      refine ⟨⟨rfl, rfl, by omega⟩, fun q hq => ?_, d3, fun k hk => by rw [a 19 k rfl, a 20 k rfl, b 140 k rfl, b 141 k rfl]; exact d4 k hk, by rw [← e2']; simp (disch := omega) only [u2n, u2s], d6.1, d6.2.1, fun k hk => by rw [a 8 k rfl, b 129 k rfl]; exact d6.2.2 k hk⟩
      obtain rfl : q = t := by omega
      rw [u2n (f := E) (by omega), u2n (f := E) (by omega)]
      have := d2 q rfl
      exact ⟨this.1, this.2.1, by omega⟩)
    (by
      have x0 : I2 25 0 = 0 := by rw [← e2]; simp (disch := omega) only [u2n, u2s]
      have x9 : I2' 114 59 = 0 := by rw [← e2']; simp (disch := omega) only [u2n, u2s]
      unfold Wy WyR
      rw [x0, x9]
      exact ⟨rfl, Or.inl rfl, fun q => absurd q (by decide), fun q => absurd q (by decide), fun q => absurd q (by decide)⟩) (by omega)
  refine ⟨I2, Ju, R, I2', Ju', _, _, t + 1, st + 1, cu, eC, em _ ag, P, ?_, ?_, a.mv rfl, r6.mv rfl, Ag.rf, b.mv rfl, r9.mv rfl⟩
  · intro q hq _
    obtain rfl : q = t := by omega
    rw [u2n (f := E) (by omega), u2_self E]
    refine ⟨?_, E q 2 + 1, 0, ?_, rfl, ?_, F4.2.1.ok ?_ (Or.inr (Or.inl ?_))⟩
    · rw [← e2']; simp (disch := omega) only [u2n, u2s]
    · rw [← e2']; simp (disch := omega) only [u2n, u2s]
    · omega
    · omega
    · rw [Nat.add_sub_cancel, c5]; omega
  · unfold phi
    rw [if_neg (by omega), if_neg (by omega), Nat.add_sub_cancel, u2_self E, u2n (f := E) (by omega)]
    omega
