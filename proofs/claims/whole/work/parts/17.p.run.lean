/-! ===== a run: bodies are left: those that only give back ===== -/
/-- the end of a body, in the model -/
theorem pcE {n O : Nat → Nat} {A : Nat → Nat → Int32} {vd : Nat → Int32} {G : Nat → Nat → Nat} {N : Nat → Nat → Int32} {nb sb : Nat} {σ : Shp} {I : Nat → Nat → Int32} {J : Nat → Nat → Int64} {R : Nat → Nat → Option Nat} {I' : Nat → Nat → Int32} {J' : Nat → Nat → Int64} {fc : Nat → Nat} {E : Nat → Nat → Nat} {V : Nat → Nat → Int32} {t st ch : Nat} (hb : PlB n O) (h : Core n O A vd G N nb sb σ I J R I' J' fc E V (t + 1) st ch) (hp : Pc n O I I' E (t + 1)) (w : I 25 0 = 0) (hx : E t 3 = E t 4) : I' 114 57 = Int32.ofInt (E t 1 : Nat) ∧ I' 114 58 = Int32.ofInt (E t 4 : Nat) ∧ I' 114 59 = 0 ∧ (E t 16 ≠ 0 → op O (E t 1) (E t 4) = 0 ∧ E t 4 < n (E t 1)) ∧ (E t 16 = 0 → E t 4 = n (E t 1)) := by
  obtain ⟨-, -, -, -, fr, -, wy⟩ := h
  obtain ⟨⟨a1, a2, a3, a4, a5, a6, a7, -⟩, b, -, ⟨-, d2, d3⟩⟩ := fr t (Nat.lt_succ_self t)
  obtain ⟨p1, pc, m, p2, p3, p4, p5⟩ := hp t rfl w
  have bdy : E t 16 ≠ 0 → op O (E t 1) (E t 4) = 0 ∧ E t 4 < n (E t 1) := fun z => by
    refine ⟨(a2.2.2 z).1, ?_⟩
    rcases b with b | b | b
    · omega
    · omega
    · obtain ⟨-, -, -, -, -, -, -, mt, -⟩ := b
      exact (d3.mt (by have := mt.1; omega) mt).1
  have epc : pc = E t 4 := by
    cases m with
    | zero => rw [← hx]; exact (show E t 3 = pc from p3).symm
    | succ m =>
      exfalso
      have le := p3.le
      obtain ⟨q, -⟩ := p3
      by_cases z : E t 16 = 0
      · have := a7 z; omega
      · have := (bdy z).1
        rw [hx, this] at q
        omega
  rw [epc] at p2
  refine ⟨p1, p2, ?_, bdy, a7⟩
  rw [wy.1, w]
/-- a body ends, in the model -/
theorem mdN {n O : Nat → Nat} {A : Nat → Nat → Int32} {vd : Nat → Int32} {G : Nat → Nat → Nat} {N : Nat → Nat → Int32} {nb sb : Nat} {σ : Shp} {I : Nat → Nat → Int32} {J : Nat → Nat → Int64} {R : Nat → Nat → Option Nat} {I' : Nat → Nat → Int32} {J' : Nat → Nat → Int64} {fc : Nat → Nat} {E : Nat → Nat → Nat} {V : Nat → Nat → Int32} {σ' : Shp} {R' : Nat → Nat → Option Nat} {t st ch o : Nat} {I4 : Nat → Nat → Int32} {J4 : Nat → Nat → Int64} (hb : PlB n O) (h : Core n O A vd G N nb sb σ I J R I' J' fc E V (t + 1) st ch) (hp : Pc n O I I' E (t + 1)) (w : I 25 0 = 0) (hx : E t 3 = E t 4) (h16 : E t 16 ≠ 0) (ho : I' 143 t = Int32.ofInt (o : Nat)) (hq : o ≤ 21 ∧ o ≠ 16 ∧ o ≠ 17 ∧ o ≠ 18) (gb : gX12_giveBack I' J' (Int32.ofInt (t : Nat)) = some (I4, J4)) (g1 : I4 114 42 = I' 114 42) (g2 : I4 114 58 = I' 114 58) (g3 : I4 145 t = I' 145 t) : ∀ f, gX12_run_l95 σ' R' (f + 1) I' J' = gX12_run_l95 σ' R' f (u2 (u2 I4 114 42 (Int32.ofInt (t : Nat))) 114 58 (if o = 20 then I' 145 t else Int32.ofInt ((E t 4 + 1 : Nat) : Int))) J4 := by
  intro f
  obtain ⟨t1, t2, t3, t4, t5, t6, t7, t8, t9, t10, -⟩ := h.tp hb
  obtain ⟨e1, e2, e3, e4, -⟩ := pcE hb h hp w hx
  obtain ⟨e4, e5⟩ := e4 h16
  have e : Int32.ofInt ((t + 1 : Nat) : Int) - 1 = Int32.ofInt (t : Nat) := by rw [i_subl]; congr 1; omega
  have g : ¬ (Int32.ofInt (t : Int) < 0 ∨ 400 ≤ Int32.toNatClampNeg (Int32.ofInt (t : Int))) := by rw [i_gd (by omega)]; exact id
  have gp : ¬ (Int32.ofInt (t : Int) < 0 ∨ 400 ≤ t) := by rw [i_ltl (by omega)]; omega
  refine hmC (by omega) h.1.2.2 hb t6 e5 t10 e3 e1 e2 e4 ?_
  unfold gX12_close
  rw [t10, e, if_pos g, t41 (by omega), gb, ob_some]
  try dsimp only
  rw [g1, t10, e, ho]
  rw [if_neg (by rw [i_eql (by omega)]; omega), if_neg (by rw [i_eql (by omega)]; omega), if_neg (by rw [i_eql (by omega)]; omega)]
  by_cases z : o = 20
  · rw [if_neg (by rw [i_eql (by omega)]; omega), if_pos (by rw [z]; rfl), if_pos gp, if_pos z, u2n (by omega), g3]
  · rw [u2n (by omega), g2, e2, iadd1, if_neg z]
    by_cases z2 : o = 19
    · rw [if_pos (by rw [z2]; rfl)]
    · rw [if_neg (by rw [i_eql (by omega)]; omega), if_neg (by rw [i_eql (by omega)]; omega)]
/-- a way out leads through a body, in the model -/
theorem mdU {n O : Nat → Nat} {A : Nat → Nat → Int32} {vd : Nat → Int32} {G : Nat → Nat → Nat} {N : Nat → Nat → Int32} {nb sb : Nat} {σ : Shp} {I : Nat → Nat → Int32} {J : Nat → Nat → Int64} {R : Nat → Nat → Option Nat} {I' : Nat → Nat → Int32} {J' : Nat → Nat → Int64} {fc : Nat → Nat} {E : Nat → Nat → Nat} {V : Nat → Nat → Int32} {σ' : Shp} {R' : Nat → Nat → Option Nat} {t st ch o : Nat} {I7 : Nat → Nat → Int32} {J8 : Nat → Nat → Int64} (hb : PlB n O) (h : Core n O A vd G N nb sb σ I J R I' J' fc E V (t + 1) st ch) (w : I 25 0 ≠ 0) (h7 : I7 143 t = Int32.ofInt (o : Nat)) (gb : gX12_giveBack (u2 I' 114 42 (Int32.ofInt (t : Nat))) J' (Int32.ofInt (t : Nat)) = some (I7, J8)) : (o = 11 ∨ o = 12 ∨ o = 13 ∨ o = 19 ∨ o = 20 → ∀ f, gX12_run_l95 σ' R' (f + 1) I' J' = gX12_run_l95 σ' R' f I7 J8) ∧ (o = 10 → ∀ f, gX12_run_l95 σ' R' (f + 1) I' J' = gX12_run_l95 σ' R' f (u2 I7 114 66 (I7 114 66 - 1)) J8) ∧ (o = 14 ∨ o = 15 → ∀ I9 J9, gX12_unwind_b133 σ' R' I7 J8 (Int32.ofInt (t : Nat)) = some (I9, J9) → ∀ f, gX12_run_l95 σ' R' (f + 1) I' J' = gX12_run_l95 σ' R' f I9 J9) ∧ (o = 21 → ∀ I9 J9, (if I7 114 59 = 1 then gX12_undoTo σ' I7 J8 R' 0 else some (I7, J8)) = some (I9, J9) → ∀ f, gX12_run_l95 σ' R' (f + 1) I' J' = gX12_run_l95 σ' R' f I9 J9) := by
  obtain ⟨t1, t2, t3, t4, t5, t6, t7, t8, t9, t10, -⟩ := h.tp hb
  have w' : I' 114 59 ≠ 0 := by rw [h.2.2.2.2.2.2.1]; exact w
  have e : Int32.ofInt ((t + 1 : Nat) : Int) - 1 = Int32.ofInt (t : Nat) := by rw [i_subl]; congr 1; omega
  have g : ¬ (Int32.ofInt (t : Int) < 0 ∨ 400 ≤ Int32.toNatClampNeg (Int32.ofInt (t : Int))) := by rw [i_gd (by omega)]; exact id
  have gp : ¬ (Int32.ofInt (t : Int) < 0 ∨ 400 ≤ t) := by rw [i_ltl (by omega)]; omega
  have hd : ∀ X, (if I7 143 t = 10 then some (u2 I7 114 66 (I7 114 66 - 1), J8) else if I7 143 t = 11 then some (I7, J8) else if I7 143 t = 12 then some (I7, J8) else if I7 143 t = 13 then some (I7, J8) else if I7 143 t = 14 then gX12_unwind_b133 σ' R' I7 J8 (Int32.ofInt (t : Nat)) else if I7 143 t = 15 then gX12_unwind_b133 σ' R' I7 J8 (Int32.ofInt (t : Nat)) else if I7 143 t = 16 then X else if I7 143 t = 17 then X else if I7 143 t = 18 then X else if I7 143 t = 19 then some (I7, J8) else if I7 143 t = 20 then some (I7, J8) else if I7 143 t = 21 then (if I7 114 59 = 1 then (gX12_undoTo σ' I7 J8 R' 0).bind fun (I23, J24) => some (I23, J24) else some (I7, J8)) else some (I7, J8)) = (if I7 143 t = 16 then X else if I7 143 t = 17 then X else if I7 143 t = 18 then X else gX12_unwind σ' I' J' R') := fun X => by
    by_cases z6 : I7 143 t = 16
    · rw [if_neg (by rw [z6]; decide), if_neg (by rw [z6]; decide), if_neg (by rw [z6]; decide), if_neg (by rw [z6]; decide), if_neg (by rw [z6]; decide), if_neg (by rw [z6]; decide), if_pos z6, if_pos z6]
    by_cases z7 : I7 143 t = 17
    · rw [if_neg (by rw [z7]; decide), if_neg (by rw [z7]; decide), if_neg (by rw [z7]; decide), if_neg (by rw [z7]; decide), if_neg (by rw [z7]; decide), if_neg (by rw [z7]; decide), if_neg z6, if_neg z6, if_pos z7, if_pos z7]
    by_cases z8 : I7 143 t = 18
    · rw [if_neg (by rw [z8]; decide), if_neg (by rw [z8]; decide), if_neg (by rw [z8]; decide), if_neg (by rw [z8]; decide), if_neg (by rw [z8]; decide), if_neg (by rw [z8]; decide), if_neg z6, if_neg z6, if_neg z7, if_neg z7, if_pos z8, if_pos z8]
    rw [if_neg z6, if_neg z7, if_neg z8]
    unfold gX12_unwind
    rw [t10, e]
    try dsimp only
    rw [u2_self, if_pos g, t41 (by omega), if_pos gp, gb, ob_some]
    try dsimp only
    rw [if_pos gp, if_neg z6, if_neg z7, if_neg z8, if_neg z6, if_neg z7, if_neg z8]
  have un : ∀ Z, (o = 16 ∨ o = 17 ∨ o = 18 → False) → o ≤ 21 → (if I7 143 t = 10 then some (u2 I7 114 66 (I7 114 66 - 1), J8) else if I7 143 t = 11 then some (I7, J8) else if I7 143 t = 12 then some (I7, J8) else if I7 143 t = 13 then some (I7, J8) else if I7 143 t = 14 then gX12_unwind_b133 σ' R' I7 J8 (Int32.ofInt (t : Nat)) else if I7 143 t = 15 then gX12_unwind_b133 σ' R' I7 J8 (Int32.ofInt (t : Nat)) else if I7 143 t = 16 then none else if I7 143 t = 17 then none else if I7 143 t = 18 then none else if I7 143 t = 19 then some (I7, J8) else if I7 143 t = 20 then some (I7, J8) else if I7 143 t = 21 then (if I7 114 59 = 1 then (gX12_undoTo σ' I7 J8 R' 0).bind fun (I23, J24) => some (I23, J24) else some (I7, J8)) else some (I7, J8)) = Z → gX12_unwind σ' I' J' R' = Z := fun Z q1 q2 q3 => by
    have n6 : o ≠ 16 := fun e => q1 (Or.inl e)
    have n7 : o ≠ 17 := fun e => q1 (Or.inr (Or.inl e))
    have n8 : o ≠ 18 := fun e => q1 (Or.inr (Or.inr e))
    have := hd none
    rw [q3, h7, if_neg (by rw [i_eql (by omega)]; omega), if_neg (by rw [i_eql (by omega)]; omega), if_neg (by rw [i_eql (by omega)]; omega)] at this
    exact this.symm
  refine ⟨fun eo f => hmU (by omega) t10 w' (un _ (by omega) (by omega) ?_), fun eo f => hmU (by omega) t10 w' (un _ (by omega) (by omega) ?_), fun eo I9 J9 e9 f => hmU (by omega) t10 w' (un _ (by omega) (by omega) ?_), fun eo I9 J9 e9 f => hmU (by omega) t10 w' (un _ (by omega) (by omega) ?_)⟩
  · rw [h7]
    rcases eo with rfl | rfl | rfl | rfl | rfl
    · rw [if_neg (by decide), if_pos (by rfl)]
    · rw [if_neg (by decide), if_neg (by decide), if_pos (by rfl)]
    · rw [if_neg (by decide), if_neg (by decide), if_neg (by decide), if_pos (by rfl)]
    · rw [if_neg (by decide), if_neg (by decide), if_neg (by decide), if_neg (by decide), if_neg (by decide), if_neg (by decide), if_neg (by decide), if_neg (by decide), if_neg (by decide), if_pos (by rfl)]
    · rw [if_neg (by decide), if_neg (by decide), if_neg (by decide), if_neg (by decide), if_neg (by decide), if_neg (by decide), if_neg (by decide), if_neg (by decide), if_neg (by decide), if_neg (by decide), if_pos (by rfl)]
  · rw [h7, eo, if_pos (by rfl)]
  · rw [h7]
    rcases eo with rfl | rfl
    · rw [if_neg (by decide), if_neg (by decide), if_neg (by decide), if_neg (by decide), if_pos (by rfl)]
      exact e9
    · rw [if_neg (by decide), if_neg (by decide), if_neg (by decide), if_neg (by decide), if_neg (by decide), if_pos (by rfl)]
      exact e9
  · rw [h7, eo, if_neg (by decide), if_neg (by decide), if_neg (by decide), if_neg (by decide), if_neg (by decide), if_neg (by decide), if_neg (by decide), if_neg (by decide), if_neg (by decide), if_neg (by decide), if_neg (by decide), if_pos (by rfl)]
    by_cases z : I7 114 59 = 1
    · rw [if_pos z] at e9 ⊢
      rw [e9]
      rfl
    · rw [if_neg z] at e9 ⊢
      exact e9
/-- the counters as a frame goes -/
theorem CntP {I I1 I' I1' : Nat → Nat → Int32} {E : Nat → Nat → Nat} {t st ch ch1 : Nat} (h : Cnt I I' E (t + 1) st ch) (i5 : ∀ f, 8 ≤ f → f ≤ 13 → I1 5 f = I 5 f) (i4 : I1 4 13 = I 4 13) (i7 : I1 7 1 = I 7 1) (i8 : ∀ k, I1 8 k = I 8 k) (m : ∀ f, f = 1 ∨ f = 24 ∨ (65 ≤ f ∧ f ≤ 70) → I1' 114 f = I' 114 f) (m9 : ∀ k, I1' 129 k = I' 129 k) (m42 : I1' 114 42 = Int32.ofInt (t : Nat)) (v : ∀ k : Nat, k < 3 → I1 19 k = I1' 140 k ∧ I1 20 k = I1' 141 k) (hc : ∀ q, t = q + 1 → E t 14 = E q 14 ∧ ch1 + E q 15 ≤ 2 * st) : Cnt I1 I1' E t st ch1 := by
  obtain ⟨c1, c2, c3, c4, c5, c6⟩ := h
  unfold Cnt
  rw [i5 9 (by decide) (by decide), i5 8 (by decide) (by decide), i5 10 (by decide) (by decide), i5 11 (by decide) (by decide), i5 12 (by decide) (by decide), i5 13 (by decide) (by decide), i4, i7, m 65 (by omega), m 66 (by omega), m 67 (by omega), m 68 (by omega), m 69 (by omega), m 70 (by omega), m 1 (by omega), m 24 (by omega)]
  refine ⟨c1, fun q hq => ?_, c3, v, m42, c6.1, c6.2.1, fun k hk => by rw [i8 k, m9 k]; exact c6.2.2 k hk⟩
  obtain ⟨d1, d2, d3⟩ := c2 t rfl
  have := hc q hq
  rw [this.1] at d1 d2
  exact ⟨d1, d2, this.2⟩
/-- where the model stands behind a body that was left -/
theorem PcP {n O : Nat → Nat} {A : Nat → Nat → Int32} {vd : Nat → Int32} {G : Nat → Nat → Nat} {N : Nat → Nat → Int32} {nb sb : Nat} {σ : Shp} {I : Nat → Nat → Int32} {J : Nat → Nat → Int64} {R : Nat → Nat → Option Nat} {I' : Nat → Nat → Int32} {J' : Nat → Nat → Int64} {fc : Nat → Nat} {E : Nat → Nat → Nat} {V : Nat → Nat → Int32} {t st ch : Nat} {I1 I1' : Nat → Nat → Int32} (h : Core n O A vd G N nb sb σ I J R I' J' fc E V (t + 1) st ch) (hb : 11 ≤ E t 0 ∧ E t 0 ≤ 20 ∧ E t 0 ≠ 16) (m : I1 25 0 = 0 → I1' 114 57 = Int32.ofInt (E t 1 : Nat) ∧ I1' 114 58 = Int32.ofInt ((E t 4 + 1 : Nat) : Int)) : Pc n O I1 I1' E t := by
  intro q hq w
  obtain ⟨m1, m2⟩ := m w
  obtain ⟨a, b, -, -⟩ := h.2.2.2.2.1 t (Nat.lt_succ_self t)
  obtain ⟨a', -, -, d'⟩ := h.2.2.2.2.1 q (by omega)
  subst hq
  rcases b with b | b | b
  · omega
  · omega
  · obtain ⟨b1, -, -, b4, b5, b6, b7, b8, -, -, -, b12, -⟩ := b
    rw [show q + 1 - 1 = q by omega] at b4 b6 b7
    rw [b12 hb.2.2] at b8
    have e := b8.uq b7
    rw [← b4]
    refine ⟨m1, E q 3, 0, by rw [m2, e, show E q 3 - 1 + 1 = E q 3 by omega], rfl, ?_, ?_⟩
    · rw [b4]
      obtain ⟨-, -, -, z1, -, z2, -⟩ := a'
      omega
    · rw [b4] at b5 b7 ⊢
      refine d'.2.1.ok ?_ (Or.inr (Or.inr ⟨E (q + 1) 2, b7, ?_, ?_⟩))
      · obtain ⟨-, -, -, z1, -, z2, -⟩ := a'
        omega
      · rw [b5]; exact hb.2.2
      · rw [b5]; exact b1.2.2.1
