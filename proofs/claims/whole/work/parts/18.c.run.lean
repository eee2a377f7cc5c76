/-! ===== a run: a turn, and all turns ===== -/
def Turn (n O : Nat → Nat) (A : Nat → Nat → Int32) (vd : Nat → Int32) (G : Nat → Nat → Nat) (N : Nat → Nat → Int32) (nb sb : Nat) (σ' : Shp) (R' : Nat → Nat → Option Nat) (σ : Shp) (I : Nat → Nat → Int32) (J : Nat → Nat → Int64) (R : Nat → Nat → Option Nat) (I' : Nat → Nat → Int32) (J' : Nat → Nat → Int64) (E : Nat → Nat → Nat) (d st : Nat) : Prop := ∃ σ1 I1 J1 R1 I1' J1' fc1 E1 V1 d1 st1 ch1, Core n O A vd G N nb sb σ1 I1 J1 R1 I1' J1' fc1 E1 V1 d1 st1 ch1 ∧ Pc n O I1 I1' E1 d1 ∧ (∀ f x, x < 1000000 → gX7_wholeRun_l72 (f + 1) σ I J R (Int32.ofInt ((x : Nat) : Int)) = gX7_wholeRun_l72 f σ1 I1 J1 R1 (Int32.ofInt ((x + 1 : Nat) : Int))) ∧ ((I1' = I' ∧ J1' = J') ∨ ∀ f, gX12_run_l95 σ' R' (f + 1) I' J' = gX12_run_l95 σ' R' f I1' J1') ∧ phi E1 d1 st1 < phi E d st ∧ Ag WRc I I1 ∧ Ag WRc J J1 ∧ Ag WRc R R1 ∧ Ag WRm I' I1' ∧ Ag WRm J' J1'
theorem lvAll {n O : Nat → Nat} {A : Nat → Nat → Int32} {vd : Nat → Int32} {G : Nat → Nat → Nat} {N : Nat → Nat → Int32} {nb sb : Nat} {σ : Shp} {I : Nat → Nat → Int32} {J : Nat → Nat → Int64} {R : Nat → Nat → Option Nat} {I' : Nat → Nat → Int32} {J' : Nat → Nat → Int64} {fc : Nat → Nat} {E : Nat → Nat → Nat} {V : Nat → Nat → Int32} {σ' : Shp} {R' : Nat → Nat → Option Nat} {t st ch : Nat} (hb : PlB n O) (hS : Skel σ' R') (h : Core n O A vd G N nb sb σ I J R I' J' fc E V (t + 1) st ch) (hp : Pc n O I I' E (t + 1)) (md : I 25 0 ≠ 0 ∨ E t 3 = E t 4) : LvOk n O A vd G N nb sb σ' R' σ I J R I' J' fc E t st := by
  obtain ⟨F1, F2, -, -⟩ := h.2.2.2.2.1 t (Nat.lt_succ_self t)
  rcases F2 with B | B | B
  · exact lv21 hb hS h hp md B.1
  · exact lv10 hb hS h hp md B.1
  · obtain ⟨⟨b1, b2, b3, b4⟩, -⟩ := B
    by_cases e1 : E t 0 = 11
    · exact lv11 hb h hp md e1
    by_cases e2 : E t 0 = 12
    · exact lv12 hb h hp md e2
    by_cases e3 : E t 0 = 13
    · exact lv13 hb h hp md e3
    by_cases e4 : E t 0 = 14
    · by_cases w : I 25 0 = 1
      · exact lv14 hb h w e4
      · exact lvZ hb h hp md (Or.inl ⟨Or.inl e4, w⟩)
    by_cases e5 : E t 0 = 15
    · by_cases w : I 25 0 = 1
      · exact lv15 hb h w e5
      · exact lvZ hb h hp md (Or.inl ⟨Or.inr e5, w⟩)
    by_cases e6 : E t 0 = 16
    · by_cases s : E t 8 < 2
      · exact lvS01 hb h hp md e6 s
      · have := F1.2.2.2.2.2.2.2.2.2.2.2
        exact lvS2 hb h hp md e6 (by omega)
    by_cases e9 : E t 0 = 19
    · exact lvZ hb h hp md (Or.inr (Or.inl e9))
    · have e20 : E t 0 = 20 := by omega
      by_cases w : I 25 0 = 0
      · exact lv20 hb h hp w (md.resolve_left (fun z => z w)) e20
      · exact lvZ hb h hp md (Or.inr (Or.inr ⟨e20, w⟩))
theorem stAll {n O : Nat → Nat} {A : Nat → Nat → Int32} {vd : Nat → Int32} {G : Nat → Nat → Nat} {N : Nat → Nat → Int32} {nb sb : Nat} {σ : Shp} {I : Nat → Nat → Int32} {J : Nat → Nat → Int64} {R : Nat → Nat → Option Nat} {I' : Nat → Nat → Int32} {J' : Nat → Nat → Int64} {fc : Nat → Nat} {E : Nat → Nat → Nat} {V : Nat → Nat → Int32} {σ' : Shp} {R' : Nat → Nat → Option Nat} {t st ch x : Nat} (hb : PlB n O) (hv : ∀ p, p < 4 → Vd n O A p (vd p)) (hS : Skel σ' R') (h : Core n O A vd G N nb sb σ I J R I' J' fc E V (t + 1) st ch) (hg : Bg n O nb sb σ I I' E t st ch x) : StOk n O A vd G N nb sb σ' R' σ I J R I' J' E t st x := by
  obtain ⟨g0, g7, g8, g20⟩ := hg.2.2.2.2.1
  obtain ⟨o, eo⟩ : ∃ o, op O (E t 1) x = o := ⟨_, rfl⟩
  by_cases e1 : op O (E t 1) x = 1
  · exact st1 hb hS h hg e1
  by_cases e2 : op O (E t 1) x = 2
  · exact st2 hb hS h hg e2
  by_cases e3 : op O (E t 1) x = 3
  · exact st3 hb hS h hg e3
  by_cases e4 : op O (E t 1) x = 4
  · exact st4 hb hS h hg e4
  by_cases e5 : op O (E t 1) x = 5
  · exact st5 hb hS h hg e5
  by_cases e6 : op O (E t 1) x = 6
  · exact st6 hb hS h hg e6
  by_cases e7 : op O (E t 1) x = 7
  · exact st7 hb hS h hg e7
  by_cases e8 : op O (E t 1) x = 8
  · exact st8 hb h hg e8
  by_cases e9 : op O (E t 1) x = 9
  · exact st9 hb hS h hg e9
  by_cases e10 : op O (E t 1) x = 10
  · exact st10 hb hv hS h hg e10
  by_cases e11 : op O (E t 1) x = 11
  · exact st11 hb hS h hg e11
  by_cases e12 : op O (E t 1) x = 12
  · exact st12 hb hS h hg e12
  by_cases e13 : op O (E t 1) x = 13
  · exact st13 hb hS h hg e13
  by_cases e15 : op O (E t 1) x = 15
  · exact st15 hb hS h hg e15
  by_cases e14 : op O (E t 1) x = 14 ∨ op O (E t 1) x = 16
  · exact st14 hb h hg e14
  · exact st19 hb hS h hg (by omega)
theorem turn {n O : Nat → Nat} {A : Nat → Nat → Int32} {vd : Nat → Int32} {G : Nat → Nat → Nat} {N : Nat → Nat → Int32} {nb sb : Nat} {σ : Shp} {I : Nat → Nat → Int32} {J : Nat → Nat → Int64} {R : Nat → Nat → Option Nat} {I' : Nat → Nat → Int32} {J' : Nat → Nat → Int64} {fc : Nat → Nat} {E : Nat → Nat → Nat} {V : Nat → Nat → Int32} {σ' : Shp} {R' : Nat → Nat → Option Nat} {t st ch : Nat} (hb : PlB n O) (hv : ∀ p, p < 4 → Vd n O A p (vd p)) (hS : Skel σ' R') (h : Core n O A vd G N nb sb σ I J R I' J' fc E V (t + 1) st ch) (hp : Pc n O I I' E (t + 1)) : Turn n O A vd G N nb sb σ' R' σ I J R I' J' E (t + 1) st := by
  obtain ⟨t1, t2, t3, t4, t5, t6, t7, t8, t9, t10, t11, -⟩ := h.tp hb
  have hn := hb.1 _ t6
  by_cases md : I 25 0 ≠ 0 ∨ E t 3 = E t 4
  · obtain ⟨I1, J1, R1, I1', J1', E1, V1, d1, st1, ch1, e1, e2, e3, e4, e5, e6, e7, e8, e9, e10⟩ := lvAll hb hS h hp md
    exact ⟨σ, I1, J1, R1, I1', J1', fc, E1, V1, d1, st1, ch1, e3, e4, fun f x hx => hdL h.2.2.2.1 t1 hx (by omega) (by rcases md with z | z; exact Or.inl z; exact Or.inr (by omega)) e1, Or.inr e2, e5, e6, e7, e8, e9, e10⟩
  have w : I 25 0 = 0 := Classical.byContradiction (fun z => md (Or.inl z))
  have hx : E t 3 < E t 4 := by
    have : E t 3 ≠ E t 4 := fun z => md (Or.inr z)
    omega
  obtain ⟨y, y1, y2, y3, y4, y5, y6, y7, y8⟩ := stB hb h hx
  obtain ⟨N1, aN⟩ := h.next (x := E t 3) y1 y2 y3
  obtain ⟨p1, pc, m, p2, p3, p4, p5⟩ := hp t rfl w
  have wf := (h.2.2.2.2.1 t (Nat.lt_succ_self t)).2.2.2.2.1
  have bd := (h.2.2.2.2.1 t (Nat.lt_succ_self t)).2.2.2.2.2
  have r6 := (h.2.2.2.2.1 t (Nat.lt_succ_self t)).1.2.2.2.2.2.1
  have w25 : sI I (fc t) (E t 3) y 25 0 = 0 := by rw [aN 25 0 rfl]; exact w
  by_cases o17 : op O (E t 1) (E t 3) = 17 ∨ op O (E t 1) (E t 3) = 18
  · -- passed over
    refine ⟨σ, _, J, R, I', J', fc, _, V, t + 1, st, ch, N1, ?_, fun f x hx2 => hdN h.2.2.2.1 t1 hx2 (by omega) w (y7 o17), Or.inl ⟨rfl, rfl⟩, ?_, aN.mv rfl, Ag.rf, Ag.rf, Ag.rf, Ag.rf⟩
    · intro q hq _
      obtain rfl : q = t := by omega
      rw [u2n (f := E) (by omega), u2_self E]
      cases m with
      | zero =>
        exfalso
        obtain rfl : E q 3 = pc := p3
        rcases p5 with z | z
        · omega
        · rcases o17 with v | v
          · exact z.1 v
          · exact z.2 v
      | succ m =>
        obtain ⟨-, e, q1, q2⟩ := p3
        have := q1.uq (y6 (by omega)).2
        rw [this, show y - 1 + 1 = y by have := (y6 (by omega)).1; omega] at q2
        exact ⟨p1, pc, m, p2, q2, p4, p5⟩
    · unfold phi
      rw [if_neg (by omega), if_neg (by omega), Nat.add_sub_cancel, u2_self E, u2n (f := E) (by omega)]
      omega
  have n17 : op O (E t 1) (E t 3) ≠ 17 := fun z => o17 (Or.inl z)
  have n18 : op O (E t 1) (E t 3) ≠ 18 := fun z => o17 (Or.inr z)
  obtain ⟨nz, y8⟩ := y8 n17 n18
  have ep : pc = E t 3 := by
    cases m with
    | zero => exact (show E t 3 = pc from p3).symm
    | succ m =>
      exfalso
      obtain ⟨q, -⟩ := p3
      rcases q with q | ⟨-, q⟩
      · exact n17 q
      · exact n18 q
  rw [ep] at p2
  have w' : I' 114 59 = 0 := by rw [h.2.2.2.2.2.2.1]; exact w
  have st3 := h.2.2.2.2.2.1.1
  have x20 : op O (E t 1) (E t 3) ≤ 20 := hb.2 _ (by omega)
  by_cases s300 : st < 300
  · -- a step
    rw [if_pos s300] at y8
    obtain ⟨I2, e2⟩ : ∃ I2, u2 (sI I (fc t) (E t 3) y) 5 9 (Int32.ofInt ((st + 1 : Nat) : Int)) = I2 := ⟨_, rfl⟩
    obtain ⟨I2', e2'⟩ : ∃ I2', u2 I' 114 65 (Int32.ofInt ((st + 1 : Nat) : Int)) = I2' := ⟨_, rfl⟩
    rw [e2] at y8
    have a2 : Ag [(5, 6)] (sI I (fc t) (E t 3) y) I2 := by rw [← e2]; exact Ag.st Ag.rf rfl
    have b2 : Ag [(1000065, 1000066)] I' I2' := by rw [← e2']; exact Ag.st Ag.rf rfl
    have M : Core n O A vd G N nb sb σ I2 J R I2' J' fc (u2 E t 3 y) V (t + 1) (st + 1) ch := by
      refine N1.kp2 (a2.mv rfl) (b2.mv rfl) (by rw [← e2, u2n (by omega)]) ?_ ?_ (by omega)
      · obtain ⟨d1, d2, d3, d4, d5, d6⟩ := N1.2.2.2.2.2.1
        have i5 : ∀ f, f ≠ 9 → I2 5 f = sI I (fc t) (E t 3) y 5 f := fun f hf => by rw [← e2, u2n (by omega)]
        have i9 : I2 5 9 = Int32.ofInt ((st + 1 : Nat) : Int) := by rw [← e2, u2_self]
        have i65 : I2' 114 65 = Int32.ofInt ((st + 1 : Nat) : Int) := by rw [← e2', u2_self]
        unfold Cnt
        rw [i9, i65, i5 8 (by decide), i5 10 (by decide), i5 11 (by decide), i5 12 (by decide), i5 13 (by decide), a2 4 13 rfl, a2 7 1 rfl, b2 114 66 rfl, b2 114 67 rfl, b2 114 68 rfl, b2 114 69 rfl, b2 114 70 rfl, b2 114 1 rfl, b2 114 42 rfl, b2 114 24 rfl]
        exact ⟨⟨rfl, rfl, by omega⟩, fun q hq => ⟨(d2 q hq).1, (d2 q hq).2.1, by have := (d2 q hq).2.2; omega⟩, d3, fun k hk => by rw [a2 19 k rfl, a2 20 k rfl, b2 140 k rfl, b2 141 k rfl]; exact d4 k hk, d5, d6.1, d6.2.1, fun k hk => by rw [a2 8 k rfl, b2 129 k rfl]; exact d6.2.2 k hk⟩
      · exact N1.wy1 (fun f _ => a2 25 f rfl) (fun f h1 h2 => b2 114 f (disW_no (C := [(1000059, 1000065)]) rfl (inW_iff.mpr ⟨_, List.mem_singleton.mpr rfl, by show 1000059 ≤ 1000000 + f; omega, by show 1000000 + f < 1000065; omega⟩)))
    have E1t : u2 E t 3 y t 1 = E t 1 := u2n (by omega)
    have E16 : u2 E t 3 y t 16 = E t 16 := u2n (by omega)
    have E15 : u2 E t 3 y t 15 = E t 15 := u2n (by omega)
    have E3 : u2 E t 3 y t 3 = y := u2_self _ _ _ _
    have ra := (h.2.2.2.2.1 t (Nat.lt_succ_self t)).1.2.2.1
    have c15 := (h.2.2.2.2.2.1.2.1 t rfl).2.2
    have rm := h.2.2.1.2.2
    have s7 : I2 5 7 = Int32.ofInt (E t 3 : Nat) := by rw [← e2]; unfold sI; simp (disch := omega) only [u2n, u2s]
    have B : Bg n O nb sb σ I2 I2' (u2 E t 3 y) t (st + 1) ch (E t 3) := by
      unfold Bg
      rw [E1t, E16, E15, E3]
      refine ⟨⟨by rw [a2 25 0 rfl]; exact w25, s7, by rw [b2 114 57 rfl]; exact p1, by rw [b2 114 58 rfl]; exact p2⟩, ⟨ra, y4⟩, y5, fun z => (y6 z).2, ⟨nz, n17, n18, x20⟩, by omega, by omega, by omega⟩
    obtain ⟨σ1, I3, J3, R3, I3', J3', fc3, E3', V3, d3, ch3, r1, r2, r3, r4, r5, r6', r7, r8, r9, r10⟩ := stAll hb hv hS M B
    rw [E1t] at r1 r2
    have g1' : I2 (fc t) 1 = Int32.ofInt (E t 1 : Nat) := by
      rw [← e2]
      unfold sI
      simp (disch := omega) only [u2n, u2s]
      exact (h.2.2.2.1.2.2 t (by omega)).2.1.2.1
    have pl2 : PlC n O A I2 := M.1.1
    refine ⟨σ1, I3, J3, R3, I3', J3', fc3, E3', V3, d3, st + 1, ch3, r3, r4, fun f x hx2 => ?_, Or.inr (fun f => ?_), ?_, ?_, r7, r8, ?_, r10⟩
    · refine hdS h.2.2.2.1 t1 hx2 (by omega) w y8 (o := Int32.ofInt (op O (E t 1) (E t 3) : Nat)) (a := A 0 (40 * E t 1 + E t 3)) ?_ ?_ ?_
      · rw [g1', s7, opK pl2 hb t6 (by omega), if_pos (by omega)]
      · rw [g1', s7]; exact aC pl2 hb t6 (by omega)
      · rw [g1']; exact r1
    · refine hmB (by omega) h.1.2.2 hb t6 (show E t 3 < n (E t 1) by omega) t10 w' p1 p2 nz ?_
      rw [bgE st3.2.1 s300, e2']
      exact r2
    · unfold phi
      rw [if_neg (show ¬ t + 1 = 0 by omega)]
      have : (2 - E3' (d3 - 1) 8) * 100 ≤ 200 := by
        have : 2 - E3' (d3 - 1) 8 ≤ 2 := by omega
        omega
      split <;> omega
    · exact ((aN.mv rfl).tr (a2.mv rfl)).tr r6'
    · exact (b2.mv rfl).tr r9
  · -- spent
    rw [if_neg s300] at y8
    have es : st = 300 := by omega
    have a2 : Ag [(25, 26)] (sI I (fc t) (E t 3) y) (u2 (sI I (fc t) (E t 3) y) 25 0 3) := Ag.st Ag.rf rfl
    have b2 : Ag [(1000059, 1000060)] I' (u2 I' 114 59 3) := Ag.st Ag.rf rfl
    refine ⟨σ, _, J, R, u2 I' 114 59 3, J', fc, _, V, t + 1, st, ch, N1.kp2 (a2.mv rfl) (b2.mv rfl) (a2 5 6 rfl) (N1.2.2.2.2.2.1.ka (a2.mv rfl) (b2.mv rfl)) ?_ (Nat.le_refl _), fun q hq z => ?_, fun f x hx2 => hdN h.2.2.2.1 t1 hx2 (by omega) w y8, Or.inr (fun f => ?_), ?_, (aN.mv rfl).tr (a2.mv rfl), Ag.rf, Ag.rf, b2.mv rfl, Ag.rf⟩
    · unfold Wy WyR
      rw [u2_self, u2_self]
      exact ⟨rfl, Or.inr (Or.inr (Or.inr rfl)), fun q => absurd q (by decide), fun q => absurd q (by decide), fun q => absurd q (by decide)⟩
    · rw [u2_self] at z
      exact absurd z (by decide)
    · refine hmB (by omega) h.1.2.2 hb t6 (show E t 3 < n (E t 1) by omega) t10 w' p1 p2 nz ?_
      exact bgS (by rw [st3.2.1, es])
    · unfold phi
      rw [if_neg (by omega), if_neg (by omega), Nat.add_sub_cancel, u2_self E, u2n (f := E) (by omega)]
      omega
/-- all turns -/
theorem turns {n O : Nat → Nat} {A : Nat → Nat → Int32} {vd : Nat → Int32} {G : Nat → Nat → Nat} {N : Nat → Nat → Int32} {nb sb : Nat} {σ' : Shp} {R' : Nat → Nat → Option Nat} (hb : PlB n O) (hv : ∀ p, p < 4 → Vd n O A p (vd p)) (hS : Skel σ' R') : ∀ (u : Nat) {σ : Shp} {I : Nat → Nat → Int32} {J : Nat → Nat → Int64} {R : Nat → Nat → Option Nat} {I' : Nat → Nat → Int32} {J' : Nat → Nat → Int64} {fc : Nat → Nat} {E : Nat → Nat → Nat} {V : Nat → Nat → Int32} {d st ch : Nat}, Core n O A vd G N nb sb σ I J R I' J' fc E V d st ch → Pc n O I I' E d → phi E d st ≤ u → ∀ f f' x, u < f → u < f' → x + u < 1000000 → ∃ σ1 I1 J1 R1 I1' J1' fc1 E1 V1 st1 ch1, Core n O A vd G N nb sb σ1 I1 J1 R1 I1' J1' fc1 E1 V1 0 st1 ch1 ∧ gX7_wholeRun_l72 f σ I J R (Int32.ofInt ((x : Nat) : Int)) = gX7_wholeRun_b182 σ1 I1 J1 R1 ∧ gX12_run_l95 σ' R' f' I' J' = (if I1' 114 59 = 1 then gX12_run_b265 σ' R' I1' J1' 1 else gX12_run_b265 σ' R' I1' J1' 0) ∧ Ag WRc I I1 ∧ Ag WRc J J1 ∧ Ag WRc R R1 ∧ Ag WRm I' I1' ∧ Ag WRm J' J1' := by
  intro u
  induction u with
  | zero =>
    intro σ I J R I' J' fc E V d st ch h hp hu f f' x hf hf' hx
    cases d with
    | succ t =>
      exfalso
      have := h.2.2.2.2.2.1.1.2.2
      unfold phi at hu
      omega
    | zero =>
      obtain ⟨f, rfl⟩ : ∃ m, f = m + 1 := ⟨f - 1, by omega⟩
      obtain ⟨f', rfl⟩ : ∃ m, f' = m + 1 := ⟨f' - 1, by omega⟩
      refine ⟨σ, I, J, R, I', J', fc, E, V, st, ch, h, ?_, ?_, Ag.rf, Ag.rf, Ag.rf, Ag.rf, Ag.rf⟩
      · rw [gX7_wholeRun_l72, if_neg (by rw [i_ler (by omega)]; omega), h.2.2.2.1.1, if_pos (by decide)]
      · rw [gX12_run_l95, h.2.2.2.2.2.1.2.2.2.2.1, if_pos (by decide)]
  | succ u ih =>
    intro σ I J R I' J' fc E V d st ch h hp hu f f' x hf hf' hx
    obtain ⟨f, rfl⟩ : ∃ m, f = m + 1 := ⟨f - 1, by omega⟩
    obtain ⟨f', rfl⟩ : ∃ m, f' = m + 1 := ⟨f' - 1, by omega⟩
    cases d with
    | zero =>
      refine ⟨σ, I, J, R, I', J', fc, E, V, st, ch, h, ?_, ?_, Ag.rf, Ag.rf, Ag.rf, Ag.rf, Ag.rf⟩
      · rw [gX7_wholeRun_l72, if_neg (by rw [i_ler (by omega)]; omega), h.2.2.2.1.1, if_pos (by decide)]
      · rw [gX12_run_l95, h.2.2.2.2.2.1.2.2.2.2.1, if_pos (by decide)]
    | succ t =>
      obtain ⟨σ1, I1, J1, R1, I1', J1', fc1, E1, V1, d1, st1, ch1, c1, c2, c3, c4, c5, c6, c7, c8, c9, c10⟩ := turn hb hv hS h hp
      rcases c4 with ⟨rfl, rfl⟩ | c4
      · obtain ⟨σ2, I2, J2, R2, I2', J2', fc2, E2, V2, st2, ch2, r1, r2, r3, r4, r5, r6, r7, r8⟩ := ih c1 c2 (by omega) f (f' + 1) (x + 1) (by omega) (by omega) (by omega)
        exact ⟨σ2, I2, J2, R2, I2', J2', fc2, E2, V2, st2, ch2, r1, by rw [c3 f x (by omega)]; exact r2, r3, c6.tr r4, c7.tr r5, c8.tr r6, c9.tr r7, c10.tr r8⟩
      · obtain ⟨σ2, I2, J2, R2, I2', J2', fc2, E2, V2, st2, ch2, r1, r2, r3, r4, r5, r6, r7, r8⟩ := ih c1 c2 (by omega) f f' (x + 1) (by omega) (by omega) (by omega)
        exact ⟨σ2, I2, J2, R2, I2', J2', fc2, E2, V2, st2, ch2, r1, by rw [c3 f x (by omega)]; exact r2, by rw [c4 f']; exact r3, c6.tr r4, c7.tr r5, c8.tr r6, c9.tr r7, c10.tr r8⟩
