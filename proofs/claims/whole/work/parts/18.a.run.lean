/-! ===== a run: TRY is left, all ways ===== -/
theorem Ag_skp {I : Nat → Nat → Int32} {c : Nat} : ∀ k, Ag [(25, 26)] I (skp I c k) := by
  intro k
  induction k with
  | zero => exact Ag.rf
  | succ k ih => exact Ag.st ih rfl
/-- behind a TRY's last part: where the model stands -/
theorem PcT {n O : Nat → Nat} {A : Nat → Nat → Int32} {vd : Nat → Int32} {G : Nat → Nat → Nat} {N : Nat → Nat → Int32} {nb sb : Nat} {σ : Shp} {I : Nat → Nat → Int32} {J : Nat → Nat → Int64} {R : Nat → Nat → Option Nat} {I' : Nat → Nat → Int32} {J' : Nat → Nat → Int64} {fc : Nat → Nat} {E : Nat → Nat → Nat} {V : Nat → Nat → Int32} {t st ch q pc m : Nat} {I1 I1' : Nat → Nat → Int32} (h : Core n O A vd G N nb sb σ I J R I' J' fc E V (t + 1) st ch) (eo : E t 0 = 16) (hq : t = q + 1) (m57 : I1' 114 57 = Int32.ofInt (E t 1 : Nat)) (m58 : I1' 114 58 = Int32.ofInt (pc : Nat)) (hc : Ch (op O (E t 1)) 1 m (E q 3) pc) (pn : pc ≤ n (E t 1)) (pt : pc = n (E t 1) ∨ (op O (E t 1) pc ≠ 17 ∧ op O (E t 1) pc ≠ 18)) : Pc n O I1 I1' E t := by
  intro z hz _
  obtain ⟨q', hq', c1, -⟩ := h.tr eo
  obtain rfl : q' = q := by omega
  obtain rfl : z = q' := by omega
  rw [← c1]
  exact ⟨m57, pc, m, m58, hc, pn, pt⟩
/-- stage 2: the LAST is over -/
theorem lvS2 {n O : Nat → Nat} {A : Nat → Nat → Int32} {vd : Nat → Int32} {G : Nat → Nat → Nat} {N : Nat → Nat → Int32} {nb sb : Nat} {σ : Shp} {I : Nat → Nat → Int32} {J : Nat → Nat → Int64} {R : Nat → Nat → Option Nat} {I' : Nat → Nat → Int32} {J' : Nat → Nat → Int64} {fc : Nat → Nat} {E : Nat → Nat → Nat} {V : Nat → Nat → Int32} {σ' : Shp} {R' : Nat → Nat → Option Nat} {t st ch : Nat} (hb : PlB n O) (h : Core n O A vd G N nb sb σ I J R I' J' fc E V (t + 1) st ch) (hp : Pc n O I I' E (t + 1)) (md : I 25 0 ≠ 0 ∨ E t 3 = E t 4) (eo : E t 0 = 16) (e8 : E t 8 = 2) : LvOk n O A vd G N nb sb σ' R' σ I J R I' J' fc E t st := by
  obtain ⟨t1, t2, t3, t4, t5, t6, t7, t8, t9, t10, t11, -⟩ := h.tp hb
  have hf := h.fc (Nat.lt_succ_self t)
  obtain ⟨q, hq, c1, c2, c3, c4, c5, c6, c7, c8, c9, m3, m4, m5, c10⟩ := h.tr eo
  obtain ⟨⟨ra, -, -, -, -, r6, -⟩, -, F3, ⟨-, wf, bd⟩⟩ := h.2.2.2.2.1 t (Nat.lt_succ_self t)
  obtain ⟨n3, wr⟩ := F3.2.2.2.2.2.2 eo e8
  obtain ⟨⟨-, -, -, -, -, g8, -⟩, -, wt⟩ := (h.2.2.2.1.2.2 t (by omega)).2
  have wy := h.2.2.2.2.2.2
  have w' : I' 114 59 = I 25 0 := wy.1
  have c61 := c6.1
  have e4 : E t 4 < n (E t 1) := (bd.mt (by omega) c6).1
  obtain ⟨-, k18, mm, ch0⟩ : E t 8 = 2 ∧ op O (E t 1) (E t 12) = 18 ∧ ∃ m, Ch (op O (E t 1)) 0 m (E q 3) (E t 12) := by
    rcases c10 with z | z | z
    · omega
    · omega
    · exact z
  have sl := slC (σ := σ) (I := I) (R := R) t2 t1 hf.2.2.2.2.1 hf.2.2.2.2.2.1 hf.2.2.2.2.2.2
  have eC : gX7_leave σ I J R (some (fc t)) = if I 25 0 = 3 then gX7_leave_b169 σ I J R (some (fc t)) else (gX7_settleLast σ I R (some (fc t))).bind fun I24 => gX7_leave_b169 σ I24 J R (some (fc t)) := by
    rw [(lvC t1 t11 t5).2.2.2.2.2.2.1 eo]
    unfold gX7_goesOnTrying
    rw [if_pos g00, c00]
    by_cases z : I 25 0 = 3
    · rw [if_pos z, if_pos z, ob_some]
      try dsimp only
      rw [if_pos rfl]
    · rw [if_neg z, if_neg z, ob_some, if_pos t1, g8, e8, if_pos (by rfl)]
      generalize gX7_settleLast σ I R (some (fc t)) = y
      cases y with
      | none => rfl
      | some r =>
        rw [ob_some, ob_some, ob_some]
        try dsimp only
        rw [if_pos rfl]
  by_cases w : I 25 0 = 0
  · -- over as it should
    have hx : E t 3 = E t 4 := md.resolve_left (fun z => z w)
    obtain ⟨y1, y2, y3, y4, -⟩ := pcE hb h hp w hx
    obtain ⟨y4, y5⟩ := y4 (by omega)
    rw [if_neg (by rw [w]; decide), sl, if_pos w, ob_some] at eC
    have e : Int32.ofInt ((t + 1 : Nat) : Int) - 1 = Int32.ofInt (t : Nat) := by rw [i_subl]; congr 1; omega
    have g : ¬ (Int32.ofInt (t : Int) < 0 ∨ 400 ≤ Int32.toNatClampNeg (Int32.ofInt (t : Int))) := by rw [i_gd (by omega)]; exact id
    have gp : ¬ (Int32.ofInt (t : Int) < 0 ∨ 400 ≤ t) := by rw [i_ltl (by omega)]; omega
    have zz : I' 143 t = 18 := by rw [m3, e8]; rfl
    obtain ⟨I1', e1⟩ : ∃ I1', u2 (u2 (u2 (u2 (u2 (u2 (u2 (u2 I' 114 42 (Int32.ofInt (t : Nat))) 114 58 (Int32.ofInt ((E t 4 + 1 : Nat) : Int))) 114 59 (I' 148 t)) 114 60 (I' 149 t)) 114 61 (I' 150 t)) 114 62 (I' 151 t)) 114 63 (I' 152 t)) 114 64 (I' 153 t) = I1' := ⟨_, rfl⟩
    have em : ∀ f, gX12_run_l95 σ' R' (f + 1) I' J' = gX12_run_l95 σ' R' f I1' J' := fun f => by
      refine hmC (by omega) h.1.2.2 hb t6 y5 t10 y3 y1 y2 y4 ?_
      unfold gX12_close
      rw [t10, e, if_pos g, t41 (by omega), gbN (by omega) m3 (by omega), ob_some]
      try dsimp only
      rw [t10, e, if_neg (by rw [zz]; decide), if_neg (by rw [zz]; decide), if_pos zz, u2n (by omega), y2, iadd1]
      simp (disch := omega) only [u2n, u2s, if_pos gp]
      rw [e1]
    have b : Ag [(1000042, 1000043), (1000057, 1000065)] I' I1' := by rw [← e1]; exact Ag.st (Ag.st (Ag.st (Ag.st (Ag.st (Ag.st (Ag.st (Ag.st Ag.rf rfl) rfl) rfl) rfl) rfl) rfl) rfl) rfl
    have s6 : ∀ k, k < 6 → skp I (fc t) 6 25 k = V t (20 + k) := fun k hk => by rw [skp_s 6 hk]; exact wt k hk
    refine lvTp hb h eo (Ag_skp 6) b (by rw [← e1]; simp (disch := omega) only [u2n, u2s]) ?_ ?_ eC em
    · unfold Wy
      have x0 : I1' 114 59 = I' 148 t := by rw [← e1]; simp (disch := omega) only [u2n, u2s]
      have x1 : I1' 114 60 = I' 149 t := by rw [← e1]; simp (disch := omega) only [u2n, u2s]
      have x2 : I1' 114 61 = I' 150 t := by rw [← e1]; simp (disch := omega) only [u2n, u2s]
      have x3 : I1' 114 62 = I' 151 t := by rw [← e1]; simp (disch := omega) only [u2n, u2s]
      have x4 : I1' 114 63 = I' 152 t := by rw [← e1]; simp (disch := omega) only [u2n, u2s]
      have x5 : I1' 114 64 = I' 153 t := by rw [← e1]; simp (disch := omega) only [u2n, u2s]
      rw [s6 0 (by omega), s6 1 (by omega), s6 2 (by omega), s6 3 (by omega), s6 4 (by omega), s6 5 (by omega), x0, x1, x2, x3, x4, x5]
      exact wr
    · refine PcT (pc := E t 4 + 1) h eo hq ?_ ?_ (ch0.up.sn (Or.inr ⟨rfl, k18⟩) c6) (by omega) (wf.ok (by omega) (Or.inr (Or.inr ⟨E t 12, ?_, ?_, ?_⟩)))
      · rw [← e1]; simp (disch := omega) only [u2n, u2s]; exact y1
      · rw [← e1]; simp (disch := omega) only [u2n, u2s]
      · rw [Nat.add_sub_cancel]; exact c6
      · rw [k18]; decide
      · rw [k18]; decide
  · -- on another way
    obtain ⟨I0', e0, -, -, un⟩ := unT (σ' := σ') (R' := R') hb h eo w
    have un := un e8
    have b0 : Ag [(1000042, 1000043)] I' I0' := by rw [e0]; exact Ag.st Ag.rf rfl
    have w59 : I0' 114 59 = I 25 0 := by rw [b0 114 59 rfl]; exact w'
    have em : ∀ f, gX12_run_l95 σ' R' (f + 1) I' J' = gX12_run_l95 σ' R' f _ J' := fun f => hmU (by omega) t10 (by rw [w']; exact w) un
    have bb : Ag [(1000042, 1000043), (1000063, 1000064)] I' (u2 I0' 114 63 (if I0' 114 59 = 1 ∧ I0' 148 t = 1 then I0' 149 t else I0' 114 63)) := Ag.st (b0.mv rfl) rfl
    have z42 : u2 I0' 114 63 (if I0' 114 59 = 1 ∧ I0' 148 t = 1 then I0' 149 t else I0' 114 63) 114 42 = Int32.ofInt (t : Nat) := by rw [u2n (by omega), e0, u2_self]
    have v20 : I (fc t + 1) 0 = V t 20 := wt 0 (by omega)
    have v21 : I (fc t + 1) 1 = V t 21 := wt 1 (by omega)
    have w148 : I0' 148 t = V t 20 := by rw [b0 148 t rfl]; exact wr.1
    by_cases c : I 25 0 = 1 ∧ V t 20 = 1
    · have q1 : I0' 149 t = V t 21 := by rw [b0 149 t rfl]; exact (wr.2.2.1 c.2).1.symm
      rw [if_neg (by rw [c.1]; decide), sl, if_neg w, if_pos c.1, if_pos (by rw [v20]; exact c.2), ob_some, v21] at eC
      rw [if_pos ⟨by rw [w59]; exact c.1, by rw [w148]; exact c.2⟩, q1] at em bb z42
      refine lvTp hb h eo (Ag.st Ag.rf rfl) (bb.mv rfl) z42 ?_ (fun z hz y => ?_) eC em
      · obtain ⟨k1, k2, k3, k4⟩ := wy
        have := k3 c.1
        unfold Wy WyR
        have x : ∀ k, k ≠ 4 → u2 I 25 4 (V t 21) 25 k = I 25 k := fun k hk => u2n (by omega)
        rw [x 0 (by decide), x 1 (by decide), x 2 (by decide), x 3 (by decide), u2_self I, x 5 (by decide), bb 114 59 rfl, bb 114 60 rfl, bb 114 61 rfl, bb 114 62 rfl, u2_self I0', bb 114 64 rfl]
        exact ⟨k1, k2, fun _ => ⟨this.1, this.2.1, this.2.2.1, rfl⟩, k4⟩
      · rw [u2n (by omega), c.1] at y
        exact absurd y (by decide)
    · have eC2 : gX7_leave σ I J R (some (fc t)) = gX7_leave_b169 σ I J R (some (fc t)) := by
        rw [eC]
        by_cases z : I 25 0 = 3
        · rw [if_pos z]
        · rw [if_neg z, sl, if_neg w]
          by_cases z1 : I 25 0 = 1
          · rw [if_pos z1, if_neg (by rw [v20]; exact fun y => c ⟨z1, y⟩), ob_some]
          · rw [if_neg z1, ob_some]
      rw [if_neg (by rw [w59, w148]; exact c)] at em bb z42
      refine lvTp hb h eo Ag.rf (bb.mv rfl) z42 ?_ (fun z hz y => absurd y w) eC2 em
      have x63 : u2 I0' 114 63 (I0' 114 63) 114 63 = I' 114 63 := by rw [u2_self, b0 114 63 rfl]
      unfold Wy at wy ⊢
      rw [bb 114 59 rfl, bb 114 60 rfl, bb 114 61 rfl, bb 114 62 rfl, x63, bb 114 64 rfl]
      exact wy
