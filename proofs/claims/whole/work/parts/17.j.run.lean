/-! ===== a run: plans are looked over; frames are pushed ===== -/
theorem Core.fw {n O : Nat → Nat} {A : Nat → Nat → Int32} {vd : Nat → Int32} {G : Nat → Nat → Nat} {N : Nat → Nat → Int32} {nb sb : Nat} {σ : Shp} {I : Nat → Nat → Int32} {J : Nat → Nat → Int64} {R : Nat → Nat → Option Nat} {I' : Nat → Nat → Int32} {J' : Nat → Nat → Int64} {fc : Nat → Nat} {E : Nat → Nat → Nat} {V : Nat → Nat → Int32} {σ' : Shp} {R' : Nat → Nat → Option Nat} {d st ch a : Nat} (hb : PlB n O) (h : Core n O A vd G N nb sb σ I J R I' J' fc E V d st ch) (hv : Vd n O A a (vd a)) : ∃ I1 I1', gX6_firstWrong σ I R (Int32.ofInt a) = some (I1, vd a) ∧ gX12_wrong σ' I' R' (Int32.ofInt a) = some (I1', vd a) ∧ Core n O A vd G N nb sb σ I1 J R I1' J' fc E V d st ch ∧ Ag [(15, 17)] I I1 ∧ Ag [(142, 143)] I' I1' ∧ (vd a = -1 → PWf (op O a) (n a) ∧ PBd (op O a) (n a) (fun q => I1 15 (40 * a + q))) := by
  have hn := h.hn
  obtain ⟨⟨p1, p2, p3⟩, s, ⟨k1, k2, k3⟩, cl, fr, c, w⟩ := h
  obtain ⟨I1, a1, a2, a3, a4⟩ := hv.1 σ R I p1 p2
  obtain ⟨I1', b1, b2⟩ := hv.2 σ' R' I' p3
  refine ⟨I1, I1', a1, b1, ⟨⟨p1.kp (a2.kp rfl), p2.kp (a2.kp rfl), p3.kp (b2.kp rfl)⟩, ?_, ⟨k1, k2, k3⟩, cl.kp k2 (a2 5 6 rfl) (fun q h1 h2 => a2.far rfl q h1 (by omega)) (fun _ _ => rfl), fun j hj => ?_, ?_, ?_⟩, a2, b2, a3⟩
  · exact (s.kpC ⟨hn.1, by omega⟩ (a2 4 12 rfl) (fun q h1 h2 _ => a2.far rfl q h1 h2) (a2 17 6 rfl) (a2.at1 22 (by decide) (by decide) rfl)).kpM (b2.kp rfl)
  · obtain ⟨f1, f2, f3, f4⟩ := fr j hj
    have f5 : Frm n O A vd I I1' E V j := Frm.kp ⟨f1, f2, f3, f4⟩ rfl rfl rfl rfl (fun q h1 h2 => b2 q j (by
      rw [key_o (by omega) (by omega)]
      exact disW_no (C := [(143, 154)]) rfl (inW_iff.mpr ⟨(143, 154), List.mem_singleton.mpr rfl, h1, by omega⟩)))
    refine ⟨f5.1, f5.2.1, f5.2.2.1, f4.1, f4.2.1, ?_⟩
    by_cases e : E j 1 = a
    · rw [e]
      exact (a3 (by rw [← e]; exact f4.1)).2
    · intro q hq h11
      obtain ⟨e', y1, y2, y3⟩ := f4.2.2 q hq h11
      refine ⟨e', y1, ?_, y3⟩
      have := f1.1
      have := hb.1 _ f1.1
      show I1 15 (40 * E j 1 + q) = _
      rw [a4 (40 * E j 1 + q) (by omega)]
      exact y2
  · obtain ⟨c1, c2, c3, c4, c5, c6⟩ := c
    unfold Cnt
    rw [a2 5 9 rfl, a2 5 8 rfl, a2 5 10 rfl, a2 5 11 rfl, a2 5 12 rfl, a2 5 13 rfl, a2 4 13 rfl, a2 7 1 rfl, b2 114 65 rfl, b2 114 66 rfl, b2 114 67 rfl, b2 114 68 rfl, b2 114 69 rfl, b2 114 70 rfl, b2 114 1 rfl, b2 114 42 rfl, b2 114 24 rfl]
    exact ⟨c1, c2, c3, fun k hk => by rw [a2 19 k rfl, a2 20 k rfl, b2 140 k rfl, b2 141 k rfl]; exact c4 k hk, c5, c6.1, c6.2.1, fun k hk => by rw [a2 8 k rfl, b2 129 k rfl]; exact c6.2.2 k hk⟩
  · unfold Wy at w ⊢
    rw [a2 25 0 rfl, a2 25 1 rfl, a2 25 2 rfl, a2 25 3 rfl, a2 25 4 rfl, a2 25 5 rfl, b2 114 59 rfl, b2 114 60 rfl, b2 114 61 rfl, b2 114 62 rfl, b2 114 63 rfl, b2 114 64 rfl]
    exact w
def mkE (E : Nat → Nat → Nat) (t : Nat) (l : List Nat) : Nat → Nat → Nat := fun j f => if j = t then l.getD f 0 else E j f
def mkV (V : Nat → Nat → Int32) (t c : Nat) (I : Nat → Nat → Int32) : Nat → Nat → Int32 := fun j f => if j = t then (if 20 ≤ f then I (c + 1) (f - 20) else I c f) else V j f
def mkC (fc : Nat → Nat) (t c : Nat) : Nat → Nat := fun j => if j = t then c else fc j
theorem mkE_o {E : Nat → Nat → Nat} {t j : Nat} {l : List Nat} (h : j ≠ t) : mkE E t l j = E j := by
  funext f
  exact if_neg h
theorem mkE_t {E : Nat → Nat → Nat} {t f : Nat} {l : List Nat} : mkE E t l t f = l.getD f 0 := if_pos rfl
theorem mkV_o {V : Nat → Nat → Int32} {t c j : Nat} {I : Nat → Nat → Int32} (h : j ≠ t) : mkV V t c I j = V j := by
  funext f
  exact if_neg h
/-- a frame is pushed -/
theorem Core.push {n O : Nat → Nat} {A : Nat → Nat → Int32} {vd : Nat → Int32} {G : Nat → Nat → Nat} {N : Nat → Nat → Int32} {nb sb : Nat} {σ : Shp} {I : Nat → Nat → Int32} {J : Nat → Nat → Int64} {R : Nat → Nat → Option Nat} {I' : Nat → Nat → Int32} {J' : Nat → Nat → Int64} {fc : Nat → Nat} {E : Nat → Nat → Nat} {V : Nat → Nat → Int32} {t st ch c : Nat} {σ1 : Shp} {R1 : Nat → Nat → Option Nat} {I2 I2' : Nat → Nat → Int32} {l : List Nat} (h : Core n O A vd G N nb sb σ I J R I' J' fc E V (t + 1) st ch) (h160 : t + 1 < 160) (rm : nxx σ + 2 ≤ nb + 2 * st ∧ slx σ + 19 ≤ sb + 19 * st)
    (n1 : R1 24 (t + 1) = some c) (n2 : kdx σ1 c = 4) (n3 : GFrm σ1 R1) (n4 : Skel σ1 R1) (n5 : ∀ j, j ≠ t + 1 → R1 24 j = R 24 j) (n6 : (σ1 = σ ∧ R1 = R) ∨ (σ1 = mkA (mkO σ 4 13) 20 6 ∧ R1 = u2 (u2 R c 12 (some (c + 1))) 24 (t + 1) (some c) ∧ c = nxx σ + 4))
    (a : Ag [(5, 6), (202, 1000000)] I I2) (ao : ∀ q, 202 ≤ q → q ≠ c → I2 q = I q) (e56 : I2 5 6 = Int32.ofInt ((t + 2 : Nat) : Int))
    (fE : I2 c 0 = Int32.ofInt (l.getD 0 0 : Nat) ∧ I2 c 1 = Int32.ofInt (l.getD 1 0 : Nat) ∧ I2 c 2 = Int32.ofInt (l.getD 2 0 : Nat) ∧ I2 c 3 = Int32.ofInt (l.getD 3 0 : Nat) ∧ I2 c 4 = Int32.ofInt (l.getD 4 0 : Nat) ∧ I2 c 8 = Int32.ofInt (l.getD 8 0 : Nat) ∧ I2 c 10 = Int32.ofInt (l.getD 10 0 : Nat))
    (b : Ag [(143, 148), (1000042, 1000043), (1000057, 1000059), (1000066, 1000067)] I' I2') (bo : ∀ q j, 143 ≤ q → q ≤ 153 → j ≤ t → I2' q j = I' q j)
    (fS : RSa n O (mkE E (t + 1) l) (t + 1)) (fB : RSb O A (mkE E (t + 1) l) (mkV V (t + 1) c I2) (t + 1)) (fM : RMo I2' (mkE E (t + 1) l) (mkV V (t + 1) c I2) (t + 1)) (fP : RPf n O vd I (mkE E (t + 1) l) (t + 1))
    (cc : Cnt I2 I2' (mkE E (t + 1) l) (t + 2) st ch) : Core n O A vd G N nb sb σ1 I2 J R1 I2' J' (mkC fc (t + 1) c) (mkE E (t + 1) l) (mkV V (t + 1) c I2) (t + 2) st ch := by
  have hn := h.hn
  obtain ⟨⟨p1, p2, p3⟩, s, ⟨k1, k2, k3, k4, k5⟩, cl, fr, c0, w⟩ := h
  have cg := n3.1 (t + 1) c h160 n1
  have sz : nxx σ1 ≤ nxx σ + 2 ∧ slx σ1 ≤ slx σ + 19 ∧ nxx σ ≤ nxx σ1 := by
    rcases n6 with ⟨rfl, -⟩ | ⟨rfl, -, -⟩
    · omega
    · rw [q_nA, q_nO, q_sA, q_sO]; omega
  refine ⟨⟨p1.kp (a.kp rfl), p2.kp (a.kp rfl), p3.kp (b.kp rfl)⟩, ?_, ⟨n4, n3, by omega, by omega, k5⟩, ?_, fun j hj => ?_, cc, ?_⟩
  · refine ((s.mk (d := t + 1) ⟨hn.1, by omega⟩ n6).kpC ⟨by omega, by omega⟩ (a 4 12 rfl) (fun q h1 h2 h3 => ao q h1 (fun e => by rw [e, n2] at h3; omega)) (a 17 6 rfl) (a.at1 22 (by decide) (by decide) rfl)).kpM (b.kp rfl)
  · refine ⟨e56, by omega, fun j hj => ?_⟩
    by_cases e : j = t + 1
    · subst e
      have ec : mkC fc (t + 1) c (t + 1) = c := if_pos rfl
      rw [ec]
      have v : ∀ f, f < 20 → mkV V (t + 1) c I2 (t + 1) f = I2 c f := fun f hf => by unfold mkV; rw [if_pos rfl, if_neg (by omega)]
      refine ⟨n1, ?_, ⟨(v 5 (by omega)).symm, (v 6 (by omega)).symm, (v 7 (by omega)).symm, (v 9 (by omega)).symm, (v 11 (by omega)).symm⟩, fun k hk => ?_⟩
      · rw [mkE_t, mkE_t, mkE_t, mkE_t, mkE_t, mkE_t, mkE_t]
        exact fE
      · unfold mkV
        rw [if_pos rfl, if_pos (by omega), Nat.add_sub_cancel_left]
    · have ec : mkC fc (t + 1) c j = fc j := if_neg e
      obtain ⟨h1, h2⟩ := cl.2.2 j (by omega)
      have gj := k2.1 j (fc j) (by omega) h1
      have r1 : R1 24 j = some (fc j) := by rw [n5 j e]; exact h1
      have ne : fc j ≠ c := fun q => e (n3.2 j (t + 1) c (by omega) h160 (by rw [r1, q]) n1)
      have ne2 : fc j + 1 ≠ c := fun q => by
        have := n2
        have gj1 := n3.1 j (fc j) (by omega) r1
        rw [← q, gj1.2.2.2.2.1] at this
        omega
      rw [ec]
      exact ⟨r1, h2.kp (ao _ (by omega) ne) (ao _ (by omega) ne2) (fun f => by rw [mkE_o e]) (fun f => by rw [mkV_o e])⟩
  · by_cases e : j = t + 1
    · subst e
      refine ⟨fS, fB, fM, fP.1, fP.2.1, ?_⟩
      rw [a.at1 15 (by decide) (by decide) rfl]
      exact fP.2.2
    · exact (fr j (by omega)).kp (mkE_o e) (mkE_o (by omega)) (mkV_o e) (a.at1 15 (by decide) (by decide) rfl) (fun q h1 h2 => bo q j h1 h2 (by omega))
  · unfold Wy at w ⊢
    rw [a 25 0 rfl, a 25 1 rfl, a 25 2 rfl, a 25 3 rfl, a 25 4 rfl, a 25 5 rfl, b 114 59 rfl, b 114 60 rfl, b 114 61 rfl, b 114 62 rfl, b 114 63 rfl, b 114 64 rfl]
    exact w
/-- the model pushes -/
def puM (I : Nat → Nat → Int32) (t : Nat) (o : Int32) (ch : Nat) : Nat → Nat → Int32 := u2 (u2 (u2 (u2 (u2 (u2 I 143 t o) 144 t (I 114 57)) 145 t (I 114 58)) 146 t (Int32.ofInt (ch : Int))) 147 t 1) 114 42 (Int32.ofInt ((t + 1 : Nat) : Int))
theorem puI {I : Nat → Nat → Int32} {t ch : Nat} {o : Int32} (h : I 114 42 = Int32.ofInt (t : Nat)) (ht : t < 400) (hc : I 114 54 = Int32.ofInt (ch : Nat)) : gX12_push I o = some (puM I t o ch) := by
  have g : ¬ (Int32.ofInt (t : Int) < 0 ∨ 400 ≤ Int32.toNatClampNeg (Int32.ofInt (t : Int))) := by rw [i_gd (by omega)]; exact id
  have gp : ¬ (Int32.ofInt (t : Int) < 0 ∨ 400 ≤ t) := by rw [i_ltl (by omega)]; omega
  unfold gX12_push puM
  try dsimp only
  simp (disch := omega) only [u2n, u2s, h, hc, t41, if_pos gp, iadd1]
