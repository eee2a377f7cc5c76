/-! ===== a run: bodies ===== -/
/-- a body is entered, both sides -/
theorem pushB {n O : Nat → Nat} {A : Nat → Nat → Int32} {vd : Nat → Int32} {G : Nat → Nat → Nat} {N : Nat → Nat → Int32} {nb sb : Nat} {σ : Shp} {I : Nat → Nat → Int32} {J : Nat → Nat → Int64} {R : Nat → Nat → Option Nat} {I' : Nat → Nat → Int32} {J' : Nat → Nat → Int64} {fc : Nat → Nat} {E : Nat → Nat → Nat} {V : Nat → Nat → Int32} {t st ch x o : Nat} (hb : PlB n O) (h : Core n O A vd G N nb sb σ I J R I' J' fc E V (t + 1) st ch) (hg : Bg n O nb sb σ I I' E t st ch x) (eo : op O (E t 1) x = o) (ho : 11 ≤ o) (r1 : o = 11 ∨ o = 13 → Rn (A 0 (40 * E t 1 + x)) 0 2) (r2 : o = 12 → Rn (A 0 (40 * E t 1 + x)) 0 5) : ∃ σ1 R1 I2 I2' fc1 E1 V1, gX7_enterBody σ I R (Int32.ofInt (o : Nat)) (Int32.ofInt (E t 1 : Nat)) (I 5 7) = some (σ1, I2, R1) ∧ gX12_push I' (Int32.ofInt (o : Nat)) = some I2' ∧ Core n O A vd G N nb sb σ1 I2 J R1 I2' J' fc1 E1 V1 (t + 2) st ch ∧ (E1 (t + 1) 1 = E t 1 ∧ E1 (t + 1) 3 = x + 1 ∧ E1 (t + 1) 15 = E t 15 + (if o = 12 then 1 else 0)) ∧ Ag [(5, 6), (202, 1000000)] I I2 ∧ (∀ f, f ≠ 6 → I2 5 f = I 5 f) ∧ Ag [(143, 148), (1000042, 1000043)] I' I2' ∧ Ag [(24, 25), (202, 1000000)] R R1 := by
  have hn := h.hn
  obtain ⟨⟨q1, q2, q3⟩, -, -, -, -, -⟩ := pfC hb h hg
  have fr := h.2.2.2.2.1 t (Nat.lt_succ_self t)
  obtain ⟨C, -, -, -, -, h17, h54, h640, -⟩ := id h.2.1
  have cl1 := h.2.2.2.1.1
  have d42 : I' 114 42 = Int32.ofInt ((t + 1 : Nat) : Int) := h.2.2.2.2.2.1.2.2.2.2.1
  have t16 := t159 fr.1
  obtain ⟨⟨g1, g2, g3, g4⟩, ⟨g5, g6⟩, g7, g8, ⟨g9, g10, g11, g12⟩, g13, g14, g15⟩ := hg
  rw [eo] at g7 g8 g9 g10 g11 g12
  have mt := g8 ho
  have mt1 := mt.1
  obtain ⟨F1, F2, F3, F4⟩ := fr
  have L := lvl F1
  obtain ⟨a1, a2, a3, a4, a5, a6, a7, a8, a9, a10, a11, a12⟩ := F1
  obtain ⟨σ1, R1, c, n0, n1, n2, n3, n4, n5, n6⟩ := newT (I := I) (d := t + 1) (ch := ch) h.2.2.1.1 h.2.2.1.2.1 cl1 t16 h17
  have cg := n3.1 (t + 1) c t16 n1
  have c1 : 202 ≤ c ∧ c < 1000000 := by
    rcases n6 with ⟨rfl, -⟩ | ⟨rfl, -, rfl⟩
    · omega
    · omega
  obtain ⟨I2, e2⟩ : ∃ I2, u2 (u2 (u2 (u2 (u2 (u2 (u2 (u2 (nT I c (t + 1) ch) c 0 (Int32.ofInt (o : Nat))) c 1 (Int32.ofInt (E t 1 : Nat))) c 2 (Int32.ofInt (x : Nat))) c 3 (Int32.ofInt ((x + 1 : Nat) : Int))) c 4 (Int32.ofInt ((E t 3 - 1 : Nat) : Int))) c 5 (A 0 (40 * E t 1 + x))) c 6 (A 1 (40 * E t 1 + x))) c 7 (A 2 (40 * E t 1 + x)) = I2 := ⟨_, rfl⟩
  obtain ⟨I2', e2'⟩ : ∃ I2', puM I' (t + 1) (Int32.ofInt (o : Nat)) ch = I2' := ⟨_, rfl⟩
  have hI : ∀ k, inW [(5, 6), (202, 1000000)] (key c k) = true := fun k => inF c1.1 c1.2 (by decide)
  have aI : Ag [(5, 6), (202, 1000000)] I I2 := by
    rw [← e2]
    exact Ag.st (Ag.st (Ag.st (Ag.st (Ag.st (Ag.st (Ag.st (Ag.st (Ag.st (Ag.st (Ag.st (Ag.st (Ag.st Ag.rf rfl) (hI _)) (hI _)) (hI _)) (hI _)) (hI _)) (hI _)) (hI _)) (hI _)) (hI _)) (hI _)) (hI _)) (hI _)
  have bI : Ag [(143, 148), (1000042, 1000043)] I' I2' := by
    rw [← e2']
    exact Ag.st (Ag.st (Ag.st (Ag.st (Ag.st (Ag.st Ag.rf rfl) rfl) rfl) rfl) rfl) rfl
  have i5 : ∀ f, f ≠ 6 → I2 5 f = I 5 f := fun f g1 => by rw [← e2]; unfold nT; simp (disch := omega) only [u2n, u2s]
  have m5 : ∀ f, f ≠ 42 → I2' 114 f = I' 114 f := fun f g1 => by rw [← e2']; unfold puM; simp (disch := omega) only [u2n, u2s]
  generalize el : [o, E t 1, x, x + 1, E t 3 - 1, 0, 0, 0, 0, 0, ch, 0, x, E t 13 + 1, E t 14, E t 15 + (if o = 12 then 1 else 0), x + 1] = l
  have l0 : mkE E (t + 1) l (t + 1) 0 = o := by rw [mkE_t, ← el]; rfl
  have l1 : mkE E (t + 1) l (t + 1) 1 = E t 1 := by rw [mkE_t, ← el]; rfl
  have l2 : mkE E (t + 1) l (t + 1) 2 = x := by rw [mkE_t, ← el]; rfl
  have l3 : mkE E (t + 1) l (t + 1) 3 = x + 1 := by rw [mkE_t, ← el]; rfl
  have l4 : mkE E (t + 1) l (t + 1) 4 = E t 3 - 1 := by rw [mkE_t, ← el]; rfl
  have l8 : mkE E (t + 1) l (t + 1) 8 = 0 := by rw [mkE_t, ← el]; rfl
  have l10 : mkE E (t + 1) l (t + 1) 10 = ch := by rw [mkE_t, ← el]; rfl
  have l12 : mkE E (t + 1) l (t + 1) 12 = x := by rw [mkE_t, ← el]; rfl
  have l13 : mkE E (t + 1) l (t + 1) 13 = E t 13 + 1 := by rw [mkE_t, ← el]; rfl
  have l14 : mkE E (t + 1) l (t + 1) 14 = E t 14 := by rw [mkE_t, ← el]; rfl
  have l15 : mkE E (t + 1) l (t + 1) 15 = E t 15 + (if o = 12 then 1 else 0) := by rw [mkE_t, ← el]; rfl
  have l16 : mkE E (t + 1) l (t + 1) 16 = x + 1 := by rw [mkE_t, ← el]; rfl
  have ep : mkE E (t + 1) l (t + 1 - 1) = E t := mkE_o (by omega)
  have v : ∀ f, f < 20 → mkV V (t + 1) c I2 (t + 1) f = I2 c f := fun f hf => by unfold mkV; rw [if_pos rfl, if_neg (by omega)]
  have v5 : mkV V (t + 1) c I2 (t + 1) 5 = A 0 (40 * E t 1 + x) := by rw [v 5 (by omega), ← e2]; simp (disch := omega) only [u2n, u2s]
  have v6 : mkV V (t + 1) c I2 (t + 1) 6 = A 1 (40 * E t 1 + x) := by rw [v 6 (by omega), ← e2]; simp (disch := omega) only [u2n, u2s]
  have v7 : mkV V (t + 1) c I2 (t + 1) 7 = A 2 (40 * E t 1 + x) := by rw [v 7 (by omega), ← e2]; simp (disch := omega) only [u2n, u2s]
  have v9 : mkV V (t + 1) c I2 (t + 1) 9 = 1 := by rw [v 9 (by omega), ← e2]; unfold nT; simp (disch := omega) only [u2n, u2s]
  have P := h.push (c := c) (σ1 := σ1) (R1 := R1) (I2 := I2) (I2' := I2') (l := l) t16 ⟨g14, g15⟩ n1 n2 n3 n4 n5 n6 aI
    (fun q g1 g2 => by
      funext k
      rw [← e2]
      unfold nT
      simp (disch := omega) only [u2n, u2s])
    (by rw [← e2]; unfold nT; simp (disch := omega) only [u2n, u2s])
    (by
      rw [← el]
      show I2 c 0 = Int32.ofInt (o : Nat) ∧ I2 c 1 = Int32.ofInt (E t 1 : Nat) ∧ I2 c 2 = Int32.ofInt (x : Nat) ∧ I2 c 3 = Int32.ofInt ((x + 1 : Nat) : Int) ∧ I2 c 4 = Int32.ofInt ((E t 3 - 1 : Nat) : Int) ∧ I2 c 8 = Int32.ofInt ((0 : Nat) : Int) ∧ I2 c 10 = Int32.ofInt (ch : Nat)
      rw [← e2]
      unfold nT
      refine ⟨?_, ?_, ?_, ?_, ?_, ?_, ?_⟩
      · simp (disch := omega) only [u2n, u2s]
      · simp (disch := omega) only [u2n, u2s]
      · simp (disch := omega) only [u2n, u2s]
      · simp (disch := omega) only [u2n, u2s]
      · simp (disch := omega) only [u2n, u2s]
      · simp (disch := omega) only [u2n, u2s]; rfl
      · simp (disch := omega) only [u2n, u2s])
    (bI.mv rfl)
    (fun q j g1 g2 g3 => by rw [← e2']; unfold puM; simp (disch := omega) only [u2n, u2s])
    (by
      unfold RSa
      rw [l1, l3, l4, l8, l10, l13, l14, l16]
      exact ⟨a1, mt.bd, Nat.le_refl _, by omega, dq_1 _ (Nat.le_refl _), by omega, fun q => by omega, by omega, by omega, a10, h640, by omega⟩)
    (by
      unfold RSb
      rw [l0, l1, l2, l4, l8, l12, l13, l14, l15, l16, ep, v5, v6, v7]
      exact Or.inr (Or.inr ⟨⟨ho, g12, g10, g11⟩, by omega, rfl, rfl, eo, by omega, mt, mt, rfl, rfl, ⟨rfl, rfl, rfl, r1, r2⟩, fun _ => rfl, fun _ => Or.inl ⟨rfl, rfl⟩, g5, rfl⟩))
    (by
      unfold RMo
      rw [l0, l1, l8, l10, l12, v9, if_neg (show ¬ o = 10 by omega), if_neg (show ¬ o = 10 by omega)]
      refine ⟨?_, ?_, ?_, fun q => ?_, fun q => ?_, fun q => by omega, fun q => by omega⟩
      · have : (if o = 16 then 16 + 0 else o) = o := by split <;> omega
        rw [this, ← e2']; unfold puM; simp (disch := omega) only [u2n, u2s]
      · rw [← e2']; unfold puM; simp (disch := omega) only [u2n, u2s]; exact g3
      · rw [← e2']; unfold puM; simp (disch := omega) only [u2n, u2s]; exact g4
      · rw [← e2']; unfold puM; simp (disch := omega) only [u2n, u2s]
      · rw [← e2']; unfold puM; simp (disch := omega) only [u2n, u2s])
    (by
      unfold RPf
      rw [l1]
      exact F4)
    (by
      obtain ⟨c1', c2', c3', c4', c5', c6'⟩ := h.2.2.2.2.2.1
      unfold Cnt
      rw [i5 9 (by decide), i5 8 (by decide), i5 10 (by decide), i5 11 (by decide), i5 12 (by decide), i5 13 (by decide), aI 4 13 rfl, aI 7 1 rfl, m5 65 (by decide), m5 66 (by decide), m5 67 (by decide), m5 68 (by decide), m5 69 (by decide), m5 70 (by decide), m5 1 (by decide), m5 24 (by decide)]
      refine ⟨c1', fun q hq => ?_, c3', fun k hk => by rw [aI 19 k rfl, aI 20 k rfl, bI 140 k rfl, bI 141 k rfl]; exact c4' k hk, ?_, c6'.1, c6'.2.1, fun k hk => by rw [aI 8 k rfl, bI 129 k rfl]; exact c6'.2.2 k hk⟩
      · obtain rfl : q = t + 1 := by omega
        rw [l14, l15]
        refine ⟨(c2' t rfl).1, (c2' t rfl).2.1, ?_⟩
        split <;> omega
      · rw [← e2']; unfold puM; simp (disch := omega) only [u2n, u2s])
  refine ⟨σ1, R1, I2, I2', _, _, _, ?_, ?_, P, ⟨l1, l3, l15⟩, aI, i5, bI, ?_⟩
  · unfold gX7_enterBody
    rw [n0, ob_some]
    try dsimp only
    unfold gX7_enterBody_b4
    rw [onl_s, if_pos n2]
    try dsimp only
    have plc : ∀ K : Nat → Nat → Int32, (∀ q k, 10 ≤ q → q < 16 → K q k = I q k) → gX6_endAt K (Int32.ofInt (E t 1 : Nat)) (Int32.ofInt (x : Nat)) = some (Int32.ofInt ((E t 3 - 1 : Nat) : Int)) ∧ gX6_aAt K (Int32.ofInt (E t 1 : Nat)) (Int32.ofInt (x : Nat)) = some (A 0 (40 * E t 1 + x)) ∧ gX6_bAt K (Int32.ofInt (E t 1 : Nat)) (Int32.ofInt (x : Nat)) = some (A 1 (40 * E t 1 + x)) ∧ gX6_cAt K (Int32.ofInt (E t 1 : Nat)) (Int32.ofInt (x : Nat)) = some (A 2 (40 * E t 1 + x)) := fun K hK => by
      have pk : PlC n O A K := h.1.1.kp (fun q k hq => hK q k (by
        obtain ⟨w, w1, w2, w3⟩ := inW_iff.mp hq
        rw [List.mem_singleton] at w1
        subst w1
        unfold key at w2 w3
        split at w2
        · rename_i z; rw [if_pos z] at w3; dsimp only at w3; omega
        · split at w2
          · rename_i z1 z; rw [if_neg z1, if_pos z] at w3; dsimp only at w3; omega
          · exact w2) (by
        obtain ⟨w, w1, w2, w3⟩ := inW_iff.mp hq
        rw [List.mem_singleton] at w1
        subst w1
        unfold key at w2 w3
        split at w3
        · dsimp only at w3; omega
        · split at w3
          · dsimp only at w3; omega
          · dsimp only at w3; omega))
      have dk : PBd (op O (E t 1)) (n (E t 1)) (fun q => K 15 (40 * E t 1 + q)) := by
        have e : (fun q => K 15 (40 * E t 1 + q)) = fun q => I 15 (40 * E t 1 + q) := by
          funext q
          exact hK 15 _ (by omega) (by omega)
        rw [e]
        exact F4.2.2
      exact ⟨eC pk hb a1 q2 dk mt, aC pk hb a1 q2, bC pk hb a1 q2, cC' pk hb a1 q2⟩
    rw [g2, iadd1]
    rw [(plc _ (fun q k h1 h2 => by unfold nT; simp (disch := omega) only [u2n, u2s])).1, ob_some]
    try dsimp only
    rw [(plc _ (fun q k h1 h2 => by unfold nT; simp (disch := omega) only [u2n, u2s])).2.1, ob_some]
    try dsimp only
    rw [(plc _ (fun q k h1 h2 => by unfold nT; simp (disch := omega) only [u2n, u2s])).2.2.1, ob_some]
    try dsimp only
    rw [(plc _ (fun q k h1 h2 => by unfold nT; simp (disch := omega) only [u2n, u2s])).2.2.2, ob_some, e2]
  · rw [puI d42 (by omega) h54, e2']
  · rcases n6 with ⟨-, rfl⟩ | ⟨-, rfl, -⟩
    · exact Ag.rf
    · exact Ag.st (Ag.st Ag.rf (inF c1.1 c1.2 (by decide))) rfl
/-- the end of entering -/
theorem stE {n O : Nat → Nat} {A : Nat → Nat → Int32} {vd : Nat → Int32} {G : Nat → Nat → Nat} {N : Nat → Nat → Int32} {nb sb : Nat} {σ : Shp} {I : Nat → Nat → Int32} {J : Nat → Nat → Int64} {R : Nat → Nat → Option Nat} {I' : Nat → Nat → Int32} {J' : Nat → Nat → Int64} {fc : Nat → Nat} {E : Nat → Nat → Nat} {V : Nat → Nat → Int32} {σ' : Shp} {R' : Nat → Nat → Option Nat} {t st ch x ch1 : Nat} {σ1 : Shp} {I1 I1' : Nat → Nat → Int32} {J1 J1' : Nat → Nat → Int64} {R1 : Nat → Nat → Option Nat} {fc1 : Nat → Nat} {E1 : Nat → Nat → Nat} {V1 : Nat → Nat → Int32} (hg : Bg n O nb sb σ I I' E t st ch x) (h : Core n O A vd G N nb sb σ1 I1 J1 R1 I1' J1' fc1 E1 V1 (t + 2) st ch1) (l1 : E1 (t + 1) 1 = E t 1) (l3 : E1 (t + 1) 3 = x + 1) (m1 : I1' 114 57 = I' 114 57) (m2 : I1' 114 58 = I' 114 58) (aI : Ag WRc I I1) (aJ : Ag WRc J J1) (aR : Ag WRc R R1) (bI : Ag WRm I' I1') (bJ : Ag WRm J' J1') (e1 : gX7_perform σ I J R (Int32.ofInt (E t 1 : Nat)) (Int32.ofInt (op O (E t 1) x : Nat)) (A 0 (40 * E t 1 + x)) = some (σ1, I1, J1, R1)) (e2 : bg2 σ' I' J' R' (Int32.ofInt (op O (E t 1) x : Nat)) = some (u2 I1' 114 58 (I1' 114 58 + 1), J1')) : StOk n O A vd G N nb sb σ' R' σ I J R I' J' E t st x := by
  obtain ⟨⟨b1, b2, b3, b4⟩, ⟨b5, b6⟩, b7, b8, ⟨b9, -⟩, -⟩ := hg
  have b : Ag [(1000058, 1000059)] I1' (u2 I1' 114 58 (I1' 114 58 + 1)) := Ag.st Ag.rf rfl
  have fr := h.2.2.2.2.1 (t + 1) (Nat.lt_succ_self _)
  have wf := fr.2.2.2.2.1
  have le := fr.1
  refine ⟨σ1, I1, J1, R1, _, J1', fc1, E1, V1, t + 2, ch1, e1, e2, h.kp2 Ag.rf (b.mv rfl) rfl (h.2.2.2.2.2.1.ka Ag.rf (b.mv rfl)) ?_ (Nat.le_refl _), ?_, Nat.le_refl _, aI, aJ, aR, bI.tr (b.mv rfl), bJ⟩
  · have := h.2.2.2.2.2.2
    unfold Wy at this ⊢
    rw [b 114 59 rfl, b 114 60 rfl, b 114 61 rfl, b 114 62 rfl, b 114 63 rfl, b 114 64 rfl]
    exact this
  · intro q hq _
    obtain rfl : q = t + 1 := by omega
    obtain ⟨-, -, -, z1, -, z2, -⟩ := le
    rw [l1] at wf z2 ⊢
    refine ⟨by rw [b 114 57 rfl, m1, b3], x + 1, 0, by rw [u2_self, m2, b4, iadd1], l3, by omega, ?_⟩
    refine wf.ok (by omega) (Or.inr (Or.inl ?_))
    rw [Nat.add_sub_cancel]; exact b9
