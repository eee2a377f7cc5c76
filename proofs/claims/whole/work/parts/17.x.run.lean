/-! ===== a run: TRY: a part is entered ===== -/
theorem lvPart {n O : Nat → Nat} {A : Nat → Nat → Int32} {vd : Nat → Int32} {G : Nat → Nat → Nat} {N : Nat → Nat → Int32} {nb sb : Nat} {σ : Shp} {I : Nat → Nat → Int32} {J : Nat → Nat → Int64} {R : Nat → Nat → Option Nat} {I' : Nat → Nat → Int32} {J' : Nat → Nat → Int64} {fc : Nat → Nat} {E : Nat → Nat → Nat} {V : Nat → Nat → Int32} {σ' : Shp} {R' : Nat → Nat → Option Nat} {t st ch s b e m q : Nat} {I1 I1' : Nat → Nat → Int32} {V1 : Nat → Nat → Int32} (hb : PlB n O) (h : Core n O A vd G N nb sb σ I J R I' J' fc E V (t + 1) st ch) (eo : E t 0 = 16) (hq : t = q + 1) (hs : s = 1 ∨ s = 2) (h8 : E t 8 < s) (hm : Ch (op O (E t 1)) 0 m (E q 3) b) (bn : b < n (E t 1)) (ob : op O (E t 1) b = 16 + s) (mt : Mt (op O (E t 1)) b e)
    (aI : Ag [(5, 6), (25, 26), (202, 1000000)] I I1) (ao : ∀ z, 202 ≤ z → z ≠ fc t → z ≠ fc t + 1 → I1 z = I z) (k56 : I1 5 6 = I 5 6) (f0 : ∀ f, f ≠ 3 → f ≠ 4 → f ≠ 8 → f ≠ 11 → I1 (fc t) f = I (fc t) f) (f8 : I1 (fc t) 8 = Int32.ofInt (s : Nat)) (f3 : I1 (fc t) 3 = Int32.ofInt ((b + 1 : Nat) : Int)) (f4 : I1 (fc t) 4 = Int32.ofInt (e : Nat)) (f11 : I1 (fc t) 11 = V1 t 11) (fw : ∀ k : Nat, k < 6 → I1 (fc t + 1) k = V1 t (20 + k)) (vf : ∀ f, f ≠ 11 → f < 20 → V1 t f = V t f) (vo : ∀ j f, j ≠ t → V1 j f = V j f)
    (aM : Ag [(143, 154), (1000042, 1000043), (1000057, 1000069)] I' I1') (bo : ∀ z j, 143 ≤ z → z ≤ 153 → j < t → I1' z j = I' z j) (m143 : I1' 143 t = Int32.ofInt ((16 + s : Nat) : Int)) (m144 : I1' 144 t = Int32.ofInt (E t 1 : Nat)) (m145 : I1' 145 t = Int32.ofInt (b : Nat)) (mx1 : s = 1 → I1' 149 t = V1 t 11) (mx2 : s = 2 → V1 t 20 ≠ 3 ∧ WyR (V1 t 20) (V1 t 21) (V1 t 22) (V1 t 23) (V1 t 24) (V1 t 25) (I1' 148 t) (I1' 149 t) (I1' 150 t) (I1' 151 t) (I1' 152 t) (I1' 153 t))
    (cc : Cnt I1 I1' E (t + 1) st ch) (w1 : I1 25 0 = 0) (w1' : I1' 114 59 = 0) (p57 : I1' 114 57 = Int32.ofInt (E t 1 : Nat)) (p58 : I1' 114 58 = Int32.ofInt ((b + 1 : Nat) : Int))
    (eC : gX7_leave σ I J R (some (fc t)) = some (I1, J, R)) (em : ∀ f, gX12_run_l95 σ' R' (f + 1) I' J' = gX12_run_l95 σ' R' f I1' J') : LvOk n O A vd G N nb sb σ' R' σ I J R I' J' fc E t st := by
  obtain ⟨t1, t2, t3, t4, t5, t6, t7, t8, t9, t10, t11, t12, t13, t14⟩ := h.tp hb
  have hnn := h.hn
  have hf := h.fc (Nat.lt_succ_self t)
  obtain ⟨P1, P2, P3, P4⟩ := h.pa (V1 := V1) hb eo hq hs hm bn ob mt (vf 5 (by decide) (by decide)) (vf 6 (by decide) (by decide)) (vf 7 (by decide) (by decide))
  obtain ⟨p8, p3, p4, p12, p16⟩ := paE_8 (E := E) (t := t) (s := s) (b := b) (e := e)
  have pf : ∀ f, f ≠ 8 ∧ f ≠ 3 ∧ f ≠ 4 ∧ f ≠ 12 ∧ f ≠ 16 → paE E t s b e t f = E t f := fun f hf => paE_f hf
  obtain ⟨⟨g0, g1, g2, g3, g4, g8, g10⟩, ⟨v5, v6, v7, v9, v11⟩, wt⟩ := (h.2.2.2.1.2.2 t (by omega)).2
  have P := h.topc (I1 := I1) (I1' := I1') (J1 := J) (J1' := J') (E1 := paE E t s b e) (V1 := V1) (st1 := st) (ch1 := ch)
    ((h.2.1.kpC ⟨hnn.1, by omega⟩ (aI 4 12 rfl) (fun z h1 h2 h3 => ao z h1 (fun e => by rw [e, t1] at h3; omega) (fun e => by rw [e, hf.2.2.2.2.2.1] at h3; omega)) (aI 17 6 rfl) (aI.at1 22 (by decide) (by decide) rfl)).kpM (aM.kp rfl)) (aI.mv rfl) ao k56 (fun j f hj => paE_o hj) vo
    (by
      refine ⟨⟨?_, ?_, ?_, ?_, ?_, ?_, ?_⟩, ⟨?_, ?_, ?_, ?_, f11⟩, fw⟩
      · rw [f0 0 (by decide) (by decide) (by decide) (by decide), pf 0 (by decide)]; exact g0
      · rw [f0 1 (by decide) (by decide) (by decide) (by decide), pf 1 (by decide)]; exact g1
      · rw [f0 2 (by decide) (by decide) (by decide) (by decide), pf 2 (by decide)]; exact g2
      · rw [f3, p3]
      · rw [f4, p4]
      · rw [f8, p8]
      · rw [f0 10 (by decide) (by decide) (by decide) (by decide), pf 10 (by decide)]; exact g10
      · rw [f0 5 (by decide) (by decide) (by decide) (by decide), vf 5 (by decide) (by decide)]; exact v5
      · rw [f0 6 (by decide) (by decide) (by decide) (by decide), vf 6 (by decide) (by decide)]; exact v6
      · rw [f0 7 (by decide) (by decide) (by decide) (by decide), vf 7 (by decide) (by decide)]; exact v7
      · rw [f0 9 (by decide) (by decide) (by decide) (by decide), vf 9 (by decide) (by decide)]; exact v9)
    (aM.mv rfl) bo
    ⟨P1, P2, by
      unfold RMo
      rw [pf 0 (by decide), p8, pf 1 (by decide), p12, if_pos eo, if_neg (show ¬ E t 0 = 10 by omega), if_neg (show ¬ E t 0 = 10 by omega)]
      exact ⟨m143, m144, m145, fun z => by omega, fun z => by omega, fun _ z => mx1 z, fun _ z => mx2 z⟩, P3⟩
    (by
      obtain ⟨d1, d2, d3⟩ := cc
      refine ⟨d1, fun z hz => ?_, d3⟩
      obtain rfl : z = t := by omega
      rw [pf 14 (by decide), pf 15 (by decide)]
      exact d2 z rfl)
    (by
      unfold Wy WyR
      rw [w1, w1']
      exact ⟨rfl, Or.inl rfl, fun z => absurd z (by decide), fun z => absurd z (by decide), fun z => absurd z (by decide)⟩) (Nat.le_refl _)
  refine ⟨I1, J, R, I1', J', _, _, t + 1, st, ch, eC, em, P, ?_, ?_, aI.mv rfl, Ag.rf, Ag.rf, aM.mv rfl, Ag.rf⟩
  · intro z hz _
    obtain rfl : z = t := by omega
    have wf := (h.2.2.2.2.1 z (Nat.lt_succ_self z)).2.2.2.2.1
    rw [pf 1 (by decide), p3]
    refine ⟨p57, b + 1, 0, p58, rfl, by omega, wf.ok (by omega) (Or.inr (Or.inl ?_))⟩
    rw [Nat.add_sub_cancel, ob]
    omega
  · unfold phi
    rw [if_neg (by omega), if_neg (by omega), Nat.add_sub_cancel, p8, p3]
    have : (2 - s) * 100 + 100 ≤ (2 - E t 8) * 100 := by
      have : 2 - s + 1 ≤ 2 - E t 8 := by omega
      omega
    omega
theorem Ag_wkp {W : List (Nat × Nat)} {f g : Nat → Nat → Int32} {c : Nat} (h : Ag W f g) (h1 : 202 ≤ c + 1) (h2 : c + 1 < 1000000) (hw : (202, 1000000) ∈ W) : ∀ k, Ag W f (wkp g c k) := by
  intro k
  induction k with
  | zero => exact h
  | succ k ih => exact Ag.st ih (inF h1 h2 hw)
/-- a LAST is entered -/
theorem lvLast {n O : Nat → Nat} {A : Nat → Nat → Int32} {vd : Nat → Int32} {G : Nat → Nat → Nat} {N : Nat → Nat → Int32} {nb sb : Nat} {σ : Shp} {I : Nat → Nat → Int32} {J : Nat → Nat → Int64} {R : Nat → Nat → Option Nat} {I' : Nat → Nat → Int32} {J' : Nat → Nat → Int64} {fc : Nat → Nat} {E : Nat → Nat → Nat} {V : Nat → Nat → Int32} {σ' : Shp} {R' : Nat → Nat → Option Nat} {t st ch b e m q : Nat} {Ia Ia' : Nat → Nat → Int32} (hb : PlB n O) (h : Core n O A vd G N nb sb σ I J R I' J' fc E V (t + 1) st ch) (eo : E t 0 = 16) (hq : t = q + 1) (h8 : E t 8 < 2) (hm : Ch (op O (E t 1)) 0 m (E q 3) b) (bn : b < n (E t 1)) (ob : op O (E t 1) b = 18) (mt : Mt (op O (E t 1)) b e) (aa : Ag [(25, 26)] I Ia) (ba : Ag [(1000042, 1000043), (1000063, 1000064)] I' Ia') (wy : Wy Ia Ia') (w3 : Ia 25 0 ≠ 3)
    (eC : gX7_leave σ I J R (some (fc t)) = some (u2 (u2 (u2 (u2 (wkp (u2 Ia 5 11 (Ia 5 11 + 1)) (fc t) 6) (fc t) 8 (Int32.ofInt ((2 : Nat) : Int))) (fc t) 3 (Int32.ofInt ((b + 1 : Nat) : Int))) (fc t) 4 (Int32.ofInt (e : Nat))) 25 0 0, J, R)) (em : ∀ f, gX12_run_l95 σ' R' (f + 1) I' J' = gX12_run_l95 σ' R' f (laM Ia' t (E t 1) b ch) J') : LvOk n O A vd G N nb sb σ' R' σ I J R I' J' fc E t st := by
  obtain ⟨t1, t2, t3, t4, t5, t6, t7, t8, t9, t10, t11, t12, t13, t14⟩ := h.tp hb
  have hI : ∀ k, inW [(5, 6), (25, 26), (202, 1000000)] (key (fc t) k) = true := fun k => inF t2 (by omega) (by decide)
  generalize eK : u2 Ia 5 11 (Ia 5 11 + 1) = K at eC
  have aK : Ag [(5, 6), (25, 26), (202, 1000000)] I K := by rw [← eK]; exact Ag.st (aa.mv rfl) rfl
  generalize eL : u2 (u2 (u2 (u2 (wkp K (fc t) 6) (fc t) 8 (Int32.ofInt ((2 : Nat) : Int))) (fc t) 3 (Int32.ofInt ((b + 1 : Nat) : Int))) (fc t) 4 (Int32.ofInt (e : Nat))) 25 0 0 = L at eC
  have aL : Ag [(5, 6), (25, 26), (202, 1000000)] I L := by
    rw [← eL]
    exact Ag.st (Ag.st (Ag.st (Ag.st (Ag_wkp aK (by omega) (by omega) (by decide) 6) (hI _)) (hI _)) (hI _)) rfl
  have K25 : ∀ k, K 25 k = Ia 25 k := fun k => by rw [← eK]; simp (disch := omega) only [u2n, u2s]
  have Lo : ∀ z k, z ≠ fc t → z ≠ fc t + 1 → z ≠ 25 → L z k = K z k := fun z k h1 h2 h3 => by rw [← eL]; simp (disch := omega) only [u2n, u2s]; rw [wkp_o h2 6]
  have Ko : ∀ z, 202 ≤ z → K z = Ia z := fun z hz => by funext k; rw [← eK]; simp (disch := omega) only [u2n, u2s]
  have Iao : ∀ z, 202 ≤ z → Ia z = I z := fun z hz => by
    funext k
    refine aa z k ?_
    rw [key_o (by omega) (by omega)]
    exact Bool.eq_false_iff.mpr (fun y => by
      obtain ⟨w, w1, w2, w3⟩ := inW_iff.mp y
      rw [List.mem_singleton] at w1
      subst w1
      dsimp only at w3
      omega)
  have L5 : ∀ f, f ≠ 11 → L 5 f = I 5 f := fun f hf => by rw [Lo 5 f (by omega) (by omega) (by omega), ← eK, u2n (by omega)]; exact aa 5 f rfl
  have L511 : L 5 11 = I 5 11 + 1 := by rw [Lo 5 11 (by omega) (by omega) (by omega), ← eK, u2_self, aa 5 11 rfl]
  have bL : Ag [(143, 154), (1000042, 1000043), (1000057, 1000069)] I' (laM Ia' t (E t 1) b ch) := by
    unfold laM puM
    exact Ag.st (Ag.st (Ag.st (Ag.st (Ag.st (Ag.st (Ag.st (Ag.st (Ag.st (Ag.st (Ag.st (Ag.st (Ag.st (Ag.st (Ag.st (Ag.st (Ag.st (ba.mv rfl) rfl) rfl) rfl) rfl) rfl) rfl) rfl) rfl) rfl) rfl) rfl) rfl) rfl) rfl) rfl) rfl) rfl
  refine lvPart (s := 2) (I1 := L) (I1' := laM Ia' t (E t 1) b ch) (V1 := fun j f => if j = t ∧ 20 ≤ f then Ia 25 (f - 20) else V j f) hb h eo hq (Or.inr rfl) h8 hm bn ob mt aL (fun z h1 h2 h3 => ?_) (L5 6 (by decide)) (fun f h1 h2 h3 h4 => ?_) ?_ ?_ ?_ ?_ (fun k hk => ?_) (fun f h1 h2 => if_neg (by omega)) (fun j f hj => if_neg (by omega)) bL (fun z j h1 h2 h3 => ?_) ?_ ?_ ?_ (fun z => by omega) (fun _ => ?_) ?_ ?_ ?_ ?_ ?_ eC em
  · funext k
    rw [Lo z k h2 h3 (by omega), Ko z h1, Iao z h1]
  · have := Iao (fc t) t2
    rw [← eL]
    simp (disch := omega) only [u2n, u2s]
    rw [wkp_o (by omega) 6, Ko (fc t) t2, this]
  · rw [← eL]; simp (disch := omega) only [u2n, u2s]
  · rw [← eL]; simp (disch := omega) only [u2n, u2s]
  · rw [← eL]; simp (disch := omega) only [u2n, u2s]
  · have := Iao (fc t) t2
    show L (fc t) 11 = if t = t ∧ 20 ≤ 11 then _ else _
    rw [if_neg (by omega), ← eL]
    simp (disch := omega) only [u2n, u2s]
    rw [wkp_o (by omega) 6, Ko (fc t) t2, this]
    exact (h.2.2.2.1.2.2 t (by omega)).2.2.1.2.2.2.2
  · show L (fc t + 1) k = if t = t ∧ 20 ≤ 20 + k then Ia 25 (20 + k - 20) else _
    rw [if_pos ⟨rfl, by omega⟩, Nat.add_sub_cancel_left, ← eL]
    simp (disch := omega) only [u2n, u2s]
    rw [wkp_s 6 hk, K25]
  · unfold laM puM
    simp (disch := omega) only [u2n, u2s]
    refine ba z j ?_
    rw [key_o (by omega) (by omega)]
    exact disW_no (C := [(143, 154)]) rfl (inW_iff.mpr ⟨(143, 154), List.mem_singleton.mpr rfl, h1, by omega⟩)
  · unfold laM puM; simp (disch := omega) only [u2n, u2s]; rfl
  · unfold laM puM; simp (disch := omega) only [u2n, u2s]
  · unfold laM puM; simp (disch := omega) only [u2n, u2s]
  · have x8 : laM Ia' t (E t 1) b ch 148 t = Ia' 114 59 := by unfold laM puM; simp (disch := omega) only [u2n, u2s]
    have x9 : laM Ia' t (E t 1) b ch 149 t = Ia' 114 60 := by unfold laM puM; simp (disch := omega) only [u2n, u2s]
    have x10 : laM Ia' t (E t 1) b ch 150 t = Ia' 114 61 := by unfold laM puM; simp (disch := omega) only [u2n, u2s]
    have x11 : laM Ia' t (E t 1) b ch 151 t = Ia' 114 62 := by unfold laM puM; simp (disch := omega) only [u2n, u2s]
    have x12 : laM Ia' t (E t 1) b ch 152 t = Ia' 114 63 := by unfold laM puM; simp (disch := omega) only [u2n, u2s]
    have x13 : laM Ia' t (E t 1) b ch 153 t = Ia' 114 64 := by unfold laM puM; simp (disch := omega) only [u2n, u2s]
    have v : ∀ f, 20 ≤ f → (if t = t ∧ 20 ≤ f then Ia 25 (f - 20) else V t f) = Ia 25 (f - 20) := fun f hf => if_pos ⟨rfl, hf⟩
    rw [x8, x9, x10, x11, x12, x13]
    try dsimp only
    rw [v 20 (by decide), v 21 (by decide), v 22 (by decide), v 23 (by decide), v 24 (by decide), v 25 (by decide)]
    exact ⟨w3, wy⟩
  · obtain ⟨d1, d2, d3, d4, d5, d6⟩ := h.2.2.2.2.2.1
    have m5 : ∀ f, 65 ≤ f → f ≤ 70 → f ≠ 68 → laM Ia' t (E t 1) b ch 114 f = I' 114 f := fun f h1 h2 h3 => by
      have : Ia' 114 f = I' 114 f := ba 114 f (disW_no (C := [(1000065, 1000071)]) rfl (inW_iff.mpr ⟨_, List.mem_singleton.mpr rfl, by show 1000065 ≤ 1000000 + f; omega, by show 1000000 + f < 1000071; omega⟩))
      rw [← this]
      unfold laM puM
      simp (disch := omega) only [u2n, u2s]
    have m68 : laM Ia' t (E t 1) b ch 114 68 = I' 114 68 + 1 := by
      rw [← ba 114 68 rfl]
      unfold laM puM
      simp (disch := omega) only [u2n, u2s]
    unfold Cnt
    rw [L5 9 (by decide), L5 8 (by decide), L5 10 (by decide), L511, L5 12 (by decide), L5 13 (by decide), aL 4 13 rfl, aL 7 1 rfl, m5 65 (by omega) (by omega) (by omega), m5 66 (by omega) (by omega) (by omega), m5 67 (by omega) (by omega) (by omega), m68, m5 69 (by omega) (by omega) (by omega), m5 70 (by omega) (by omega) (by omega), bL 114 1 rfl, bL 114 24 rfl]
    refine ⟨d1, d2, ⟨d3.1, by rw [d3.2.1], d3.2.2⟩, fun k hk => by rw [aL 19 k rfl, aL 20 k rfl, bL 140 k rfl, bL 141 k rfl]; exact d4 k hk, ?_, d6.1, d6.2.1, fun k hk => by rw [aL 8 k rfl, bL 129 k rfl]; exact d6.2.2 k hk⟩
    unfold laM puM
    simp (disch := omega) only [u2n, u2s]
  · rw [← eL]; simp (disch := omega) only [u2n, u2s]
  · unfold laM puM; simp (disch := omega) only [u2n, u2s]
  · unfold laM puM; simp (disch := omega) only [u2n, u2s]
  · unfold laM puM; simp (disch := omega) only [u2n, u2s]
