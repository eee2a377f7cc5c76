/-! ===== a run: what was changed, and how it is undone, both sides ===== -/
def LgE (G : Nat → Nat → Nat) (I : Nat → Nat → Int32) (J : Nat → Nat → Int64) (R : Nat → Nat → Option Nat) (I' : Nat → Nat → Int32) (J' : Nat → Nat → Int64) (k : Nat) : Prop :=
  J 23 k = J' 155 k ∧ ((R 21 k = none ∧ ∃ s : Nat, s < 6 ∧ I 22 k = Int32.ofInt (s : Int) ∧ I' 154 k = Int32.ofInt (-1 - (s : Int))) ∨ ∃ t i : Nat, 1 ≤ t ∧ t ≤ G 10 0 ∧ (G 1 t = 4 ∨ G 1 t = 17) ∧ i < nC (G 1 t) (G 2 t) ∧ R 21 k = some (G 0 t) ∧ I 22 k = Int32.ofInt (i : Int) ∧ I' 154 k = Int32.ofInt ((G 3 t + i : Nat) : Int) ∧ (G 1 t = 4 → Int32.toInt64 (Int64.toInt32 (J 23 k)) = J 23 k))
def Sto (G : Nat → Nat → Nat) (N : Nat → Nat → Int32) (σ : Shp) (I : Nat → Nat → Int32) (J : Nat → Nat → Int64) (R : Nat → Nat → Option Nat) (I' : Nat → Nat → Int32) (J' : Nat → Nat → Int64) (ch : Nat) : Prop :=
  ∃ C : Nat → Int64, TSg G C N ∧ TCl G C N σ I J R ∧ TMo G C N I' J' ∧ (∀ k : Nat, k < 6 → J 18 k = J' 139 k) ∧ I 17 6 = Int32.ofInt (ch : Int) ∧ I' 114 54 = Int32.ofInt (ch : Int) ∧ ch ≤ 640 ∧ ∀ k : Nat, k < ch → LgE G I J R I' J' k
theorem nC_lf {f z : Nat} (h : z ≤ 40) : nC f z ≤ 40 := by unfold nC; split <;> (try split) <;> omega
theorem TSg.cell {G : Nat → Nat → Nat} {C : Nat → Int64} {N : Nat → Nat → Int32} (h : TSg G C N) {t i : Nat} (t1 : 1 ≤ t) (t2 : t ≤ G 10 0) (hf : G 1 t = 4 ∨ G 1 t = 17) (hi : i < nC (G 1 t) (G 2 t)) : G 3 t + i < G 10 1 ∧ G 10 1 ≤ 162000 ∧ i < 40 ∧ nC (G 1 t) (G 2 t) ≤ 40 := by
  have a := (h.2.2.1 t t1 t2).2.2.2.2.2.2.2.1 (by omega)
  have b := h.1
  have c : nC (G 1 t) (G 2 t) ≤ 40 := by
    rcases hf with q | q
    · have := (h.2.2.1 t t1 t2).2.2.2.1 (by omega)
      exact nC_lf this
    · unfold nC; rw [if_neg (by omega), if_pos q]; omega
  omega
/-- a cell is set, both sides, at the ghosts -/
theorem TSg.setW {G : Nat → Nat → Nat} {C : Nat → Int64} {N : Nat → Nat → Int32} (h : TSg G C N) {t i : Nat} {v : Int64} (t1 : 1 ≤ t) (t2 : t ≤ G 10 0) (hf : G 1 t = 4 ∨ G 1 t = 17) (hi : i < nC (G 1 t) (G 2 t)) (hv : G 1 t = 4 → Int32.toInt64 (Int64.toInt32 v) = v) : TSg G (u1 C (G 3 t + i) v) N := by
  refine h.setC (h.cell t1 t2 hf hi).1 fun u u1' u2' hu j hj e => ?_
  by_cases c : u = t
  · subst c
    rcases hf with q | q
    · exact hv q
    · omega
  · exfalso
    have nu : nC (G 1 u) (G 2 u) = G 2 u := if_pos (by omega)
    exact h.cells t1 t2 u1' u2' hi (by rw [nu]; exact hj) (fun q => c q.symm) e
theorem undoCM {G : Nat → Nat → Nat} {N : Nat → Nat → Int32} {σ σ' : Shp} {I : Nat → Nat → Int32} {J : Nat → Nat → Int64} {R R' : Nat → Nat → Option Nat} {I' : Nat → Nat → Int32} {J' : Nat → Nat → Int64} {ch m : Nat} (hn : 198 ≤ nxx σ ∧ nxx σ ≤ 900000) (h : Sto G N σ I J R I' J' ch) (hm : m ≤ 640) : ∃ I1 J1 I1' J1' c1, gX8_undoTo σ I J R (Int32.ofInt (m : Int)) = some (I1, J1) ∧ gX12_undoTo σ' I' J' R' (Int32.ofInt (m : Int)) = some (I1', J1') ∧ Sto G N σ I1 J1 R I1' J1' c1 ∧ c1 ≤ ch ∧ Ag [(17, 18)] I I1 ∧ Ag [(18, 19), (202, 1000000)] J J1 ∧ Ag [(1000054, 1000055)] I' I1' ∧ Ag [(119, 120), (139, 140)] J' J1' := by
  obtain ⟨F, hF⟩ : ∃ F, FUx = F := ⟨_, rfl⟩
  have hF' : F = 2000000 := by rw [← hF, FUx_eq]
  obtain ⟨C, hg, hc, hmo, hst, h17, h54, hch, hl⟩ := h
  have mx : fXM_maxI 0 (fXM_minI (Int32.ofInt (ch : Int)) (Int32.ofInt (m : Int))) = Int32.ofInt ((min ch m : Nat) : Int) := by
    have k : fXM_minI (Int32.ofInt (ch : Int)) (Int32.ofInt (m : Int)) = Int32.ofInt ((min ch m : Nat) : Int) := by
      unfold fXM_minI
      by_cases c : m < ch
      · rw [if_pos (by rw [i_lt (by omega) (by omega)]; omega), Nat.min_eq_right (by omega)]
      · rw [if_neg (by rw [i_lt (by omega) (by omega)]; omega), Nat.min_eq_left (by omega)]
    rw [k]
    unfold fXM_maxI
    by_cases c : 0 < min ch m
    · rw [if_pos (by rw [i_ltr (by omega)]; omega)]
    · rw [if_neg (by rw [i_ltr (by omega)]; omega), show min ch m = 0 by omega]
      rfl
  by_cases cm : ch ≤ m
  · have e1 : min ch m = ch := Nat.min_eq_left cm
    refine ⟨u2 I 17 6 (Int32.ofInt (ch : Int)), J, I', J', ch, ?_, ?_, ?_, Nat.le_refl _, Ag.st Ag.rf rfl, Ag.rf, Ag.rf, Ag.rf⟩
    · unfold gX8_undoTo
      rw [hF, hF', h17, i_subl]
      try dsimp only
      rw [gX8_undoTo_l7, if_pos (by rw [i_lt (by omega) (by omega)]; omega)]
      try dsimp only
      rw [h17, mx, e1]
    · unfold gX12_undoTo
      rw [hF, hF', gX12_undoTo_l0, h54, if_pos (by rw [i_le (by omega) (by omega)]; omega)]
    · have eI : u2 I 17 6 (Int32.ofInt (ch : Int)) = I := by
        funext a k
        by_cases c : a = 17 ∧ k = 6
        · rw [u2s c, c.1, c.2, h17]
        · rw [u2n c]
      rw [eI]
      exact ⟨C, hg, hc, hmo, hst, h17, h54, hch, hl⟩
  have e1 : min ch m = m := Nat.min_eq_right (by omega)
  rw [e1] at mx
  have lp : ∀ (u k f f' : Nat) (J J' : Nat → Nat → Int64) (I' : Nat → Nat → Int32) (C : Nat → Int64), k = m + u → k ≤ ch → u < f → u < f' → TSg G C N → TCl G C N σ I J R → TMo G C N I' J' → (∀ k : Nat, k < 6 → J 18 k = J' 139 k) → I' 114 54 = Int32.ofInt (k : Int) → (∀ j : Nat, j < k → LgE G I J R I' J' j) → ∃ (J1 : Nat → Nat → Int64) (I1' : Nat → Nat → Int32) (J1' : Nat → Nat → Int64) (C1 : Nat → Int64), gX8_undoTo_l7 σ R f I J (Int32.ofInt (m : Int)) (Int32.ofInt ((k : Int) - 1)) = some (u2 I 17 6 (Int32.ofInt (m : Int)), J1) ∧ gX12_undoTo_l0 σ' R' f' I' J' (Int32.ofInt (m : Int)) = some (I1', J1') ∧ TSg G C1 N ∧ TCl G C1 N σ I J1 R ∧ TMo G C1 N I1' J1' ∧ (∀ k : Nat, k < 6 → J1 18 k = J1' 139 k) ∧ I1' 114 54 = Int32.ofInt (m : Int) ∧ Ag [(18, 19), (202, 1000000)] J J1 ∧ Ag [(1000054, 1000055)] I' I1' ∧ Ag [(119, 120), (139, 140)] J' J1' := by
    intro u
    induction u with
    | zero =>
      intro k f f' J J' I' C hk hkc hf hf' hg hc hmo hst h54 hl
      obtain ⟨f, rfl⟩ : ∃ m, f = m + 1 := ⟨f - 1, by omega⟩
      obtain ⟨f', rfl⟩ : ∃ m, f' = m + 1 := ⟨f' - 1, by omega⟩
      obtain rfl : k = m := by omega
      refine ⟨J, I', J', C, ?_, ?_, hg, hc, hmo, hst, h54, Ag.rf, Ag.rf, Ag.rf⟩
      · rw [gX8_undoTo_l7, if_pos (by rw [i_lt (by omega) (by omega)]; omega)]
        try dsimp only
        rw [h17, mx]
      · rw [gX12_undoTo_l0, h54, if_pos (Int32.le_refl _)]
    | succ u ih =>
      intro k f f' J J' I' C hk hkc hf hf' hg hc hmo hst h54 hl
      obtain ⟨f, rfl⟩ : ∃ m, f = m + 1 := ⟨f - 1, by omega⟩
      obtain ⟨f', rfl⟩ : ∃ m, f' = m + 1 := ⟨f' - 1, by omega⟩
      obtain ⟨k, rfl⟩ : ∃ j, k = j + 1 := ⟨k - 1, by omega⟩
      obtain ⟨l1, l2⟩ := hl k (by omega)
      have ek : Int32.ofInt (((k + 1 : Nat) : Int) - 1) = Int32.ofInt (k : Int) := by congr 1; omega
      have ek2 : Int32.ofInt ((k + 1 : Nat) : Int) - 1 = Int32.ofInt (k : Int) := by rw [i_subl, ek]
      have ek3 : Int32.ofInt (k : Int) + (-1 : Int32) = Int32.ofInt ((k : Int) - 1) := by rw [i_addn]; congr 1
      have g6 : ¬ (Int32.ofInt (k : Int) < 0 ∨ 640 ≤ Int32.toNatClampNeg (Int32.ofInt (k : Int))) := by rw [i_gd (by omega)]; exact id
      have g6p : ¬ (Int32.ofInt (k : Int) < 0 ∨ 640 ≤ k) := by rw [i_ltl (by omega)]; omega
      have g20 : ¬ (Int32.ofInt (k : Int) < 0 ∨ 2000 ≤ Int32.toNatClampNeg (Int32.ofInt (k : Int))) := by rw [i_gd (by omega)]; exact id
      have g20p : ¬ (Int32.ofInt (k : Int) < 0 ∨ 2000 ≤ k) := by rw [i_ltl (by omega)]; omega
      have a5 : Ag [(1000054, 1000055)] I' (u2 I' 114 54 (Int32.ofInt (k : Int))) := Ag.st Ag.rf rfl
      -- what comes behind
      have go : ∀ (J2 J2' : Nat → Nat → Int64) (C2 : Nat → Int64), gX8_undoTo_l7 σ R (f + 1) I J (Int32.ofInt (m : Int)) (Int32.ofInt (k : Int)) = gX8_undoTo_l7 σ R f I J2 (Int32.ofInt (m : Int)) (Int32.ofInt ((k : Int) - 1)) → gX12_undoTo_l0 σ' R' (f' + 1) I' J' (Int32.ofInt (m : Int)) = gX12_undoTo_l0 σ' R' f' (u2 I' 114 54 (Int32.ofInt (k : Int))) J2' (Int32.ofInt (m : Int)) → TSg G C2 N → TCl G C2 N σ I J2 R → TMo G C2 N I' J2' → (∀ k : Nat, k < 6 → J2 18 k = J2' 139 k) → Ag [(18, 19), (202, 1000000)] J J2 → Ag [(119, 120), (139, 140)] J' J2' → ∃ (J1 : Nat → Nat → Int64) (I1' : Nat → Nat → Int32) (J1' : Nat → Nat → Int64) (C1 : Nat → Int64), gX8_undoTo_l7 σ R (f + 1) I J (Int32.ofInt (m : Int)) (Int32.ofInt (((k + 1 : Nat) : Int) - 1)) = some (u2 I 17 6 (Int32.ofInt (m : Int)), J1) ∧ gX12_undoTo_l0 σ' R' (f' + 1) I' J' (Int32.ofInt (m : Int)) = some (I1', J1') ∧ TSg G C1 N ∧ TCl G C1 N σ I J1 R ∧ TMo G C1 N I1' J1' ∧ (∀ k : Nat, k < 6 → J1 18 k = J1' 139 k) ∧ I1' 114 54 = Int32.ofInt (m : Int) ∧ Ag [(18, 19), (202, 1000000)] J J1 ∧ Ag [(1000054, 1000055)] I' I1' ∧ Ag [(119, 120), (139, 140)] J' J1' := by
        intro J2 J2' C2 e1 e2 q1 q2 q3 q4 q5 q6
        obtain ⟨J1, I1', J1', C1, r1, r2, r3, r4, r5, r6, r7, r8, r9, r10⟩ := ih k f f' J2 J2' (u2 I' 114 54 (Int32.ofInt (k : Int))) C2 (by omega) (by omega) (by omega) (by omega) q1 q2 (q3.kp (a5.kp rfl) Kp.rf) q4 (u2_self _ _ _ _) (fun j hj => by
          have := hl j (by omega)
          unfold LgE at this ⊢
          rw [q5 23 j rfl, q6 155 j rfl, a5 154 j rfl]
          exact this)
        refine ⟨J1, I1', J1', C1, ?_, ?_, r3, r4, r5, r6, r7, q5.tr r8, a5.tr r9, q6.tr r10⟩
        · rw [ek, e1]; exact r1
        · rw [e2]; exact r2
      rcases l2 with ⟨s1, s, s2, s3, s4⟩ | ⟨t, i, t1, t2, tf, hi, s1, s3, s4, s5⟩
      · -- a stock
        refine go (u2 J 18 s (J 23 k)) (u2 J' 139 s (J' 155 k)) C ?_ ?_ hg ?_ ?_ ?_ (Ag.st Ag.rf rfl) (Ag.st Ag.rf rfl)
        · rw [gX8_undoTo_l7, if_neg (by rw [i_lt (by omega) (by omega)]; omega), if_neg (by rw [i_ltl (by omega)]; omega), if_pos g6, t41 (by omega), if_pos g6p, s1, onl_n, s3, if_neg (by rw [i_ler (by omega)]; omega), if_pos g6p, if_pos (by rw [i_gd (by omega)]; exact id), t41 (by omega), ek3]
        · rw [gX12_undoTo_l0, h54, if_neg (by rw [i_le (by omega) (by omega)]; omega)]
          try dsimp only
          rw [ek2, u2_self, if_pos g20, t41 (by omega), u2n (by omega), s4, if_neg (by rw [i_ler (by omega)]; omega), if_pos g20p, show (-1 : Int32) = Int32.ofInt (-1) by decide, i_sub, show (-1 : Int) - (-1 - (s : Int)) = (s : Int) by omega, if_pos (by rw [i_gd (by omega)]; exact id), t41 (by omega)]
        · exact hc.kp hn rfl (fun _ _ _ _ => rfl) (fun _ _ _ => rfl) (fun a ha _ => by funext j; rw [u2n (by omega)]) rfl (fun _ _ _ => rfl)
        · exact hmo.kp Kp.rf (fun a j ha => by
            rw [u2n]
            rintro ⟨rfl, -⟩
            revert ha; exact fun q => by cases q)
        · intro j hj
          by_cases e : j = s
          · rw [e, u2_self, u2_self]; exact l1
          · rw [u2n (by omega), u2n (by omega)]; exact hst j hj
      · -- a cell
        obtain ⟨y1, y2, y3, y4⟩ := hg.cell t1 t2 tf hi
        have cc := cC_of (c := G 0 t) hi
        obtain ⟨⟨b1, b2, -, b4, -, b6, -⟩, -⟩ := hc.2.2.1 t t1 t2
        have tk := hc.2.2.2.1.1 t t1 t2
        have cw := cW_ge (G 1 t)
        rw [cc.1] at b2 b4 b6
        refine go (u2 J (G 0 t + 1) i (J 23 k)) (u2 J' 119 (G 3 t + i) (J' 155 k)) (u1 C (G 3 t + i) (J 23 k)) ?_ ?_ (hg.setW t1 t2 tf hi s5) (hc.setC hg t1 t2 hi) ?_ ?_ (Ag.st Ag.rf ?_) (Ag.st Ag.rf rfl)
        · rw [gX8_undoTo_l7, if_neg (by rw [i_lt (by omega) (by omega)]; omega), if_neg (by rw [i_ltl (by omega)]; omega), if_pos g6, t41 (by omega), if_pos g6p, s1, onl_s, if_pos b1, b2, ob_some, if_pos b4, b6, s3, nat32, if_neg (by rw [i_le (by omega) (by omega)]; omega), if_pos g6p, if_pos (by rw [t41 (by omega), i_ltl (by omega)]; omega), t41 (by omega), ek3]
        · rw [gX12_undoTo_l0, h54, if_neg (by rw [i_le (by omega) (by omega)]; omega)]
          try dsimp only
          rw [ek2, u2_self, if_pos g20, t41 (by omega), u2n (by omega), s4, if_pos (by rw [i_ler (by omega)]; omega), if_pos g20p, if_pos (by rw [i_gd (by omega)]; exact id), t41 (by omega)]
        · rw [l1]; exact hmo.setC
        · intro j hj
          rw [u2n (by omega), u2n (by omega)]; exact hst j hj
        · rw [key_o (by omega) (by omega)]
          exact inW_iff.mpr ⟨(202, 1000000), by decide, by omega, by omega⟩
  obtain ⟨J1, I1', J1', C1, r1, r2, r3, r4, r5, r6, r7, r8, r9, r10⟩ := lp (ch - m) ch F F J J' I' C (by omega) (by omega) (by omega) (by omega) hg hc hmo hst h54 hl
  have a17 : Ag [(17, 18)] I (u2 I 17 6 (Int32.ofInt (m : Int))) := Ag.st Ag.rf rfl
  refine ⟨u2 I 17 6 (Int32.ofInt (m : Int)), J1, I1', J1', m, ?_, ?_, ⟨C1, r3, ?_, r5, r6, u2_self _ _ _ _, r7, by omega, fun j hj => ?_⟩, by omega, a17, r8, r9, r10⟩
  · unfold gX8_undoTo
    rw [hF, h17, i_subl]
    exact r1
  · unfold gX12_undoTo
    rw [hF]
    exact r2
  · exact r4.ag hn a17 Ag.rf Ag.rf rfl
  · have := hl j (by omega)
    unfold LgE at this ⊢
    rw [r8 23 j rfl, r10 155 j rfl, r9 154 j rfl, a17 22 j rfl]
    exact this
/-- a stock is changed, both sides -/
theorem Sto.stock {G : Nat → Nat → Nat} {N : Nat → Nat → Int32} {σ : Shp} {I : Nat → Nat → Int32} {J : Nat → Nat → Int64} {R : Nat → Nat → Option Nat} {I' : Nat → Nat → Int32} {J' : Nat → Nat → Int64} {ch k : Nat} (v : Int64) (hS : Skel σ R) (hn : 198 ≤ nxx σ ∧ nxx σ ≤ 900000) (h : Sto G N σ I J R I' J' ch) (hc : ch < 640) (hk : k < 6) : ∃ I1 J1 R1 I1' J1', gX8_changeStock σ I J R (Int32.ofInt (k : Int)) v = some (I1, J1, R1) ∧ gX12_changeStock I' J' (Int32.ofInt (k : Int)) v = some (I1', J1') ∧ Sto G N σ I1 J1 R1 I1' J1' (ch + 1) ∧ Skel σ R1 ∧ Ag [(17, 18), (22, 23)] I I1 ∧ Ag [(18, 19), (23, 24)] J J1 ∧ Ag [(21, 22)] R R1 ∧ Ag [(154, 155), (1000054, 1000055)] I' I1' ∧ Ag [(139, 140), (155, 156)] J' J1' := by
  obtain ⟨C, hg, hcl, hmo, hst, h17, h54, hch, hl⟩ := h
  have g6 : ¬ (Int32.ofInt (ch : Int) < 0 ∨ 640 ≤ Int32.toNatClampNeg (Int32.ofInt (ch : Int))) := by rw [i_gd (by omega)]; exact id
  have g20 : ¬ (Int32.ofInt (ch : Int) < 0 ∨ 2000 ≤ Int32.toNatClampNeg (Int32.ofInt (ch : Int))) := by rw [i_gd (by omega)]; exact id
  have aI : Ag [(17, 18), (22, 23)] I (u2 (u2 I 22 ch (Int32.ofInt (k : Int))) 17 6 (Int32.ofInt ((ch + 1 : Nat) : Int))) := Ag.st (Ag.st Ag.rf rfl) rfl
  have aJ : Ag [(18, 19), (23, 24)] J (u2 (u2 J 23 ch (J 18 k)) 18 k v) := Ag.st (Ag.st Ag.rf rfl) rfl
  have aR : Ag [(21, 22)] R (u2 R 21 ch none) := Ag.st Ag.rf rfl
  have aI' : Ag [(154, 155), (1000054, 1000055)] I' (u2 (u2 I' 154 ch (Int32.ofInt (-1 - (k : Int)))) 114 54 (Int32.ofInt ((ch + 1 : Nat) : Int))) := Ag.st (Ag.st Ag.rf rfl) rfl
  have aJ' : Ag [(139, 140), (155, 156)] J' (u2 (u2 J' 155 ch (J' 139 k)) 139 k v) := Ag.st (Ag.st Ag.rf rfl) rfl
  refine ⟨_, _, _, _, _, ?_, ?_, ⟨C, hg, ?_, ?_, ?_, u2_self _ _ _ _, u2_self _ _ _ _, by omega, ?_⟩, hS.setR (Or.inl (hS.k 21 26 (by decide) rfl)), aI, aJ, aR, aI', aJ'⟩
  · unfold gX8_changeStock
    rw [if_neg (by rw [i_ltl (by omega)]; omega), if_pos (by rw [i_ltl (by omega)]; omega), if_pos (by rw [i_gd (by omega)]; exact id), t41 (by omega)]
    unfold gX8_noteChange
    try dsimp only
    rw [h17, if_neg (by rw [i_ler (by omega)]; omega), if_pos g6, t41 (by omega), if_pos (show okR σ 11 none = true from rfl), if_pos (by rw [i_ltl (by omega)]; omega), u2n (by omega), h17, if_pos g6, t41 (by omega), ob_some, iadd1]
  · unfold gX12_changeStock
    rw [if_pos (by rw [i_gd (by omega)]; exact id), t41 (by omega)]
    unfold gX12_note
    try dsimp only
    rw [h54, if_pos g20, t41 (by omega), u2n (by omega), h54, if_pos g20, t41 (by omega), ob_some, iadd1, show (-1 : Int32) = Int32.ofInt (-1) by decide, i_sub]
  · exact hcl.kp hn (aI 4 12 rfl) (fun a h1 h2 _ => aI.far rfl a h1 h2) (fun a h1 h2 => aI.far rfl a (by omega) h2) (fun a h1 h2 => aJ.far rfl a h1 h2) (aR.at1 6 (by decide) (by decide) rfl) (fun a h1 h2 => aR.far rfl a h1 h2)
  · exact hmo.kp (aI'.kp rfl) (aJ'.kp rfl)
  · intro j hj
    by_cases e : j = k
    · rw [e, u2_self, u2_self]
    · rw [u2n (by omega), u2n (by omega), u2n (by omega), u2n (by omega)]; exact hst j hj
  · intro j hj
    by_cases e : j = ch
    · subst e
      refine ⟨?_, Or.inl ⟨u2_self _ _ _ _, k, hk, ?_, ?_⟩⟩
      · rw [u2n (by omega), u2_self, u2n (by omega), u2_self]; exact hst k hk
      · rw [u2n (by omega), u2_self]
      · rw [u2n (by omega), u2_self]
    · have := hl j (by omega)
      unfold LgE at this ⊢
      rw [u2n (by omega), u2n (by omega), u2n (by omega), u2n (by omega), u2n (by omega), u2n (by omega), u2n (by omega), u2n (by omega), u2n (by omega)]
      exact this
/-- a cell is changed, both sides -/
theorem Sto.cell {G : Nat → Nat → Nat} {N : Nat → Nat → Int32} {σ : Shp} {I : Nat → Nat → Int32} {J : Nat → Nat → Int64} {R : Nat → Nat → Option Nat} {I' : Nat → Nat → Int32} {J' : Nat → Nat → Int64} {ch t i : Nat} (v : Int32) (hS : Skel σ R) (hn : 198 ≤ nxx σ ∧ nxx σ ≤ 900000) (h : Sto G N σ I J R I' J' ch) (hc : ch < 640) (t1 : 1 ≤ t) (t2 : t ≤ G 10 0) (tf : G 1 t = 4 ∨ G 1 t = 17) (hi : i < nC (G 1 t) (G 2 t)) : ∃ I1 J1 R1 I1' J1', gX8_changeCell σ I J R (some (G 0 t)) (Int32.ofInt (i : Int)) (Int32.toInt64 v) = some (I1, J1, R1) ∧ gX12_setCell I' J' (Int32.ofInt ((G 3 t + i : Nat) : Int)) (Int32.toInt64 v) = some (I1', J1') ∧ Sto G N σ I1 J1 R1 I1' J1' (ch + 1) ∧ Skel σ R1 ∧ Ag [(17, 18), (22, 23)] I I1 ∧ Ag [(23, 24), (202, 1000000)] J J1 ∧ Ag [(21, 22)] R R1 ∧ Ag [(154, 155), (1000054, 1000055)] I' I1' ∧ Ag [(119, 120), (155, 156)] J' J1' := by
  obtain ⟨C, hg, hcl, hmo, hst, h17, h54, hch, hl⟩ := h
  have g6 : ¬ (Int32.ofInt (ch : Int) < 0 ∨ 640 ≤ Int32.toNatClampNeg (Int32.ofInt (ch : Int))) := by rw [i_gd (by omega)]; exact id
  have g20 : ¬ (Int32.ofInt (ch : Int) < 0 ∨ 2000 ≤ Int32.toNatClampNeg (Int32.ofInt (ch : Int))) := by rw [i_gd (by omega)]; exact id
  obtain ⟨y1, y2, y3, y4⟩ := hg.cell t1 t2 tf hi
  have cc := cC_of (c := G 0 t) hi
  obtain ⟨⟨b1, b2, -, b4, -, b6, -⟩, -, b8, -⟩ := hcl.2.2.1 t t1 t2
  have tk := hcl.2.2.2.1.1 t t1 t2
  have cw := cW_ge (G 1 t)
  have b9 := b8 i hi
  rw [cc.1] at b2 b4 b6 b9
  have m9 := hmo.2.2.2.1 (G 3 t + i) (by omega)
  have aI : Ag [(17, 18), (22, 23)] I (u2 (u2 I 22 ch (Int32.ofInt (i : Int))) 17 6 (Int32.ofInt ((ch + 1 : Nat) : Int))) := Ag.st (Ag.st Ag.rf rfl) rfl
  have aJ0 : Ag [(23, 24)] J (u2 J 23 ch (J (G 0 t + 1) i)) := Ag.st Ag.rf rfl
  have aJ : Ag [(23, 24), (202, 1000000)] J (u2 (u2 J 23 ch (J (G 0 t + 1) i)) (G 0 t + 1) i (Int32.toInt64 v)) := Ag.st (aJ0.mv rfl) (by
    rw [key_o (by omega) (by omega)]
    exact inW_iff.mpr ⟨(202, 1000000), by decide, by omega, by omega⟩)
  have aR : Ag [(21, 22)] R (u2 R 21 ch (some (G 0 t))) := Ag.st Ag.rf rfl
  have aI' : Ag [(154, 155), (1000054, 1000055)] I' (u2 (u2 I' 154 ch (Int32.ofInt ((G 3 t + i : Nat) : Int))) 114 54 (Int32.ofInt ((ch + 1 : Nat) : Int))) := Ag.st (Ag.st Ag.rf rfl) rfl
  have aJ0' : Ag [(155, 156)] J' (u2 J' 155 ch (J' 119 (G 3 t + i))) := Ag.st Ag.rf rfl
  have aJ' : Ag [(119, 120), (155, 156)] J' (u2 (u2 J' 155 ch (J' 119 (G 3 t + i))) 119 (G 3 t + i) (Int32.toInt64 v)) := Ag.st (aJ0'.mv rfl) rfl
  have c0 : TCl G C N σ (u2 (u2 I 22 ch (Int32.ofInt (i : Int))) 17 6 (Int32.ofInt ((ch + 1 : Nat) : Int))) (u2 J 23 ch (J (G 0 t + 1) i)) (u2 R 21 ch (some (G 0 t))) := hcl.kp hn (aI 4 12 rfl) (fun a h1 h2 _ => aI.far rfl a h1 h2) (fun a h1 h2 => aI.far rfl a (by omega) h2) (fun a h1 h2 => aJ0.far rfl a h1 h2) (aR.at1 6 (by decide) (by decide) rfl) (fun a h1 h2 => aR.far rfl a h1 h2)
  have m0 : TMo G C N (u2 (u2 I' 154 ch (Int32.ofInt ((G 3 t + i : Nat) : Int))) 114 54 (Int32.ofInt ((ch + 1 : Nat) : Int))) (u2 J' 155 ch (J' 119 (G 3 t + i))) := hmo.kp (aI'.kp rfl) (aJ0'.kp rfl)
  refine ⟨_, _, _, _, _, ?_, ?_, ⟨u1 C (G 3 t + i) (Int32.toInt64 v), hg.setW t1 t2 tf hi (fun _ => by rw [Int32.toInt32_toInt64]), c0.setC hg t1 t2 hi, m0.setC, ?_, u2_self _ _ _ _, u2_self _ _ _ _, by omega, ?_⟩, hS.setR (Or.inl (hS.k 21 26 (by decide) rfl)), aI, aJ, aR, aI', aJ'⟩
  · unfold gX8_changeCell
    rw [onl_s, if_neg (by rw [i_ltl (by omega)]; omega), if_pos b1, b2, ob_some, if_pos b4, b6, nat32, if_pos (by rw [i_lt (by omega) (by omega)]; omega), if_pos (by rw [t41 (by omega), i_ltl (by omega)]; omega), t41 (by omega)]
    unfold gX8_noteChange
    try dsimp only
    rw [h17, if_neg (by rw [i_ler (by omega)]; omega), if_pos g6, t41 (by omega), if_pos (show okR σ 11 (some (G 0 t)) = true by show (kdx σ (G 0 t) == 11) = true; rw [b1]; rfl), if_pos (by rw [i_ltl (by omega)]; omega), u2n (by omega), h17, if_pos g6, t41 (by omega), ob_some]
    try dsimp only
    rw [u2n (by omega), b2, ob_some, if_pos b4, b6, if_pos (by rw [i_ltl (by omega)]; omega), iadd1]
  · unfold gX12_setCell
    rw [if_pos (by rw [i_gd (by omega)]; exact id), t41 (by omega)]
    unfold gX12_note
    try dsimp only
    rw [h54, if_pos g20, t41 (by omega), u2n (by omega), h54, if_pos g20, t41 (by omega), ob_some, iadd1]
  · intro j hj
    rw [u2n (by omega), u2n (by omega), u2n (by omega), u2n (by omega)]; exact hst j hj
  · intro j hj
    by_cases e : j = ch
    · subst e
      refine ⟨?_, Or.inr ⟨t, i, t1, t2, tf, hi, u2_self _ _ _ _, ?_, ?_, fun q => ?_⟩⟩
      · rw [u2n (by omega), u2_self, u2n (by omega), u2_self, b9, m9]
      · rw [u2n (by omega), u2_self]
      · rw [u2n (by omega), u2_self]
      · rw [u2n (by omega), u2_self, b9]
        have nu : nC (G 1 t) (G 2 t) = G 2 t := if_pos (by omega)
        exact hg.2.2.2.2.2.2.2 t t1 t2 (Or.inl q) i (by omega)
    · have := hl j (by omega)
      unfold LgE at this ⊢
      rw [u2n (by omega), u2n (by omega), u2n (by omega), u2n (by omega), u2n (by omega), u2n (by omega), u2n (by omega), u2n (by omega), u2n (by omega)]
      exact this
