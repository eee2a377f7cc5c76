/-! ===== a run: the class's pile of frames ===== -/
/-- the frames that were ever made -/
def GFrm (σ : Shp) (R : Nat → Nat → Option Nat) : Prop := (∀ j c : Nat, j < 160 → R 24 j = some c → 202 ≤ c ∧ c + 1 < nxx σ + 4 ∧ kdx σ c = 4 ∧ R c 12 = some (c + 1) ∧ kdx σ (c + 1) = 20 ∧ lnx σ (c + 1) = 6) ∧ (∀ j j' c : Nat, j < 160 → j' < 160 → R 24 j = some c → R 24 j' = some c → j = j')
/-- a frame by its ghosts: E its Nats, V its ints -/
def FrC (I : Nat → Nat → Int32) (c : Nat) (E : Nat → Nat → Nat) (V : Nat → Nat → Int32) (j : Nat) : Prop := (I c 0 = Int32.ofInt (E j 0) ∧ I c 1 = Int32.ofInt (E j 1) ∧ I c 2 = Int32.ofInt (E j 2) ∧ I c 3 = Int32.ofInt (E j 3) ∧ I c 4 = Int32.ofInt (E j 4) ∧ I c 8 = Int32.ofInt (E j 8) ∧ I c 10 = Int32.ofInt (E j 10)) ∧ (I c 5 = V j 5 ∧ I c 6 = V j 6 ∧ I c 7 = V j 7 ∧ I c 9 = V j 9 ∧ I c 11 = V j 11) ∧ ∀ k : Nat, k < 6 → I (c + 1) k = V j (20 + k)
def ClS (I : Nat → Nat → Int32) (R : Nat → Nat → Option Nat) (fc : Nat → Nat) (E : Nat → Nat → Nat) (V : Nat → Nat → Int32) (d : Nat) : Prop := I 5 6 = Int32.ofInt (d : Int) ∧ d ≤ 160 ∧ ∀ j : Nat, j < d → R 24 j = some (fc j) ∧ FrC I (fc j) E V j
theorem FrC.kp {I I1 : Nat → Nat → Int32} {c : Nat} {E E1 : Nat → Nat → Nat} {V V1 : Nat → Nat → Int32} {j : Nat} (h : FrC I c E V j) (a : I1 c = I c) (b : I1 (c + 1) = I (c + 1)) (e : ∀ f, E1 j f = E j f) (v : ∀ f, V1 j f = V j f) : FrC I1 c E1 V1 j := by
  unfold FrC at h ⊢
  rw [a, b]
  simp only [e, v]
  exact h
theorem ClS.kp {I I1 : Nat → Nat → Int32} {R R1 : Nat → Nat → Option Nat} {σ : Shp} {fc : Nat → Nat} {E : Nat → Nat → Nat} {V : Nat → Nat → Int32} {d : Nat} (h : ClS I R fc E V d) (hG : GFrm σ R) (k : I1 5 6 = I 5 6) (a : ∀ c, 202 ≤ c → c < nxx σ + 4 → I1 c = I c) (r : ∀ j, j < d → R1 24 j = R 24 j) : ClS I1 R1 fc E V d := by
  refine ⟨by rw [k]; exact h.1, h.2.1, fun j hj => ?_⟩
  obtain ⟨h1, h2⟩ := h.2.2 j hj
  have g := hG.1 j (fc j) (by have := h.2.1; omega) h1
  exact ⟨by rw [r j hj]; exact h1, h2.kp (a _ (by omega) (by omega)) (a _ (by omega) (by omega)) (fun _ => rfl) (fun _ => rfl)⟩
theorem ClS.apart {I : Nat → Nat → Int32} {R : Nat → Nat → Option Nat} {σ : Shp} {fc : Nat → Nat} {E : Nat → Nat → Nat} {V : Nat → Nat → Int32} {d : Nat} (h : ClS I R fc E V d) (hG : GFrm σ R) {i j : Nat} (hi : i < d) (hj : j < d) (e : i ≠ j) : fc i ≠ fc j ∧ fc i ≠ fc j + 1 ∧ fc i + 1 ≠ fc j := by
  have hd := h.2.1
  have a := (h.2.2 i hi).1
  have b := (h.2.2 j hj).1
  have ga := hG.1 i _ (by omega) a
  have gb := hG.1 j _ (by omega) b
  refine ⟨fun q => ?_, fun q => ?_, fun q => ?_⟩
  · rw [q] at a
    exact e (hG.2 i j _ (by omega) (by omega) a b)
  · have := ga.2.2.1
    rw [q, gb.2.2.2.2.1] at this
    omega
  · have := gb.2.2.1
    rw [← q, ga.2.2.2.2.1] at this
    omega
/-- the uppermost frame changes -/
theorem ClS.top {I I1 : Nat → Nat → Int32} {R : Nat → Nat → Option Nat} {σ : Shp} {fc : Nat → Nat} {E E1 : Nat → Nat → Nat} {V V1 : Nat → Nat → Int32} {t : Nat} (h : ClS I R fc E V (t + 1)) (hG : GFrm σ R) (k : I1 5 6 = I 5 6) (a : ∀ c, 202 ≤ c → c ≠ fc t → c ≠ fc t + 1 → I1 c = I c) (e : ∀ j f, j ≠ t → E1 j f = E j f) (v : ∀ j f, j ≠ t → V1 j f = V j f) (tp : FrC I1 (fc t) E1 V1 t) : ClS I1 R fc E1 V1 (t + 1) := by
  refine ⟨by rw [k]; exact h.1, h.2.1, fun j hj => ?_⟩
  obtain ⟨h1, h2⟩ := h.2.2 j hj
  refine ⟨h1, ?_⟩
  by_cases c : j = t
  · rw [c]; exact tp
  · have g := hG.1 j (fc j) (by have := h.2.1; omega) h1
    have ap := h.apart hG hj (Nat.lt_succ_self t) c
    exact h2.kp (a _ (by omega) ap.1 ap.2.1) (a _ (by omega) ap.2.2 (fun q => ap.1 (by omega))) (fun f => e j f c) (fun f => v j f c)
/-- the uppermost frame goes -/
theorem ClS.pop {I I1 : Nat → Nat → Int32} {R R1 : Nat → Nat → Option Nat} {σ : Shp} {fc : Nat → Nat} {E : Nat → Nat → Nat} {V : Nat → Nat → Int32} {t : Nat} (h : ClS I R fc E V (t + 1)) (hG : GFrm σ R) (k : I1 5 6 = Int32.ofInt (t : Int)) (a : ∀ c, 202 ≤ c → c < nxx σ + 4 → I1 c = I c) (r : ∀ j, j < t → R1 24 j = R 24 j) : ClS I1 R1 fc E V t := by
  refine ⟨k, by have := h.2.1; omega, fun j hj => ?_⟩
  obtain ⟨h1, h2⟩ := h.2.2 j (by omega)
  have g := hG.1 j (fc j) (by have := h.2.1; omega) h1
  exact ⟨by rw [r j hj]; exact h1, h2.kp (a _ (by omega) (by omega)) (a _ (by omega) (by omega)) (fun _ => rfl) (fun _ => rfl)⟩
def nT (I : Nat → Nat → Int32) (c d ch : Nat) : Nat → Nat → Int32 := u2 (u2 (u2 (u2 (u2 I 5 6 (Int32.ofInt ((d + 1 : Nat) : Int))) c 8 0) c 9 1) c 11 0) c 10 (Int32.ofInt (ch : Int))
theorem skel_mk2 {σ : Shp} {R : Nat → Nat → Option Nat} (h : Skel σ R) {a b m k : Nat} : Skel (mkA (mkO σ a m) b k) R := by
  have := h.1
  refine ⟨by rw [q_nA, q_nO]; omega, fun x hx => ?_, fun x hx => ?_, h.2.2.2⟩
  · rw [q_kA, q_nO, if_neg (by omega), q_kO, if_neg (by omega)]; exact h.2.1 x hx
  · rw [q_lA, q_nO, if_neg (by omega), q_lO]; exact h.2.2.1 x hx
/-- room for a frame: an old one, or a new one -/
theorem newT {σ : Shp} {I : Nat → Nat → Int32} {R : Nat → Nat → Option Nat} {d ch : Nat} (hS : Skel σ R) (hG : GFrm σ R) (hd : I 5 6 = Int32.ofInt (d : Int)) (h160 : d < 160) (hc : I 17 6 = Int32.ofInt (ch : Int)) : ∃ σ1 R1 c, gX7_newTop σ I R = some (σ1, nT I c d ch, R1, some c) ∧ R1 24 d = some c ∧ kdx σ1 c = 4 ∧ GFrm σ1 R1 ∧ Skel σ1 R1 ∧ (∀ j, j ≠ d → R1 24 j = R 24 j) ∧ ((σ1 = σ ∧ R1 = R) ∨ (σ1 = mkA (mkO σ 4 13) 20 6 ∧ R1 = u2 (u2 R c 12 (some (c + 1))) 24 d (some c) ∧ c = nxx σ + 4)) := by
  have n1 := hS.1
  have e5 : ∀ s : Shp, ∀ Rq : Nat → Nat → Option Nat, ∀ c : Nat, 202 ≤ c → kdx s c = 4 → gX7_newTop_b51 s I Rq (some c) = some (s, nT I c d ch, Rq, some c) := fun s Rq c hc2 hk => by
    unfold gX7_newTop_b51 gX8_changesSoFar
    rw [ob_some, if_pos hk, ob_some]
    try dsimp only
    rw [u2n (by omega), u2n (by omega), u2n (by omega), u2n (by omega), hc, hd, iadd1]
    rfl
  have g1 : ¬ (Int32.ofInt (d : Int) < 0 ∨ 160 ≤ Int32.toNatClampNeg (Int32.ofInt (d : Int))) := by rw [i_gd (by omega)]; exact id
  have hh : gX7_newTop σ I R = onl (R 24 d) (gX7_newTop_b36 (mkO σ 4 13) I R (nxx σ + 4)) (fun a3 => gX7_newTop_b51 σ I R (R 24 d)) := by
    unfold gX7_newTop
    rw [hd, if_neg (by rw [i_ltl (by omega)]; omega), if_pos (by rw [i_ltl (by omega)]; omega), if_pos g1, t41 (by omega)]
  cases q : R 24 d with
  | some c =>
    obtain ⟨a1, a2, a3, a4, a5, a6⟩ := hG.1 d c h160 q
    refine ⟨σ, R, c, ?_, q, a3, hG, hS, fun _ _ => rfl, Or.inl ⟨rfl, rfl⟩⟩
    rw [hh, q, onl_s]
    exact e5 σ R c a1 a3
  | none =>
    have kc : kdx (mkA (mkO σ 4 13) 20 6) (nxx σ + 4) = 4 := by rw [q_kA, q_nO, if_neg (by omega), q_kO, if_pos rfl]
    have kw : kdx (mkA (mkO σ 4 13) 20 6) (nxx σ + 4 + 1) = 20 := by rw [q_kA, q_nO, if_pos (by omega)]
    have lw : lnx (mkA (mkO σ 4 13) 20 6) (nxx σ + 4 + 1) = 6 := by rw [q_lA, q_nO, if_pos (by omega)]
    have ol : ∀ b, b < nxx σ + 4 → kdx (mkA (mkO σ 4 13) 20 6) b = kdx σ b ∧ lnx (mkA (mkO σ 4 13) 20 6) b = lnx σ b := fun b hb => by
      rw [q_kA, q_nO, if_neg (by omega), q_kO, if_neg (by omega), q_lA, q_nO, if_neg (by omega), q_lO]
      exact ⟨rfl, rfl⟩
    refine ⟨mkA (mkO σ 4 13) 20 6, u2 (u2 R (nxx σ + 4) 12 (some (nxx σ + 4 + 1))) 24 d (some (nxx σ + 4)), nxx σ + 4, ?_, u2_self _ _ _ _, kc, ⟨fun j c hj hc2 => ?_, fun j j' c hj hj' e1 e2 => ?_⟩, ?_, fun j hj => ?_, Or.inr ⟨rfl, rfl, rfl⟩⟩
    · rw [hh, q, onl_n]
      unfold gX7_newTop_b36 gX3_init gX3_init_b9
      try dsimp only
      rw [if_pos (show kdx (mkO σ 4 13) (nxx σ + 4) = 4 by rw [q_kO, if_pos rfl])]
      have e6 : Int32.toNatClampNeg (6 : Int32) = 6 := by decide
      rw [e6, if_pos kc, ob_some]
      try dsimp only
      unfold gX7_newTop_b40
      rw [hd, if_pos g1, t41 (by omega), if_pos (show okR (mkA (mkO σ 4 13) 20 6) 4 (some (nxx σ + 4)) = true by show (kdx (mkA (mkO σ 4 13) 20 6) (nxx σ + 4) == 4) = true; rw [kc]; rfl)]
      try dsimp only
      rw [q_nO]
      exact e5 _ _ _ (by omega) kc
    · by_cases e : j = d
      · rw [u2s ⟨rfl, e⟩] at hc2
        cases hc2
        refine ⟨by omega, by rw [q_nA, q_nO]; omega, kc, ?_, kw, lw⟩
        rw [u2n (by omega), u2_self]
      · rw [u2n (by omega), u2n (by omega)] at hc2
        obtain ⟨a1, a2, a3, a4, a5, a6⟩ := hG.1 j c hj hc2
        refine ⟨a1, by rw [q_nA, q_nO]; omega, by rw [(ol c (by omega)).1]; exact a3, by rw [u2n (by omega), u2n (by omega)]; exact a4, by rw [(ol _ (by omega)).1]; exact a5, by rw [(ol _ (by omega)).2]; exact a6⟩
    · by_cases f1 : j = d
      · by_cases f2 : j' = d
        · rw [f1, f2]
        · exfalso
          rw [u2s ⟨rfl, f1⟩] at e1
          cases e1
          rw [u2n (by omega), u2n (by omega)] at e2
          have := hG.1 j' _ hj' e2
          omega
      · rw [u2n (by omega), u2n (by omega)] at e1
        by_cases f2 : j' = d
        · exfalso
          rw [u2s ⟨rfl, f2⟩] at e2
          cases e2
          have := hG.1 j _ hj e1
          omega
        · rw [u2n (by omega), u2n (by omega)] at e2
          exact hG.2 j j' c hj hj' e1 e2
    · have s1 : Skel (mkA (mkO σ 4 13) 20 6) R := skel_mk2 hS
      exact (s1.setR (Or.inr (Or.inr (Or.inr kc)))).setR (Or.inr (Or.inl (s1.k 24 27 (by decide) rfl)))
    · rw [u2n (by omega), u2n (by omega)]
/-- things and changes, where a frame was made -/
theorem Sto.mk {G : Nat → Nat → Nat} {N : Nat → Nat → Int32} {σ σ1 : Shp} {I : Nat → Nat → Int32} {J : Nat → Nat → Int64} {R R1 : Nat → Nat → Option Nat} {I' : Nat → Nat → Int32} {J' : Nat → Nat → Int64} {ch c d : Nat} (h : Sto G N σ I J R I' J' ch) (hn : 198 ≤ nxx σ ∧ nxx σ + 2 ≤ 900000) (q : (σ1 = σ ∧ R1 = R) ∨ (σ1 = mkA (mkO σ 4 13) 20 6 ∧ R1 = u2 (u2 R c 12 (some (c + 1))) 24 d (some c) ∧ c = nxx σ + 4)) : Sto G N σ1 I J R1 I' J' ch := by
  rcases q with ⟨rfl, rfl⟩ | ⟨rfl, rfl, rfl⟩
  · exact h
  obtain ⟨C, hg, hc, hmo, hst, h17, h54, hch, hl⟩ := h
  refine ⟨C, hg, ?_, hmo, hst, h17, h54, hch, fun k hk => ?_⟩
  · refine hc.garb ⟨hn.1, by rw [q_nA, q_nO]; omega⟩ (by rw [q_nA, q_nO]; omega) (fun b hb => ?_) (fun b h1 h2 => ?_) rfl (fun _ _ _ _ => rfl) ?_ (fun b h1 h2 h3 => ?_)
    · rw [q_kA, q_nO, if_neg (by omega), q_kO, if_neg (by omega), q_lA, q_nO, if_neg (by omega), q_lO]
      exact ⟨rfl, rfl⟩
    · rw [q_nA, q_nO] at h1
      rw [q_kA, q_nO, if_neg (by omega), q_kO, if_neg (by omega)]
      exact (hc.2.2.2.2 b (by omega) h2).1
    · funext j; rw [u2n (by omega), u2n (by omega)]
    · rw [q_nA, q_nO] at h3
      funext j; rw [u2n (by omega), u2n (by omega)]
  · have := hl k hk
    unfold LgE at this ⊢
    rw [u2n (by omega), u2n (by omega)]
    exact this
/-- things and changes, where frames or other cells of a run are written -/
theorem Sto.kpC {G : Nat → Nat → Nat} {N : Nat → Nat → Int32} {σ : Shp} {I I1 : Nat → Nat → Int32} {J : Nat → Nat → Int64} {R : Nat → Nat → Option Nat} {I' : Nat → Nat → Int32} {J' : Nat → Nat → Int64} {ch : Nat} (h : Sto G N σ I J R I' J' ch) (hn : 198 ≤ nxx σ ∧ nxx σ ≤ 900000) (a : I1 4 12 = I 4 12) (b : ∀ c, 202 ≤ c → c < 1000000 → kdx σ c = 11 ∨ kdx σ c = 0 → I1 c = I c) (e : I1 17 6 = I 17 6) (f : I1 22 = I 22) : Sto G N σ I1 J R I' J' ch := by
  obtain ⟨C, hg, hc, hmo, hst, h17, h54, hch, hl⟩ := h
  refine ⟨C, hg, hc.kp hn a (fun c h1 h2 h3 => b c h1 h2 (Or.inl h3)) (fun c h1 h2 => b c (by omega) h2 (Or.inr (hc.2.2.2.2 c h1 h2).1)) (fun _ _ _ => rfl) rfl (fun _ _ _ => rfl), hmo, hst, by rw [e]; exact h17, h54, hch, fun k hk => ?_⟩
  have := hl k hk
  unfold LgE at this ⊢
  rw [f]
  exact this
theorem Sto.kpM {G : Nat → Nat → Nat} {N : Nat → Nat → Int32} {σ : Shp} {I : Nat → Nat → Int32} {J : Nat → Nat → Int64} {R : Nat → Nat → Option Nat} {I' I1' : Nat → Nat → Int32} {J' : Nat → Nat → Int64} {ch : Nat} (h : Sto G N σ I J R I' J' ch) (k : Kp [(115, 119), (119, 120), (120, 128), (133, 134), (154, 155), (1000000, 1000001), (1000007, 1000008), (1000009, 1000010), (1000054, 1000055)] I' I1') : Sto G N σ I J R I1' J' ch := by
  obtain ⟨C, hg, hc, hmo, hst, h17, h54, hch, hl⟩ := h
  refine ⟨C, hg, hc, hmo.kp (fun a j ha => k a j ?_) Kp.rf, hst, h17, by rw [k 114 54 rfl]; exact h54, hch, fun j hj => ?_⟩
  · obtain ⟨t, ht, h1, h2⟩ := inW_iff.mp ha
    refine inW_iff.mpr ⟨t, ?_, h1, h2⟩
    have : ∀ t ∈ KThM, t ∈ [((115 : Nat), (119 : Nat)), (119, 120), (120, 128), (133, 134), (154, 155), (1000000, 1000001), (1000007, 1000008), (1000009, 1000010), (1000054, 1000055)] := by decide
    exact this t ht
  · have := hl j hj
    unfold LgE at this ⊢
    rw [k 154 j rfl]
    exact this
