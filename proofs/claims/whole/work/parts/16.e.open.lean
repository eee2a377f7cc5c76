/-! ===== pages: open ===== -/
def Zp (Q : Nat → Int32) (p : Nat) : Prop := ∀ k, k < 64 → Q (64 * p + k) = 0
def Nz (Q : Nat → Int32) (i e : Nat) : Prop := e ≤ i ∧ (∀ p, e ≤ p → p < i → Zp Q p) ∧ (0 < e → ¬ Zp Q (e - 1))
theorem Nz.uq {Q : Nat → Int32} {i e e' : Nat} (h : Nz Q i e) (h' : Nz Q i e') : e = e' := by
  obtain ⟨a1, a2, a3⟩ := h
  obtain ⟨b1, b2, b3⟩ := h'
  by_cases c : e < e'
  · exact absurd (a2 (e' - 1) (by omega) (by omega)) (b3 (by omega))
  · by_cases d : e' < e
    · exact absurd (b2 (e - 1) (by omega) (by omega)) (a3 (by omega))
    · omega
theorem Nz.z {Q : Nat → Int32} {i e : Nat} (h : Nz Q i e) (z : Zp Q i) : Nz Q (i + 1) e := by
  refine ⟨by have := h.1; omega, fun p h1 h2 => ?_, h.2.2⟩
  by_cases c : p = i
  · rw [c]; exact z
  · exact h.2.1 p h1 (by omega)
theorem Nz.n {Q : Nat → Int32} {i : Nat} (z : ¬ Zp Q i) : Nz Q (i + 1) (i + 1) := ⟨Nat.le_refl _, fun p h1 h2 => by omega, fun _ => z⟩
theorem Nz.cg {Q Q' : Nat → Int32} (h : ∀ k, k < 1280 → Q k = Q' k) {e : Nat} (z : Nz Q 20 e) : Nz Q' 20 e := by
  have zz : ∀ p, p < 20 → (Zp Q p ↔ Zp Q' p) := fun p hp => ⟨fun g k hk => by rw [← h _ (by omega)]; exact g k hk, fun g k hk => by rw [h _ (by omega)]; exact g k hk⟩
  obtain ⟨a1, a2, a3⟩ := z
  exact ⟨a1, fun p h1 h2 => (zz p h2).1 (a2 p h1 h2), fun h0 g => a3 h0 ((zz _ (by omega)).2 g)⟩
/-- the greatest number of a whole page -/
def Mx (Q : Nat → Int32) (i : Nat) (w : Int) : Prop := (w = 0 ∧ ∀ p, p < i → ¬ PWh Q p) ∨ ((∃ p, p < i ∧ PWh Q p ∧ pgN Q p = w) ∧ ∀ p, p < i → PWh Q p → pgN Q p ≤ w)
theorem Mx.b {Q : Nat → Int32} {i : Nat} {w : Int} (h : Mx Q i w) : 0 ≤ w ∧ w < 2147483648 := by
  rcases h with ⟨h1, -⟩ | ⟨⟨p, p1, p2, p3⟩, -⟩
  · omega
  · have := (pgN_e (Q := Q) (p := p)).2
    have := pgN_p p2
    omega
theorem Mx.skip {Q : Nat → Int32} {i : Nat} {w : Int} (h : Mx Q i w) (c : ¬ PWh Q i ∨ pgN Q i ≤ w) : Mx Q (i + 1) w := by
  rcases h with ⟨h1, h2⟩ | ⟨⟨p, p1, p2, p3⟩, h2⟩
  · refine Or.inl ⟨h1, fun p hp w' => ?_⟩
    by_cases e : p = i
    · rw [e] at w'
      rcases c with c | c
      · exact c w'
      · have := pgN_p w'
        omega
    · exact h2 p (by omega) w'
  · refine Or.inr ⟨⟨p, by omega, p2, p3⟩, fun q hq w' => ?_⟩
    by_cases e : q = i
    · rw [e] at w' ⊢
      rcases c with c | c
      · exact absurd w' c
      · exact c
    · exact h2 q (by omega) w'
theorem Mx.new {Q : Nat → Int32} {i : Nat} {w : Int} (h : Mx Q i w) (w' : PWh Q i) (c : ¬ pgN Q i ≤ w) : Mx Q (i + 1) (pgN Q i) := by
  refine Or.inr ⟨⟨i, by omega, w', rfl⟩, fun q hq wq => ?_⟩
  by_cases e : q = i
  · rw [e]; exact Int.le_refl _
  · rcases h with ⟨h1, h2⟩ | ⟨-, h2⟩
    · exact absurd wq (h2 q (by omega))
    · have := h2 q (by omega) wq
      omega
theorem Mx.sr {Q : Nat → Int32} {m : Nat} {g : Nat → Nat} {w : Int} (h : PSrt Q 20 m g) (hw : Mx Q 20 w) : w = if m = 0 then 0 else pgN Q (g (m - 1)) := by
  by_cases c : m = 0
  · rw [if_pos c]
    rcases hw with ⟨h1, h2⟩ | ⟨⟨p, p1, p2, p3⟩, h2⟩
    · exact h1
    · obtain ⟨k, k1, k2⟩ := h.all p1 p2
      omega
  · rw [if_neg c]
    have gm := h.2.1 (m - 1) (by omega)
    rcases hw with ⟨h1, h2⟩ | ⟨⟨p, p1, p2, p3⟩, h2⟩
    · exact absurd gm.2.1 (h2 _ gm.1)
    · have := h2 _ gm.1 gm.2.1
      obtain ⟨k, k1, k2⟩ := h.all p1 p2
      have := h.mo (j := k) (k := m - 1) (by omega) (by omega)
      omega
theorem opC {σ : Shp} {I : Nat → Nat → Int32} {R : Nat → Nat → Option Nat} (hS : Skel σ R) (h : GBook I) : ∃ (I1 : Nat → Nat → Int32) (m e : Nat) (g : Nat → Nat), gX1_opened σ I R = some (I1, Int32.ofInt (m : Int)) ∧ Ag [(108, 109), (111, 112)] I I1 ∧ PSrt (I 200) 20 m g ∧ I1 108 3 = Int32.ofInt (if m = 0 then 0 else pgN (I 200) (g (m - 1))) ∧ I1 108 4 = Int32.ofInt (e : Nat) ∧ Nz (I 200) 20 e ∧ I1 108 5 = 0 ∧ I1 108 6 = -1 := by
  obtain ⟨F, hF⟩ : ∃ F, FUx = F := ⟨_, rfl⟩
  have hF' : F = 2000000 := by rw [← hF, FUx_eq]
  obtain ⟨o1, o2⟩ := bkO h
  have a0 : Ag [(108, 109), (111, 112)] I (u2 (u2 I 108 6 (-1)) 108 5 0) := (Ag.rf.st rfl).st rfl
  have q9 : (u2 (u2 I 108 6 (-1)) 108 5 0) 109 = I 109 := a0.at1 109 (by omega) (by omega) rfl
  obtain ⟨I3, m, g, r1, r2, r3, r4⟩ := gaC (σ := σ) (I := u2 (u2 I 108 6 (-1)) 108 5 0) (R := R) hS (by rw [q9]; exact o1)
  rw [q9] at r3
  have s3 : PSrt (I 200) 20 m g := r3.cg h.e0
  have m20 := r3.1
  have a3 : Ag [(108, 109), (111, 112)] I I3 := a0.tr (r2.mv rfl)
  have f5 : I3 108 5 = 0 := by rw [r2 108 5 rfl]; rfl
  have f6 : I3 108 6 = -1 := by rw [r2 108 6 rfl]; rfl
  have lp : ∀ (u i f e : Nat) (I1 : Nat → Nat → Int32) (v : Int32), u < f → i + u = 20 → Ag [(108, 109), (111, 112)] I I1 → I1 108 3 = v → I1 108 4 = Int32.ofInt (e : Nat) → I1 108 5 = 0 → I1 108 6 = -1 → Nz (I 109) i e → ∃ (I2 : Nat → Nat → Int32) (e' : Nat), gX1_opened_l46 σ R f I1 (Int32.ofInt (m : Int)) (Int32.ofInt i) = some (I2, Int32.ofInt (m : Int)) ∧ Ag [(108, 109), (111, 112)] I I2 ∧ I2 108 3 = v ∧ I2 108 4 = Int32.ofInt (e' : Nat) ∧ I2 108 5 = 0 ∧ I2 108 6 = -1 ∧ Nz (I 109) 20 e' := by
    intro u
    induction u with
    | zero =>
      intro i f e I1 v hf hi ag b3 b4 b5 b6 hz
      obtain ⟨f, rfl⟩ : ∃ m, f = m + 1 := ⟨f - 1, by omega⟩
      obtain rfl : i = 20 := by omega
      rw [gX1_opened_l46, if_pos (by rw [i_ler (by omega)]; omega)]
      exact ⟨I1, e, rfl, ag, b3, b4, b5, b6, hz⟩
    | succ u ih =>
      intro i f e I1 v hf hi ag b3 b4 b5 b6 hz
      obtain ⟨f, rfl⟩ : ∃ m, f = m + 1 := ⟨f - 1, by omega⟩
      have e9 : I1 109 = I 109 := ag.at1 109 (by omega) (by omega) rfl
      obtain ⟨z, z1, z2, z3⟩ := zC (σ := σ) (I := I1) (R := R) (p := i) (a := 0) (b := 64) (by omega) (by omega) (by omega)
      rw [e9] at z2 z3
      rw [gX1_opened_l46, if_neg (by rw [i_ler (by omega)]; omega), show gX1_allZero σ I1 R (Int32.ofInt i) 0 64 = _ from z1, ob_some]
      by_cases c : Zp (I 109) i
      · rw [if_neg (by rw [z2 (fun k h1 h2 => c k h2)]; exact n10)]
        dsimp only
        rw [iadd1]
        exact ih (i + 1) f e I1 v (by omega) (by omega) ag b3 b4 b5 b6 (hz.z c)
      · rw [if_pos (z3 fun g => c fun k hk => g k (by omega) hk)]
        dsimp only
        rw [iadd1]
        exact ih (i + 1) f (i + 1) _ v (by omega) (by omega) (ag.st rfl) (by rw [u2n (by omega)]; exact b3) (by rw [u2s ⟨rfl, rfl⟩]) (by rw [u2n (by omega)]; exact b5) (by rw [u2n (by omega)]; exact b6) (Nz.n c)
  have z0 : Nz (I 109) 0 0 := ⟨Nat.le_refl _, fun p h1 h2 => by omega, fun h => by omega⟩
  unfold gX1_opened
  dsimp only
  rw [r1, ob_some, hF]
  dsimp only
  by_cases c : m = 0
  · rw [if_pos (by rw [c]; rfl)]
    obtain ⟨I2, e', y1, y2, y3, y4, y5, y6, y7⟩ := lp 20 0 F 0 (u2 (u2 I3 108 3 0) 108 4 0) 0 (by omega) (by omega) ((a3.st rfl).st rfl) rfl rfl (by rw [u2n (by omega), u2n (by omega)]; exact f5) (by rw [u2n (by omega), u2n (by omega)]; exact f6) z0
    exact ⟨I2, m, e', g, y1, y2, s3, by rw [if_pos c]; exact y3, y4, y7.cg h.e0, y5, y6⟩
  · have gm := r3.2.1 (m - 1) (by omega)
    have e9 : I3 109 = I 109 := a3.at1 109 (by omega) (by omega) rfl
    rw [if_neg (by rw [i_eql (by omega)]; omega), i_subl, show (m : Int) - 1 = ((m - 1 : Nat) : Int) by omega, if_pos (by rw [i_gd (by omega)]; exact id), t41 (t := m - 1) (by omega), r4 (m - 1) (by omega), pgC gm.1, ob_some, e9, (pgN_eq h.e0 gm.1).1]
    obtain ⟨I2, e', y1, y2, y3, y4, y5, y6, y7⟩ := lp 20 0 F 0 (u2 (u2 I3 108 3 (Int32.ofInt (pgN (I 200) (g (m - 1))))) 108 4 0) (Int32.ofInt (pgN (I 200) (g (m - 1)))) (by omega) (by omega) ((a3.st rfl).st rfl) rfl rfl (by rw [u2n (by omega), u2n (by omega)]; exact f5) (by rw [u2n (by omega), u2n (by omega)]; exact f6) z0
    exact ⟨I2, m, e', g, y1, y2, s3, by rw [if_neg c]; exact y3, y4, y7.cg h.e0, y5, y6⟩
theorem opM {σ : Shp} {I : Nat → Nat → Int32} {R : Nat → Nat → Option Nat} {m : Nat} {g : Nat → Nat} (hS : Skel σ R) (hO : Oct (I 200)) (hs : PSrt (I 200) 20 m g) : ∃ (I1 : Nat → Nat → Int32) (e : Nat) (w : Int), gX12_open1 σ I R = some (I1, Int32.ofInt (m : Int)) ∧ Ag [(1000129, 1000133)] I I1 ∧ I1 114 129 = Int32.ofInt w ∧ I1 114 130 = Int32.ofInt (e : Nat) ∧ I1 114 131 = 0 ∧ I1 114 132 = -1 ∧ Nz (I 200) 20 e ∧ Mx (I 200) 20 w := by
  obtain ⟨F, hF⟩ : ∃ F, FUx = F := ⟨_, rfl⟩
  have hF' : F = 2000000 := by rw [← hF, FUx_eq]
  have k114 : kdx σ 114 = 13 := hS.k 114 13 (by decide) rfl
  have lz : ∀ (q22 : (Nat → Nat → Int32) → (Int32) → (Option ((Nat → Nat → Int32) × (Int32)))) (I1 : Nat → Nat → Int32) (i : Nat), i < 20 → I1 200 = I 200 → ∀ (u j f : Nat) (x : Int32), u < f → j + u = 64 → (x = 1 ∧ ¬ Zp (I 200) i ∨ x = 0 ∧ ∀ k, k < j → I 200 (64 * i + k) = 0) → gX12_open1_l32 q22 σ R f I1 (Int32.ofInt i) x (Int32.ofInt j) = gX12_open1_b83 q22 σ R I1 (Int32.ofInt i) (some 114) (@ite _ (Zp (I 200) i) (Classical.propDecidable _) (I1 114 130) (Int32.ofInt ((i + 1 : Nat) : Int))) := by
    intro q22 I1 i hi e2 u
    induction u with
    | zero =>
      intro j f x hf hj hx
      obtain ⟨f, rfl⟩ : ∃ m, f = m + 1 := ⟨f - 1, by omega⟩
      rw [gX12_open1_l32, if_pos (by rw [i_ler (by omega)]; omega)]
      rcases hx with ⟨rfl, q⟩ | ⟨rfl, q⟩
      · rw [if_neg n10, iadd1, if_neg q]
      · rw [if_pos rfl, if_pos (show Zp (I 200) i from fun k hk => q k (by omega))]
    | succ u ih =>
      intro j f x hf hj hx
      obtain ⟨f, rfl⟩ : ∃ m, f = m + 1 := ⟨f - 1, by omega⟩
      rw [gX12_open1_l32, if_neg (by rw [i_ler (by omega)]; omega)]
      rcases hx with ⟨rfl, q⟩ | ⟨rfl, q⟩
      · rw [if_neg n10]
        dsimp only
        rw [iadd1]
        exact ih (j + 1) f 1 (by omega) (by omega) (Or.inl ⟨rfl, q⟩)
      · rw [if_pos rfl, i_mulr, i_add, show (64 : Int) * (i : Int) + (j : Int) = ((64 * i + j : Nat) : Int) by omega, if_pos (by rw [i_gd (by omega)]; exact id), t41 (t := 64 * i + j) (by omega), e2]
        dsimp only
        rw [iadd1]
        by_cases c : I 200 (64 * i + j) = 0
        · rw [if_pos c]
          refine ih (j + 1) f 0 (by omega) (by omega) (Or.inr ⟨rfl, fun k hk => ?_⟩)
          by_cases e : k = j
          · rw [e]; exact c
          · exact q k (by omega)
        · rw [if_neg c]
          exact ih (j + 1) f 1 (by omega) (by omega) (Or.inl ⟨rfl, fun z => c (z j (by omega))⟩)
  have lp : ∀ (u i f e : Nat) (w : Int) (I1 : Nat → Nat → Int32), u < f → i + u = 20 → Ag [(1000129, 1000133)] I I1 → I1 114 129 = Int32.ofInt w → I1 114 130 = Int32.ofInt (e : Nat) → I1 114 131 = 0 → I1 114 132 = -1 → Nz (I 200) i e → Mx (I 200) i w → ∃ (I2 : Nat → Nat → Int32) (e : Nat) (w : Int), gX12_open1_l22 σ R f I1 (Int32.ofInt i) = some (I2, Int32.ofInt (m : Int)) ∧ Ag [(1000129, 1000133)] I I2 ∧ I2 114 129 = Int32.ofInt w ∧ I2 114 130 = Int32.ofInt (e : Nat) ∧ I2 114 131 = 0 ∧ I2 114 132 = -1 ∧ Nz (I 200) 20 e ∧ Mx (I 200) 20 w := by
    intro u
    induction u with
    | zero =>
      intro i f e w I1 hf hi ag b1 b2 b3 b4 hz hm
      obtain ⟨f, rfl⟩ : ∃ m, f = m + 1 := ⟨f - 1, by omega⟩
      obtain rfl : i = 20 := by omega
      have e2 : I1 200 = I 200 := ag.at1 200 (by omega) (by omega) rfl
      rw [gX12_open1_l22, if_pos (by rw [i_ler (by omega)]; omega), rmM hS (by rw [e2]; exact hO) (by rw [e2]; exact hs)]
      exact ⟨I1, e, w, rfl, ag, b1, b2, b3, b4, hz, hm⟩
    | succ u ih =>
      intro i f e w I1 hf hi ag b1 b2 b3 b4 hz hm
      obtain ⟨f, rfl⟩ : ∃ m, f = m + 1 := ⟨f - 1, by omega⟩
      have e2 : I1 200 = I 200 := ag.at1 200 (by omega) (by omega) rfl
      have l1 := lz (gX12_open1_l22 σ R f) I1 i (by omega) e2 64 0 F 0 (by omega) (by omega) (Or.inr ⟨rfl, fun k h => by omega⟩)
      rw [gX12_open1_l22, if_neg (by rw [i_ler (by omega)]; omega), hF, show gX12_open1_l32 (gX12_open1_l22 σ R f) σ R F I1 (Int32.ofInt i) 0 0 = _ from l1]
      have key : ∀ (s : Int32) (e' : Nat), s = Int32.ofInt (e' : Nat) → Nz (I 200) (i + 1) e' → ∃ (I2 : Nat → Nat → Int32) (e : Nat) (w : Int), gX12_open1_b83 (gX12_open1_l22 σ R f) σ R I1 (Int32.ofInt i) (some 114) s = some (I2, Int32.ofInt (m : Int)) ∧ Ag [(1000129, 1000133)] I I2 ∧ I2 114 129 = Int32.ofInt w ∧ I2 114 130 = Int32.ofInt (e : Nat) ∧ I2 114 131 = 0 ∧ I2 114 132 = -1 ∧ Nz (I 200) 20 e ∧ Mx (I 200) 20 w := fun s e' es hz' => by
        have ag9 : Ag [(1000129, 1000133)] I (u2 I1 114 130 s) := ag.st rfl
        have e29 : (u2 I1 114 130 s) 200 = I 200 := ag9.at1 200 (by omega) (by omega) rfl
        have c129 : (u2 I1 114 130 s) 114 129 = Int32.ofInt w := by rw [u2n (by omega)]; exact b1
        have fin : ∀ (v : Int) (I9 : Nat → Nat → Int32), I9 = u2 I1 114 130 s → Mx (I 200) (i + 1) v → ∃ (I2 : Nat → Nat → Int32) (e : Nat) (w : Int), gX12_open1_l22 σ R f (u2 I9 114 129 (Int32.ofInt v)) (Int32.ofInt ((i + 1 : Nat) : Int)) = some (I2, Int32.ofInt (m : Int)) ∧ Ag [(1000129, 1000133)] I I2 ∧ I2 114 129 = Int32.ofInt w ∧ I2 114 130 = Int32.ofInt (e : Nat) ∧ I2 114 131 = 0 ∧ I2 114 132 = -1 ∧ Nz (I 200) 20 e ∧ Mx (I 200) 20 w := fun v I9 e9 hv => by
          rw [e9]
          exact ih (i + 1) f e' v _ (by omega) (by omega) (ag9.st rfl) (by rw [u2s ⟨rfl, rfl⟩]) (by rw [u2n (by omega), u2s ⟨rfl, rfl⟩]; exact es) (by rw [u2n (by omega), u2n (by omega)]; exact b3) (by rw [u2n (by omega), u2n (by omega)]; exact b4) hz' hv
        have mb := hm.b
        unfold gX12_open1_b83
        rw [ob_some, if_pos k114]
        dsimp only
        rw [whM hS (by rw [e29]; exact hO) (by omega), ob_some, e29, iadd1, c129]
        by_cases c : PWh (I 200) i
        · have b := (pgN_e (Q := I 200) (p := i)).2
          rw [if_neg (by rw [pWz]; exact fun g => g c), pgM hS (by omega), ob_some, e29]
          by_cases d : pgN (I 200) i ≤ w
          · rw [if_pos (by rw [i_le (by omega) (by omega)]; exact d)]
            exact fin w _ rfl (hm.skip (Or.inr d))
          · rw [if_neg (by rw [i_le (by omega) (by omega)]; exact d), ob_some]
            exact fin _ _ rfl (hm.new c d)
        · rw [if_pos (by rw [pWz]; exact c)]
          exact fin w _ rfl (hm.skip (Or.inl c))
      by_cases z : Zp (I 200) i
      · rw [if_pos z]
        exact key _ e b2 (hz.z z)
      · rw [if_neg z]
        exact key _ (i + 1) rfl (Nz.n z)
  unfold gX12_open1
  dsimp only
  rw [hF]
  exact lp 20 0 F 0 0 _ (by omega) (by omega) ((((Ag.rf.st rfl).st rfl).st rfl).st rfl) rfl rfl rfl rfl ⟨Nat.le_refl _, fun p h1 h2 => by omega, fun h => by omega⟩ (Or.inl ⟨rfl, fun p h => by omega⟩)
theorem c_open1 {σ : Shp} {I : Nat → Nat → Int32} {R : Nat → Nat → Option Nat} (hS : Skel σ R) (h : GBook I) : Tot (gX11_open1 σ I R) (fun t => Tot (gX12_open1 σ t.1 R) (fun t2 => t.2 = t2.2 ∧ GBook t2.1 ∧ Ag [(108, 109), (111, 112), (1000129, 1000133)] I t2.1)) := by
  obtain ⟨I1, m, e, g, a1, a2, a3, a4, a5, a6, a7, a8⟩ := opC (σ := σ) (R := R) hS h
  have e2 : I1 200 = I 200 := a2.at1 200 (by omega) (by omega) rfl
  have e9 : I1 109 = I 109 := a2.at1 109 (by omega) (by omega) rfl
  obtain ⟨I2, e', w, b1, b2, b3, b4, b5, b6, b7, b8⟩ := opM (σ := σ) (I := I1) (R := R) (m := m) (g := g) hS (by rw [e2]; exact h.e1) (by rw [e2]; exact a3)
  rw [e2] at b7 b8
  obtain rfl := a6.uq b7
  have w1 := b8.b
  obtain rfl := b8.sr a3
  have gb : GBook I2 := by
    refine ⟨fun k hk => ?_, fun k hk => ?_, ?_, ?_, ?_, fun _ => ?_, ?_, ?_, ?_, ?_⟩
    · rw [b2 109 k rfl, b2 200 k rfl, e2, e9]; exact h.e0 k hk
    · rw [b2 200 k rfl, e2]; exact h.e1 k hk
    · rw [b2 108 3 rfl, a4, b3]
    · rw [b2 108 4 rfl, a5, b4]
    · rw [b2 108 5 rfl, a7, b5]
    · rw [b2 108 6 rfl, a8, b6]
    · exact ⟨_, by omega, by omega, b3⟩
    · have := a6.1
      exact ⟨(e : Int), by omega, by omega, b4⟩
    · exact ⟨0, by omega, by omega, b5⟩
    · exact ⟨-1, by omega, by omega, by rw [b6]; decide⟩
  refine tt (I1, Int32.ofInt (m : Int)) (I2, Int32.ofInt (m : Int)) ?_ b1 ⟨rfl, gb, (a2.mv rfl).tr (b2.mv rfl)⟩
  unfold gX11_open1
  rw [a1]
  rfl
