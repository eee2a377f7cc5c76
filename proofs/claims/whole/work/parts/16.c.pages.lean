/-! ===== pages: the model's numbers one above the other; page ===== -/
def AbV (Q : Nat → Int32) (i : Nat) (v a : Int) : Prop := (a = 0 ∧ ∀ p, p < i → PWh Q p → pgN Q p ≤ v) ∨ (v < a ∧ (∃ p, p < i ∧ PWh Q p ∧ pgN Q p = a) ∧ ∀ p, p < i → PWh Q p → v < pgN Q p → a ≤ pgN Q p)
theorem AbV.skip {Q : Nat → Int32} {i : Nat} {v a : Int} (h : AbV Q i v a) (c : ¬ PWh Q i ∨ pgN Q i ≤ v ∨ (a ≠ 0 ∧ a ≤ pgN Q i)) : AbV Q (i + 1) v a := by
  rcases h with ⟨h1, h2⟩ | ⟨h1, ⟨p, p1, p2, p3⟩, h3⟩
  · refine Or.inl ⟨h1, fun p hp w => ?_⟩
    by_cases e : p = i
    · rw [e] at w ⊢
      rcases c with c | c | c
      · exact absurd w c
      · exact c
      · exact absurd h1 c.1
    · exact h2 p (by omega) w
  · refine Or.inr ⟨h1, ⟨p, by omega, p2, p3⟩, fun q hq w g => ?_⟩
    by_cases e : q = i
    · rw [e] at w g ⊢
      rcases c with c | c | c
      · exact absurd w c
      · omega
      · exact c.2
    · exact h3 q (by omega) w g
theorem AbV.new {Q : Nat → Int32} {i : Nat} {v a : Int} (h : AbV Q i v a) (hv : 0 ≤ v) (w : PWh Q i) (c : v < pgN Q i) (d : a = 0 ∨ pgN Q i ≤ a) : AbV Q (i + 1) v (pgN Q i) := by
  refine Or.inr ⟨c, ⟨i, by omega, w, rfl⟩, fun q hq w' g => ?_⟩
  by_cases e : q = i
  · rw [e]; exact Int.le_refl _
  · rcases h with ⟨h1, h2⟩ | ⟨h1, -, h3⟩
    · have := h2 q (by omega) w'
      omega
    · have := h3 q (by omega) w' g
      omega
theorem abM {σ : Shp} {I : Nat → Nat → Int32} {R : Nat → Nat → Option Nat} {v : Int} (hS : Skel σ R) (hO : Oct (I 200)) (hv : 0 ≤ v ∧ v < 2147483648) : ∃ a, AbV (I 200) 20 v a ∧ gX12_above σ I R (Int32.ofInt v) = some (Int32.ofInt a) := by
  obtain ⟨F, hF⟩ : ∃ F, FUx = F := ⟨_, rfl⟩
  have hF' : F = 2000000 := by rw [← hF, FUx_eq]
  have lp : ∀ (u i f : Nat) (a : Int), u < f → i + u = 20 → 0 ≤ a ∧ a < 2147483648 → AbV (I 200) i v a → ∃ a', AbV (I 200) 20 v a' ∧ gX12_above_l4 σ I R f (Int32.ofInt v) (Int32.ofInt a) (Int32.ofInt i) = some (Int32.ofInt a') := by
    intro u
    induction u with
    | zero =>
      intro i f a hf hi ha h
      obtain ⟨f, rfl⟩ : ∃ m, f = m + 1 := ⟨f - 1, by omega⟩
      obtain rfl : i = 20 := by omega
      rw [gX12_above_l4, if_pos (by rw [i_ler (by omega)]; omega)]
      exact ⟨a, h, rfl⟩
    | succ u ih =>
      intro i f a hf hi ha h
      obtain ⟨f, rfl⟩ : ∃ m, f = m + 1 := ⟨f - 1, by omega⟩
      rw [gX12_above_l4, if_neg (by rw [i_ler (by omega)]; omega), whM hS hO (by omega), ob_some]
      by_cases w : PWh (I 200) i
      · rw [if_neg (by rw [pWz]; exact fun g => g w), pgM hS (by omega), ob_some]
        have b := (pgN_e (Q := I 200) (p := i)).2
        have b1 := pgN_p w
        unfold gX12_above_b27
        dsimp only
        rw [iadd1]
        by_cases c : pgN (I 200) i ≤ v
        · rw [if_pos (by rw [i_le (by omega) (by omega)]; exact c)]
          exact ih (i + 1) f a (by omega) (by omega) ha (h.skip (Or.inr (Or.inl c)))
        rw [if_neg (by rw [i_le (by omega) (by omega)]; exact c)]
        by_cases d : a = 0
        · rw [if_pos (by rw [d]; rfl)]
          exact ih (i + 1) f _ (by omega) (by omega) (by omega) (h.new hv.1 w (by omega) (Or.inl d))
        rw [if_neg (by rw [i_eql (by omega)]; exact d)]
        by_cases e : a ≤ pgN (I 200) i
        · rw [if_pos (by rw [i_le (by omega) (by omega)]; exact e)]
          exact ih (i + 1) f a (by omega) (by omega) ha (h.skip (Or.inr (Or.inr ⟨d, e⟩)))
        · rw [if_neg (by rw [i_le (by omega) (by omega)]; exact e)]
          exact ih (i + 1) f _ (by omega) (by omega) (by omega) (h.new hv.1 w (by omega) (Or.inr (by omega)))
      · rw [if_pos (by rw [pWz]; exact w)]
        unfold gX12_above_b27
        dsimp only
        rw [iadd1, if_pos (show (0 : Int32) ≤ Int32.ofInt v by rw [i_ler (by omega)]; omega)]
        exact ih (i + 1) f a (by omega) (by omega) ha (h.skip (Or.inl w))
  unfold gX12_above
  rw [hF]
  exact lp 20 0 F 0 (by omega) (by omega) (by omega) (Or.inl ⟨rfl, fun p h => by omega⟩)
/-- the j-th number of the list, 0 past its end -/
def hN (Q : Nat → Int32) (m : Nat) (g : Nat → Nat) (j : Nat) : Int := if j < m then pgN Q (g j) else 0
theorem PSrt.all {Q : Nat → Int32} {m : Nat} {g : Nat → Nat} (h : PSrt Q 20 m g) {p : Nat} (hp : p < 20) (w : PWh Q p) : ∃ k, k < m ∧ pgN Q (g k) = pgN Q p := by
  obtain ⟨q, q1, q2⟩ := PLst.ex p w rfl
  obtain ⟨k, k1, k2⟩ := h.2.2.2 q (by omega) (by rw [q2.2.1]; exact q2)
  exact ⟨k, k1, by rw [k2]; exact q2.2.1⟩
theorem PSrt.mo {Q : Nat → Int32} {m : Nat} {g : Nat → Nat} (h : PSrt Q 20 m g) {j k : Nat} (hj : j ≤ k) (hk : k < m) : pgN Q (g j) ≤ pgN Q (g k) := by
  by_cases e : j = k
  · rw [e]; exact Int.le_refl _
  · have := h.2.2.1 j k (by omega) hk
    omega
theorem AbV.nx {Q : Nat → Int32} {m : Nat} {g : Nat → Nat} (h : PSrt Q 20 m g) {j : Nat} (hj : j ≤ m) {v a : Int} (hv : v = if j = 0 then 0 else pgN Q (g (j - 1))) (ha : AbV Q 20 v a) : a = hN Q m g j := by
  have low : ∀ k, k < m → v < pgN Q (g k) → j ≤ k := fun k hk c => by
    by_cases d : j ≤ k
    · exact d
    · rw [if_neg (by omega)] at hv
      have := h.mo (j := k) (k := j - 1) (by omega) (by omega)
      omega
  unfold hN
  by_cases c : j < m
  · rw [if_pos c]
    have gj := h.2.1 j c
    have vj : v < pgN Q (g j) := by
      rw [hv]
      by_cases e : j = 0
      · rw [if_pos e]; have := pgN_p gj.2.1; omega
      · rw [if_neg e]; exact h.2.2.1 (j - 1) j (by omega) c
    rcases ha with ⟨h1, h2⟩ | ⟨h1, ⟨p, p1, p2, p3⟩, h3⟩
    · have := h2 (g j) gj.1 gj.2.1
      omega
    · have := h3 (g j) gj.1 gj.2.1 vj
      obtain ⟨k, k1, k2⟩ := h.all p1 p2
      have := low k k1 (by omega)
      have := h.mo this k1
      omega
  · rw [if_neg c]
    rcases ha with ⟨h1, h2⟩ | ⟨h1, ⟨p, p1, p2, p3⟩, h3⟩
    · exact h1
    · obtain ⟨k, k1, k2⟩ := h.all p1 p2
      have := low k k1 (by omega)
      omega
theorem hN_b {Q : Nat → Int32} {m : Nat} {g : Nat → Nat} (h : PSrt Q 20 m g) {j : Nat} : (j < m → 1 ≤ hN Q m g j ∧ hN Q m g j < 2147483648) ∧ (¬ j < m → hN Q m g j = 0) := by
  unfold hN
  constructor
  · intro c
    rw [if_pos c]
    have b := (pgN_e (Q := Q) (p := g j)).2
    have := pgN_p (h.2.1 j c).2.1
    omega
  · intro c
    rw [if_neg c]
theorem abN {σ : Shp} {I : Nat → Nat → Int32} {R : Nat → Nat → Option Nat} {m : Nat} {g : Nat → Nat} (hS : Skel σ R) (hO : Oct (I 200)) (h : PSrt (I 200) 20 m g) : gX12_above σ I R 0 = some (Int32.ofInt (hN (I 200) m g 0)) ∧ ∀ j, j < m → gX12_above σ I R (Int32.ofInt (hN (I 200) m g j)) = some (Int32.ofInt (hN (I 200) m g (j + 1))) := by
  constructor
  · obtain ⟨a, a1, a2⟩ := abM (v := 0) hS hO (by omega)
    rw [show gX12_above σ I R 0 = _ from a2, AbV.nx h (j := 0) (by omega) (by rw [if_pos rfl]) a1]
  · intro j hj
    have b := (hN_b h (j := j)).1 hj
    obtain ⟨a, a1, a2⟩ := abM (v := hN (I 200) m g j) hS hO (by omega)
    rw [a2, AbV.nx h (j := j + 1) (by omega) (by rw [if_neg (by omega)]; unfold hN; rw [if_pos hj]; rfl) a1]
theorem rmM {σ : Shp} {I : Nat → Nat → Int32} {R : Nat → Nat → Option Nat} {m : Nat} {g : Nat → Nat} (hS : Skel σ R) (hO : Oct (I 200)) (h : PSrt (I 200) 20 m g) : gX12_readMany σ I R = some (Int32.ofInt (m : Int)) := by
  obtain ⟨F, hF⟩ : ∃ F, FUx = F := ⟨_, rfl⟩
  have hF' : F = 2000000 := by rw [← hF, FUx_eq]
  obtain ⟨n0, nS⟩ := abN hS hO h
  have m20 := h.1
  have lp : ∀ (u j f : Nat), u < f → j + u = m → gX12_readMany_l8 σ I R f (Int32.ofInt j) (Int32.ofInt (hN (I 200) m g j)) = some (Int32.ofInt (m : Int)) := by
    intro u
    induction u with
    | zero =>
      intro j f hf hj
      obtain ⟨f, rfl⟩ : ∃ m, f = m + 1 := ⟨f - 1, by omega⟩
      rw [gX12_readMany_l8, (hN_b h (j := j)).2 (by omega), if_pos (by rw [i_lel (by omega)]; omega), show j = m by omega]
    | succ u ih =>
      intro j f hf hj
      obtain ⟨f, rfl⟩ : ∃ m, f = m + 1 := ⟨f - 1, by omega⟩
      have b := (hN_b h (j := j)).1 (by omega)
      rw [gX12_readMany_l8, if_neg (by rw [i_lel (by omega)]; omega)]
      dsimp only
      rw [nS j (by omega), ob_some, iadd1]
      exact ih (j + 1) f (by omega) (by omega)
  unfold gX12_readMany
  rw [n0, ob_some, hF]
  exact lp m 0 F (by omega) (by omega)
theorem pgN_eq {Q Q' : Nat → Int32} (h : ∀ k, k < 1280 → Q k = Q' k) {p : Nat} (hp : p < 20) : pgN Q p = pgN Q' p ∧ (PWh Q p ↔ PWh Q' p) := by
  constructor
  · unfold pgN
    rw [wd_eq 4 (64 * p) 0 fun k h1 h2 => h k (by omega)]
  · exact (pW_eq fun k hk => h _ (by omega)).1
theorem PLst.cg {Q Q' : Nat → Int32} (h : ∀ k, k < 1280 → Q k = Q' k) {p : Nat} {v : Int} (hp : p < 20) (l : PLst Q v p) : PLst Q' v p := by
  obtain ⟨l1, l2, l3⟩ := l
  refine ⟨(pgN_eq h hp).2.1 l1, by rw [← (pgN_eq h hp).1]; exact l2, fun r hr w => ?_⟩
  rw [← (pgN_eq h (show r < 20 by omega)).1]
  exact l3 r hr ((pgN_eq h (by omega)).2.2 w)
theorem PSrt.cg {Q Q' : Nat → Int32} (h : ∀ k, k < 1280 → Q k = Q' k) {m : Nat} {g : Nat → Nat} (s : PSrt Q 20 m g) : PSrt Q' 20 m g := by
  obtain ⟨a1, a2, a3, a4⟩ := s
  refine ⟨a1, fun j hj => ⟨(a2 j hj).1, ?_⟩, fun j k h1 h2 => ?_, fun p hp l => ?_⟩
  · rw [← (pgN_eq h (a2 j hj).1).1]
    exact (a2 j hj).2.cg h (a2 j hj).1
  · rw [← (pgN_eq h (a2 j (by omega)).1).1, ← (pgN_eq h (a2 k h2).1).1]
    exact a3 j k h1 h2
  · refine a4 p hp ?_
    rw [(pgN_eq h hp).1]
    exact l.cg (fun k hk => (h k hk).symm) hp
/-- what both sides know of the pages -/
theorem bkO {I : Nat → Nat → Int32} (h : GBook I) : Oct (I 109) ∧ Oct (I 200) := ⟨fun k hk => by rw [h.e0 k hk]; exact h.e1 k hk, h.e1⟩
theorem bkG {σ : Shp} {I : Nat → Nat → Int32} {R : Nat → Nat → Option Nat} (hS : Skel σ R) (h : GBook I) : ∃ (I1 : Nat → Nat → Int32) (m : Nat) (g : Nat → Nat), gX1_gatherRead σ I R = some (I1, Int32.ofInt (m : Int)) ∧ Ag [(111, 112)] I I1 ∧ (I1 109 = I 109 ∧ I1 200 = I 200) ∧ PSrt (I 200) 20 m g ∧ ∀ j, j < m → I1 111 j = Int32.ofInt (g j : Nat) := by
  obtain ⟨I1, m, g, a1, a2, a3, a4⟩ := gaC hS (bkO h).1
  exact ⟨I1, m, g, a1, a2, ⟨a2.at1 109 (by omega) (by omega) rfl, a2.at1 200 (by omega) (by omega) rfl⟩, a3.cg h.e0, a4⟩
theorem c_page {σ : Shp} {I : Nat → Nat → Int32} {R : Nat → Nat → Option Nat} {x1 x2 : Int32} (hS : Skel σ R) (h : GBook I) : Tot (gX11_page σ I R x1 x2) (fun t => Tot (gX12_page σ t.1 R x1 x2) (fun t2 => t.2 = t2 ∧ GBook t.1 ∧ Ag [(111, 112)] I t.1)) := by
  obtain ⟨i, hi1, hi2, rfl⟩ := rep x1
  obtain ⟨x, hx1, hx2, rfl⟩ := rep x2
  obtain ⟨F, hF⟩ : ∃ F, FUx = F := ⟨_, rfl⟩
  have hF' : F = 2000000 := by rw [← hF, FUx_eq]
  by_cases c1 : 0 ≤ i
  case neg =>
    refine tt (I, -1) (-1) ?_ ?_ ⟨rfl, h, Ag.rf⟩
    · unfold gX11_page gX1_readOf
      rw [if_pos (by rw [i_ltl (by omega)]; omega), ob_some]
    · unfold gX12_page
      rw [if_neg (by rw [i_ler (by omega)]; omega)]
  obtain ⟨I1, m, g, a1, a2, ⟨a3, a3'⟩, a4, a5⟩ := bkG (σ := σ) (R := R) hS h
  have hB : GBook I1 := h.kp (a2.kp rfl)
  obtain ⟨o1, o2⟩ := bkO hB
  have a4' : PSrt (I1 200) 20 m g := by rw [a3']; exact a4
  obtain ⟨n0, nS⟩ := abN hS o2 a4'
  obtain ⟨t, rfl⟩ : ∃ k : Nat, i = (k : Int) := ⟨i.toNat, by omega⟩
  have m20 := a4.1
  by_cases c2 : t < m
  case neg =>
    refine tt (I1, -1) (-1) ?_ ?_ ⟨rfl, hB, a2⟩
    · unfold gX11_page gX1_readOf
      rw [if_neg (by rw [i_ltl (by omega)]; omega), a1, ob_some]
      dsimp only
      rw [if_pos (by rw [i_le (by omega) (by omega)]; omega)]
      rfl
    · show gX12_page σ I1 R _ _ = _
      unfold gX12_page
      rw [if_pos (by rw [i_ler (by omega)]; omega), n0, ob_some, hF]
      have lp : ∀ (u j f : Nat), u < f → j + u = m → gX12_page_l17 σ I1 R f (Int32.ofInt (t : Int)) (Int32.ofInt x) (Int32.ofInt (hN (I1 200) m g j)) (Int32.ofInt j) = some (-1) := by
        intro u
        induction u with
        | zero =>
          intro j f hf hj
          obtain ⟨f, rfl⟩ : ∃ m, f = m + 1 := ⟨f - 1, by omega⟩
          have e : gX12_page_b39 σ I1 R (Int32.ofInt x) (Int32.ofInt (hN (I1 200) m g j)) = some (-1) := by
            unfold gX12_page_b39
            rw [(hN_b a4' (j := j)).2 (by omega), if_pos (show Int32.ofInt 0 = 0 from rfl)]
          rw [gX12_page_l17, e]
          by_cases q : t ≤ j
          · rw [if_pos (by rw [i_le (by omega) (by omega)]; omega)]
          · rw [if_neg (by rw [i_le (by omega) (by omega)]; omega), (hN_b a4' (j := j)).2 (by omega), if_pos (by rw [i_lel (by omega)]; omega)]
        | succ u ih =>
          intro j f hf hj
          obtain ⟨f, rfl⟩ : ∃ m, f = m + 1 := ⟨f - 1, by omega⟩
          have b := (hN_b a4' (j := j)).1 (by omega)
          rw [gX12_page_l17, if_neg (by rw [i_le (by omega) (by omega)]; omega), if_neg (by rw [i_lel (by omega)]; omega), nS j (by omega), ob_some]
          dsimp only
          rw [iadd1]
          exact ih (j + 1) f (by omega) (by omega)
      exact lp m 0 F (by omega) (by omega)
  have gt := a4'.2.1 t c2
  have gl := gt.2
  have gt1 := gt.1
  obtain ⟨-, -, c, d1, d2, -⟩ := gl.1
  have e109 : ∀ k, k < 1280 → I1 109 k = I1 200 k := hB.e0
  have n5 := nAt (σ := σ) (I := I1) (R := R) (p := g t) (a := 5) (n := 1) gt.1 (by omega)
  have n4 := nAt (σ := σ) (I := I1) (R := R) (p := g t) (a := 4) (n := 1) gt.1 (by omega)
  rw [wd1, e109 _ (by omega)] at n4 n5
  have bn := (pgN_e (Q := I1 200) (p := g t)).2
  have b0 := pgN_p gl.1
  have mdl : ∀ z, gX12_page_b39 σ I1 R (Int32.ofInt x) (Int32.ofInt (pgN (I1 200) (g t))) = some z → gX12_page σ I1 R (Int32.ofInt (t : Int)) (Int32.ofInt x) = some z := fun z hz => by
    unfold gX12_page
    rw [if_pos (by rw [i_ler (by omega)]; omega), n0, ob_some, hF]
    have lp : ∀ (u j f : Nat), u < f → j + u = t → gX12_page_l17 σ I1 R f (Int32.ofInt (t : Int)) (Int32.ofInt x) (Int32.ofInt (hN (I1 200) m g j)) (Int32.ofInt j) = some z := by
      intro u
      induction u with
      | zero =>
        intro j f hf hj
        obtain ⟨f, rfl⟩ : ∃ m, f = m + 1 := ⟨f - 1, by omega⟩
        obtain rfl : j = t := by omega
        rw [gX12_page_l17, if_pos (by rw [i_le (by omega) (by omega)]; omega)]
        unfold hN
        rw [if_pos c2]
        exact hz
      | succ u ih =>
        intro j f hf hj
        obtain ⟨f, rfl⟩ : ∃ m, f = m + 1 := ⟨f - 1, by omega⟩
        have b := (hN_b a4' (j := j)).1 (by omega)
        rw [gX12_page_l17, if_neg (by rw [i_le (by omega) (by omega)]; omega), if_neg (by rw [i_lel (by omega)]; omega), nS j (by omega), ob_some]
        dsimp only
        rw [iadd1]
        exact ih (j + 1) f (by omega) (by omega)
    exact lp t 0 F (by omega) (by omega)
  have m39 : ∀ z, (if Int32.ofInt x < (10 : Int32) then gX12_page_b109 σ I1 R (Int32.ofInt x) (Int32.ofInt (pgN (I1 200) (g t))) (Int32.ofInt (g t : Nat)) (Int32.ofInt (c : Nat)) else if Int32.ofInt (c : Nat) ≤ (Int32.ofInt x - (10 : Int32)) then gX12_page_b109 σ I1 R (Int32.ofInt x) (Int32.ofInt (pgN (I1 200) (g t))) (Int32.ofInt (g t : Nat)) (Int32.ofInt (c : Nat)) else (gX12_wide σ I1 (some 200) ((((64 : Int32) * Int32.ofInt (g t : Nat)) + (12 : Int32)) + ((8 : Int32) * (Int32.ofInt x - (10 : Int32)))) (8 : Int32)).bind fun r8 => some r8) = some z → gX12_page σ I1 R (Int32.ofInt (t : Int)) (Int32.ofInt x) = some z := fun z hz => mdl z (by
    unfold gX12_page_b39
    rw [if_neg (by rw [i_eql (by omega)]; omega), poM hS o2 gt.1 (by omega) gl, ob_some, i_mulr, i_addl, show (64 : Int) * (g t : Int) + 5 = ((64 * g t + 5 : Nat) : Int) by omega, if_pos (by rw [i_gd (by omega)]; exact id), t41 (t := 64 * g t + 5) (by omega), d2, ← i_mulr]
    exact hz)
  have cls : ∀ z : Int64, (if Int32.ofInt x = (0 : Int32) then some (I1, (Int32.toInt64 (Int32.ofInt (g t : Nat)))) else if Int32.ofInt x = (1 : Int32) then (gX1_numberOf σ I1 R (Int32.ofInt (g t : Nat))).bind fun r17 => some (I1, (Int32.toInt64 r17)) else if Int32.ofInt x = (2 : Int32) then (gX1_numberAt σ I1 R (Int32.ofInt (g t : Nat)) (4 : Int32) (1 : Int32)).bind fun r15 => some (I1, r15) else if Int32.ofInt x = (3 : Int32) then some (I1, (Int32.toInt64 (Int32.ofInt (c : Nat)))) else if Int32.ofInt x < (10 : Int32) then some (I1, (-1 : Int64)) else if ((10 : Int32) + Int32.ofInt (c : Nat)) ≤ Int32.ofInt x then some (I1, (-1 : Int64)) else (gX1_numberAt σ I1 R (Int32.ofInt (g t : Nat)) ((12 : Int32) + ((8 : Int32) * (Int32.ofInt x - (10 : Int32)))) (8 : Int32)).bind fun r13 => some (I1, r13)) = some (I1, z) → gX11_page σ I R (Int32.ofInt (t : Int)) (Int32.ofInt x) = some (I1, z) := fun z hz => by
    unfold gX11_page gX1_readOf
    rw [if_neg (by rw [i_ltl (by omega)]; omega), a1, ob_some]
    dsimp only
    rw [if_neg (by rw [i_le (by omega) (by omega)]; omega), if_pos (by rw [i_ltl (by omega)]; omega), if_pos (by rw [i_gd (by omega)]; exact id), t41 (t := t) (by omega), a5 t c2, show gX1_numberAt σ I1 R (Int32.ofInt (g t : Nat)) 5 1 = _ from n5, ob_some, Int32.toInt32_toInt64, d2, hz]
    rfl
  by_cases x0 : x = 0
  · subst x0
    refine tt (I1, Int32.toInt64 (Int32.ofInt (g t : Nat))) (Int32.toInt64 (Int32.ofInt (g t : Nat))) (cls _ ?_) (m39 _ ?_) ⟨rfl, hB, a2⟩
    · rw [if_pos (by rfl)]
    · rw [if_pos (by decide)]
      unfold gX12_page_b109
      rw [if_pos (by rfl)]
  by_cases x1' : x = 1
  · subst x1'
    refine tt (I1, Int32.toInt64 (Int32.ofInt (pgN (I1 200) (g t)))) (Int32.toInt64 (Int32.ofInt (pgN (I1 200) (g t)))) (cls _ ?_) (m39 _ ?_) ⟨rfl, hB, a2⟩
    · rw [if_neg (by decide), if_pos (by rfl), pgC gt.1, (pgN_eq e109 gt.1).1]
      rfl
    · rw [if_pos (by decide)]
      unfold gX12_page_b109
      rw [if_neg (by decide), if_pos (by rfl)]
  by_cases x2' : x = 2
  · subst x2'
    refine tt (I1, Int32.toInt64 (I1 200 (64 * g t + 4))) (Int32.toInt64 (I1 200 (64 * g t + 4))) (cls _ ?_) (m39 _ ?_) ⟨rfl, hB, a2⟩
    · rw [if_neg (by decide), if_neg (by decide), if_pos (by rfl), show gX1_numberAt σ I1 R (Int32.ofInt (g t : Nat)) 4 1 = _ from n4]
      rfl
    · rw [if_pos (by decide)]
      unfold gX12_page_b109
      rw [if_neg (by decide), if_neg (by decide), if_pos (by rfl), i_mulr, i_addl, show (64 : Int) * (g t : Int) + 4 = ((64 * g t + 4 : Nat) : Int) by omega, if_pos (by rw [i_gd (by omega)]; exact id), t41 (t := 64 * g t + 4) (by omega)]
  by_cases x3' : x = 3
  · subst x3'
    refine tt (I1, Int32.toInt64 (Int32.ofInt (c : Nat))) (Int32.toInt64 (Int32.ofInt (c : Nat))) (cls _ ?_) (m39 _ ?_) ⟨rfl, hB, a2⟩
    · rw [if_neg (by decide), if_neg (by decide), if_neg (by decide), if_pos (by rfl)]
    · rw [if_pos (by decide)]
      unfold gX12_page_b109
      rw [if_neg (by decide), if_neg (by decide), if_neg (by decide), if_pos (by rfl)]
  have b109 : gX12_page_b109 σ I1 R (Int32.ofInt x) (Int32.ofInt (pgN (I1 200) (g t))) (Int32.ofInt (g t : Nat)) (Int32.ofInt (c : Nat)) = some (-1) := by
    unfold gX12_page_b109
    rw [if_neg (by rw [i_eql (by omega)]; exact x0), if_neg (by rw [i_eql (by omega)]; exact x1'), if_neg (by rw [i_eql (by omega)]; exact x2'), if_neg (by rw [i_eql (by omega)]; exact x3')]
  by_cases x9 : x < 10
  · refine tt (I1, -1) (-1) (cls _ ?_) (m39 _ ?_) ⟨rfl, hB, a2⟩
    · rw [if_neg (by rw [i_eql (by omega)]; exact x0), if_neg (by rw [i_eql (by omega)]; exact x1'), if_neg (by rw [i_eql (by omega)]; exact x2'), if_neg (by rw [i_eql (by omega)]; exact x3'), if_pos (by rw [i_ltl (by omega)]; exact x9)]
    · rw [if_pos (by rw [i_ltl (by omega)]; exact x9)]
      exact b109
  by_cases xc : 10 + (c : Int) ≤ x
  · refine tt (I1, -1) (-1) (cls _ ?_) (m39 _ ?_) ⟨rfl, hB, a2⟩
    · rw [if_neg (by rw [i_eql (by omega)]; exact x0), if_neg (by rw [i_eql (by omega)]; exact x1'), if_neg (by rw [i_eql (by omega)]; exact x2'), if_neg (by rw [i_eql (by omega)]; exact x3'), if_neg (by rw [i_ltl (by omega)]; exact x9), i_addr, if_pos (by rw [i_le (by omega) (by omega)]; exact xc)]
    · rw [if_neg (by rw [i_ltl (by omega)]; exact x9), i_subl, if_pos (by rw [i_le (by omega) (by omega)]; omega)]
      exact b109
  obtain ⟨y, rfl⟩ : ∃ y : Nat, x = (y : Int) + 10 := ⟨(x - 10).toNat, by omega⟩
  have nn := nAt (σ := σ) (I := I1) (R := R) (p := g t) (a := 12 + 8 * y) (n := 8) gt.1 (by omega)
  have mm := wid (σ := σ) (I := I1) (c := 200) (a := 64 * g t + 12 + 8 * y) (n := 8) (hS.k 200 20 (by decide) rfl) (hS.l 200 1280 (by decide) rfl) (by omega) (by omega)
  rw [show 64 * g t + (12 + 8 * y) = 64 * g t + 12 + 8 * y by omega, wd_eq (Q' := I1 200) 8 _ 0 fun k h1 h2 => e109 k (by omega)] at nn
  refine tt (I1, wd (I1 200) 8 (64 * g t + 12 + 8 * y) 0) (wd (I1 200) 8 (64 * g t + 12 + 8 * y) 0) (cls _ ?_) (m39 _ ?_) ⟨rfl, hB, a2⟩
  · rw [if_neg (by rw [i_eql (by omega)]; exact x0), if_neg (by rw [i_eql (by omega)]; exact x1'), if_neg (by rw [i_eql (by omega)]; exact x2'), if_neg (by rw [i_eql (by omega)]; exact x3'), if_neg (by rw [i_ltl (by omega)]; exact x9), i_addr, if_neg (by rw [i_le (by omega) (by omega)]; exact xc), i_subl, i_mulr, i_addr, show (12 : Int) + 8 * ((y : Int) + 10 - 10) = ((12 + 8 * y : Nat) : Int) by omega, show gX1_numberAt σ I1 R (Int32.ofInt (g t : Nat)) (Int32.ofInt ((12 + 8 * y : Nat) : Int)) 8 = _ from nn]
    rfl
  · rw [if_neg (by rw [i_ltl (by omega)]; exact x9), i_subl, if_neg (by rw [i_le (by omega) (by omega)]; omega), i_mulr, i_addl, i_mulr, i_add, show (64 : Int) * (g t : Int) + 12 + 8 * ((y : Int) + 10 - 10) = ((64 * g t + 12 + 8 * y : Nat) : Int) by omega, show gX12_wide σ I1 (some 200) (Int32.ofInt ((64 * g t + 12 + 8 * y : Nat) : Int)) 8 = _ from mm]
    rfl
