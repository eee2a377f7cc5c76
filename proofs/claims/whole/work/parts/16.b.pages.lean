/-! ===== pages: the model's whole pages, least pages, sorted lists ===== -/
theorem whM {σ : Shp} {I : Nat → Nat → Int32} {R : Nat → Nat → Option Nat} {p : Nat} (hS : Skel σ R) (hO : Oct (I 200)) (hp : p < 20) : gX12_isWhole σ I R (Int32.ofInt p) = some (pW (I 200) p) := by
  obtain ⟨F, hF⟩ : ∃ F, FUx = F := ⟨_, rfl⟩
  have hF' : F = 2000000 := by rw [← hF, FUx_eq]
  obtain ⟨l, l1, l2, e4⟩ := hO (64 * p + 4) (by omega)
  obtain ⟨c', c1, c2, e5⟩ := hO (64 * p + 5) (by omega)
  obtain ⟨c, rfl⟩ : ∃ c : Nat, c' = (c : Int) := ⟨c'.toNat, by omega⟩
  have k200 : kdx σ 200 = 20 := hS.k 200 20 (by decide) rfl
  have n200 : lnx σ 200 = 1280 := hS.l 200 1280 (by decide) rfl
  have n60 := wid (σ := σ) (I := I) (c := 200) (a := 64 * p + 60) (n := 4) k200 n200 (by omega) (by omega)
  have sm := sM (σ := σ) (I := I) (c := 200) (a := 64 * p) k200 n200 (by omega) (by omega)
  have ad : ∀ k : Nat, Int32.ofInt ((64 * p : Nat) : Int) + Int32.ofInt (k : Int) = Int32.ofInt ((64 * p + k : Nat) : Int) := fun k => iadd
  unfold gX12_isWhole
  dsimp only
  rw [hF, mNo hS hp, i_mulr, show (64 : Int) * (p : Int) = ((64 * p : Nat) : Int) by omega, show Int32.ofInt ((64 * p : Nat) : Int) + 4 = _ from ad 4, show Int32.ofInt ((64 * p : Nat) : Int) + 5 = _ from ad 5, show Int32.ofInt ((64 * p : Nat) : Int) + 60 = _ from ad 60, if_pos (by rw [i_gd (by omega)]; exact id), if_pos (by rw [i_gd (by omega)]; exact id), t41 (t := 64 * p + 4) (by omega), t41 (t := 64 * p + 5) (by omega), ob_some]
  by_cases g1 : Int64.toInt32 (wd (I 200) 4 (64 * p) 0) < 1
  · rw [if_pos g1, pW0 (fun h => h.1 g1)]
  rw [if_neg g1]
  by_cases g2 : fX12_isPageLane (I 200 (64 * p + 4)) = 0
  · rw [if_pos g2, pW0 (fun h => h.2.1 g2)]
  rw [if_neg g2, e5]
  have un : ∀ d : Nat, d ≤ 6 → I 200 (64 * p + 5) = Int32.ofInt (d : Int) → d = c := fun d d1 d2 => by
    rw [e5, i_eq (by omega) (by omega)] at d2
    omega
  by_cases g3 : c ≤ 6
  case neg =>
    rw [if_pos (by rw [i_ltr (by omega)]; omega), pW0]
    rintro ⟨-, -, d, d1, d2, -⟩
    have := un d d1 d2
    omega
  rw [if_neg (by rw [i_ltr (by omega)]; omega), show gX12_wide σ I (some 200) (Int32.ofInt ((64 * p + 60 : Nat) : Int)) 4 = _ from n60, ob_some, sm, ob_some]
  by_cases g : Int64.toInt32 (wd (I 200) 4 (64 * p + 60) 0) = smF (I 200) 60 (64 * p) 0
  case neg =>
    rw [if_neg g, pW0]
    rintro ⟨-, -, d, d1, d2, d3, d4, d5⟩
    exact g d5
  rw [if_pos g]
  have a140 : ∀ (u j f : Nat) (x : Int32), u < f → j + u = c → (x = 0 ∧ ¬ PWh (I 200) p ∨ x = 1 ∧ (∀ k, 6 ≤ k → k < 60 → (k < 12 ∨ 12 + 8 * c ≤ k) → I 200 (64 * p + k) = 0) ∧ ∀ k, k < j → fX12_fitted (I 200 (64 * p + 4)) (wd (I 200) 8 (64 * p + 12 + 8 * k) 0) = wd (I 200) 8 (64 * p + 12 + 8 * k) 0) → gX12_isWhole_l140 σ I R f (Int32.ofInt ((64 * p : Nat) : Int)) (I 200 (64 * p + 4)) (Int32.ofInt c) x (Int32.ofInt j) = some (pW (I 200) p) := by
    intro u
    induction u with
    | zero =>
      intro j f x hf hj hx
      obtain ⟨f, rfl⟩ : ∃ m, f = m + 1 := ⟨f - 1, by omega⟩
      rw [gX12_isWhole_l140, if_pos (by rw [i_le (by omega) (by omega)]; omega)]
      rcases hx with ⟨rfl, q⟩ | ⟨rfl, q1, q2⟩
      · rw [if_pos (Or.inl rfl), pW0 q]
      · rw [if_pos (Or.inr rfl), pW1]
        exact ⟨g1, g2, c, g3, e5, q1, fun k hk => q2 k (by omega), g⟩
    | succ u ih =>
      intro j f x hf hj hx
      obtain ⟨f, rfl⟩ : ∃ m, f = m + 1 := ⟨f - 1, by omega⟩
      have nn := wid (σ := σ) (I := I) (c := 200) (a := 64 * p + 12 + 8 * j) (n := 8) k200 n200 (by omega) (by omega)
      have e : Int32.ofInt ((64 * p : Nat) : Int) + 12 + 8 * Int32.ofInt (j : Int) = Int32.ofInt ((64 * p + 12 + 8 * j : Nat) : Int) := by
        rw [i_mulr, i_addl, i_add]; congr 1
      rw [gX12_isWhole_l140, if_neg (by rw [i_le (by omega) (by omega)]; omega), e, show gX12_wide σ I (some 200) (Int32.ofInt ((64 * p + 12 + 8 * j : Nat) : Int)) 8 = _ from nn, ob_some]
      rcases hx with ⟨rfl, q⟩ | ⟨rfl, q1, q2⟩
      · rw [if_pos rfl]
        dsimp only
        rw [iadd1]
        exact ih (j + 1) f 0 (by omega) (by omega) (Or.inl ⟨rfl, q⟩)
      · rw [if_neg n10]
        by_cases gf : fX12_fitted (I 200 (64 * p + 4)) (wd (I 200) 8 (64 * p + 12 + 8 * j) 0) = wd (I 200) 8 (64 * p + 12 + 8 * j) 0
        · rw [if_pos gf]
          dsimp only
          rw [iadd1]
          refine ih (j + 1) f 1 (by omega) (by omega) (Or.inr ⟨rfl, q1, fun k hk => ?_⟩)
          by_cases e : k = j
          · rw [e]; exact gf
          · exact q2 k (by omega)
        · rw [if_neg gf]
          dsimp only
          rw [iadd1]
          refine ih (j + 1) f 0 (by omega) (by omega) (Or.inl ⟨rfl, ?_⟩)
          rintro ⟨-, -, d, d1, d2, d3, d4, d5⟩
          obtain rfl := un d d1 d2
          exact gf (d4 j (by omega))
  have a80 : ∀ (u j f : Nat) (x : Int32), u < f → j + u = 60 → 6 ≤ j → (x = 0 ∧ ¬ PWh (I 200) p ∨ x = 1 ∧ ∀ k, 6 ≤ k → k < j → (k < 12 ∨ 12 + 8 * c ≤ k) → I 200 (64 * p + k) = 0) → gX12_isWhole_l80 σ I R f (Int32.ofInt ((64 * p : Nat) : Int)) (I 200 (64 * p + 4)) (Int32.ofInt c) x (Int32.ofInt j) = some (pW (I 200) p) := by
    intro u
    induction u with
    | zero =>
      intro j f x hf hj h6 hx
      obtain ⟨f, rfl⟩ : ∃ m, f = m + 1 := ⟨f - 1, by omega⟩
      rw [gX12_isWhole_l80, if_pos (by rw [i_ler (by omega)]; omega), hF]
      refine a140 c 0 F x (by omega) (by omega) ?_
      rcases hx with ⟨rfl, q⟩ | ⟨rfl, q1⟩
      · exact Or.inl ⟨rfl, q⟩
      · exact Or.inr ⟨rfl, fun k k1 k2 k3 => q1 k k1 (by omega) k3, fun k hk => by omega⟩
    | succ u ih =>
      intro j f x hf hj h6 hx
      obtain ⟨f, rfl⟩ : ∃ m, f = m + 1 := ⟨f - 1, by omega⟩
      rw [gX12_isWhole_l80, if_neg (by rw [i_ler (by omega)]; omega)]
      rcases hx with ⟨rfl, q⟩ | ⟨rfl, q1⟩
      · rw [if_pos rfl]
        dsimp only
        rw [iadd1]
        exact ih (j + 1) f 0 (by omega) (by omega) (by omega) (Or.inl ⟨rfl, q⟩)
      · rw [if_neg n10, iadd, if_pos (by rw [i_gd (by omega)]; exact id), t41 (t := 64 * p + j) (by omega)]
        dsimp only
        rw [iadd1, i_mulr, i_addr]
        have nx : (j < 12 ∨ 12 + 8 * c ≤ j) → ¬ I 200 (64 * p + j) = 0 → ¬ PWh (I 200) p := fun h1 h2 => by
          rintro ⟨-, -, d, d1, d2, d3, d4, d5⟩
          obtain rfl := un d d1 d2
          exact h2 (d3 j h6 (by omega) h1)
        by_cases gz : I 200 (64 * p + j) = 0
        · rw [if_pos gz]
          refine ih (j + 1) f 1 (by omega) (by omega) (by omega) (Or.inr ⟨rfl, fun k k1 k2 k3 => ?_⟩)
          by_cases e : k = j
          · rw [e]; exact gz
          · exact q1 k k1 (by omega) k3
        rw [if_neg gz]
        by_cases g12 : j < 12
        · rw [if_pos (by rw [i_ltl (by omega)]; omega)]
          exact ih (j + 1) f 0 (by omega) (by omega) (by omega) (Or.inl ⟨rfl, nx (Or.inl g12) gz⟩)
        rw [if_neg (by rw [i_ltl (by omega)]; omega)]
        by_cases gc : 12 + 8 * c ≤ j
        · rw [if_pos (by rw [i_le (by omega) (by omega)]; omega)]
          exact ih (j + 1) f 0 (by omega) (by omega) (by omega) (Or.inl ⟨rfl, nx (Or.inr gc) gz⟩)
        · rw [if_neg (by rw [i_le (by omega) (by omega)]; omega)]
          refine ih (j + 1) f 1 (by omega) (by omega) (by omega) (Or.inr ⟨rfl, fun k k1 k2 k3 => ?_⟩)
          by_cases e : k = j
          · omega
          · exact q1 k k1 (by omega) k3
  exact a80 54 6 F 1 (by omega) (by omega) (by omega) (Or.inr ⟨rfl, fun k k1 k2 => by omega⟩)
/-- the number of a page -/
def pgN (Q : Nat → Int32) (p : Nat) : Int := (Int64.toInt32 (wd Q 4 (64 * p) 0)).toInt
theorem pgN_e {Q : Nat → Int32} {p : Nat} : Int64.toInt32 (wd Q 4 (64 * p) 0) = Int32.ofInt (pgN Q p) ∧ -2147483648 ≤ pgN Q p ∧ pgN Q p < 2147483648 := by
  obtain ⟨i, h1, h2, e⟩ := rep (Int64.toInt32 (wd Q 4 (64 * p) 0))
  unfold pgN
  rw [e, ti h1 h2]
  exact ⟨rfl, h1, h2⟩
theorem pgN_p {Q : Nat → Int32} {p : Nat} (h : PWh Q p) : 1 ≤ pgN Q p := by
  have a := h.1
  obtain ⟨e, b1, b2⟩ := pgN_e (Q := Q) (p := p)
  rw [e, i_ltl (by omega)] at a
  omega
theorem pgC {σ : Shp} {I : Nat → Nat → Int32} {R : Nat → Nat → Option Nat} {p : Nat} (hp : p < 20) : gX1_numberOf σ I R (Int32.ofInt p) = some (Int32.ofInt (pgN (I 109) p)) := by rw [nOf hp, pgN_e.1]
theorem pgM {σ : Shp} {I : Nat → Nat → Int32} {R : Nat → Nat → Option Nat} {p : Nat} (hS : Skel σ R) (hp : p < 20) : gX12_numberOf σ I (Int32.ofInt p) = some (Int32.ofInt (pgN (I 200) p)) := by rw [mNo hS hp, pgN_e.1]
/-- q is the first whole page of number v -/
def PLst (Q : Nat → Int32) (v : Int) (q : Nat) : Prop := PWh Q q ∧ pgN Q q = v ∧ ∀ r, r < q → PWh Q r → pgN Q r ≠ v
theorem PLst.uq {Q : Nat → Int32} {v : Int} {q q' : Nat} (h : PLst Q v q) (h' : PLst Q v q') : q = q' := by
  by_cases c : q < q'
  · exact absurd h.2.1 (h'.2.2 q c h.1)
  · by_cases d : q' < q
    · exact absurd h'.2.1 (h.2.2 q' d h'.1)
    · omega
theorem PLst.ex {Q : Nat → Int32} {v : Int} : ∀ p, PWh Q p → pgN Q p = v → ∃ q, q ≤ p ∧ PLst Q v q := by
  intro p
  induction p using Nat.strongRecOn with
  | ind p ih =>
    intro h1 h2
    by_cases c : ∃ r, r < p ∧ PWh Q r ∧ pgN Q r = v
    · obtain ⟨r, r1, r2, r3⟩ := c
      obtain ⟨q, q1, q2⟩ := ih r r1 r2 r3
      exact ⟨q, by omega, q2⟩
    · exact ⟨p, Nat.le_refl _, h1, h2, fun r r1 r2 r3 => c ⟨r, r1, r2, r3⟩⟩
theorem lwC {σ : Shp} {I : Nat → Nat → Int32} {R : Nat → Nat → Option Nat} {p : Nat} (hS : Skel σ R) (hO : Oct (I 109)) (hp : p < 20) (hw : PWh (I 109) p) : ∃ q, q ≤ p ∧ PLst (I 109) (pgN (I 109) p) q ∧ gX1_leastWith σ I R (Int32.ofInt p) = some (Int32.ofInt (q : Nat)) := by
  obtain ⟨F, hF⟩ : ∃ F, FUx = F := ⟨_, rfl⟩
  have hF' : F = 2000000 := by rw [← hF, FUx_eq]
  have lp : ∀ (u j f : Nat), u < f → j + u = p → (∀ r, r < j → PWh (I 109) r → pgN (I 109) r ≠ pgN (I 109) p) → ∃ q, q ≤ p ∧ PLst (I 109) (pgN (I 109) p) q ∧ gX1_leastWith_l2 σ I R f (Int32.ofInt p) (Int32.ofInt j) = some (Int32.ofInt (q : Nat)) := by
    intro u
    induction u with
    | zero =>
      intro j f hf hj hq
      obtain ⟨f, rfl⟩ : ∃ m, f = m + 1 := ⟨f - 1, by omega⟩
      rw [gX1_leastWith_l2, if_pos (by rw [i_le (by omega) (by omega)]; omega)]
      obtain rfl : j = p := by omega
      exact ⟨j, Nat.le_refl _, ⟨hw, rfl, hq⟩, rfl⟩
    | succ u ih =>
      intro j f hf hj hq
      obtain ⟨f, rfl⟩ : ∃ m, f = m + 1 := ⟨f - 1, by omega⟩
      have bj := (pgN_e (Q := I 109) (p := j)).2
      have bp := (pgN_e (Q := I 109) (p := p)).2
      rw [gX1_leastWith_l2, if_neg (by rw [i_le (by omega) (by omega)]; omega), pgC (by omega), ob_some, pgC hp, ob_some]
      by_cases g : pgN (I 109) j = pgN (I 109) p
      · rw [if_pos (by rw [g]), whC hS hO (by omega), ob_some]
        by_cases w : PWh (I 109) j
        · rw [if_neg (by rw [pWz]; exact fun h => h w)]
          exact ⟨j, by omega, ⟨w, g, hq⟩, rfl⟩
        · rw [if_pos (by rw [pWz]; exact w)]
          dsimp only
          rw [iadd1]
          refine ih (j + 1) f (by omega) (by omega) fun r r1 r2 => ?_
          by_cases e : r = j
          · rw [e] at r2; exact absurd r2 w
          · exact hq r (by omega) r2
      · rw [if_neg (by rw [i_eq (by omega) (by omega)]; exact g)]
        dsimp only
        rw [iadd1]
        refine ih (j + 1) f (by omega) (by omega) fun r r1 r2 => ?_
        by_cases e : r = j
        · rw [e]; exact g
        · exact hq r (by omega) r2
  unfold gX1_leastWith
  rw [hF]
  exact lp p 0 F (by omega) (by omega) fun r h => by omega
theorem poM {σ : Shp} {I : Nat → Nat → Int32} {R : Nat → Nat → Option Nat} {q : Nat} {v : Int} (hS : Skel σ R) (hO : Oct (I 200)) (hq : q < 20) (hv : -2147483648 ≤ v ∧ v < 2147483648) (h : PLst (I 200) v q) : gX12_pageOf σ I R (Int32.ofInt v) = some (Int32.ofInt (q : Nat)) := by
  obtain ⟨F, hF⟩ : ∃ F, FUx = F := ⟨_, rfl⟩
  have hF' : F = 2000000 := by rw [← hF, FUx_eq]
  have lp : ∀ (u j f : Nat), u < f → j + u = q → gX12_pageOf_l2 σ I R f (Int32.ofInt v) (Int32.ofInt j) = some (Int32.ofInt (q : Nat)) := by
    intro u
    induction u with
    | zero =>
      intro j f hf hj
      obtain ⟨f, rfl⟩ : ∃ m, f = m + 1 := ⟨f - 1, by omega⟩
      obtain rfl : j = q := by omega
      rw [gX12_pageOf_l2, if_neg (by rw [i_ler (by omega)]; omega), whM hS hO hq, ob_some, if_neg (by rw [pWz]; exact fun g => g h.1), pgM hS hq, ob_some, if_pos (by rw [h.2.1])]
    | succ u ih =>
      intro j f hf hj
      obtain ⟨f, rfl⟩ : ∃ m, f = m + 1 := ⟨f - 1, by omega⟩
      have bj := (pgN_e (Q := I 200) (p := j)).2
      rw [gX12_pageOf_l2, if_neg (by rw [i_ler (by omega)]; omega), whM hS hO (by omega), ob_some]
      by_cases w : PWh (I 200) j
      · rw [if_neg (by rw [pWz]; exact fun g => g w), pgM hS (by omega), ob_some, if_neg (by rw [i_eq (by omega) (by omega)]; exact h.2.2 j (by omega) w)]
        dsimp only
        rw [iadd1]
        exact ih (j + 1) f (by omega) (by omega)
      · rw [if_pos (by rw [pWz]; exact w)]
        dsimp only
        rw [iadd1]
        exact ih (j + 1) f (by omega) (by omega)
  unfold gX12_pageOf
  rw [hF]
  exact lp q 0 F (by omega) (by omega)
/-- the sorted list of the first whole pages among the first i -/
def PSrt (Q : Nat → Int32) (i m : Nat) (g : Nat → Nat) : Prop := m ≤ i ∧ (∀ j, j < m → g j < i ∧ PLst Q (pgN Q (g j)) (g j)) ∧ (∀ j k, j < k → k < m → pgN Q (g j) < pgN Q (g k)) ∧ ∀ p, p < i → PLst Q (pgN Q p) p → ∃ j, j < m ∧ g j = p
theorem PSrt.ins {Q : Nat → Int32} {i m j : Nat} {g : Nat → Nat} (h : PSrt Q i m g) (hl : PLst Q (pgN Q i) i) (hj : j ≤ m) (h1 : ∀ k, k < j → pgN Q (g k) < pgN Q i) (h2 : ∀ k, j ≤ k → k < m → pgN Q i < pgN Q (g k)) : PSrt Q (i + 1) (m + 1) (fun k => if k < j then g k else if k = j then i else g (k - 1)) := by
  obtain ⟨a1, a2, a3, a4⟩ := h
  refine ⟨by omega, fun k hk => ?_, fun k l hkl hl' => ?_, fun p hp q => ?_⟩
  · dsimp only
    by_cases c : k < j
    · rw [if_pos c]; have := a2 k (by omega); exact ⟨by omega, this.2⟩
    · rw [if_neg c]
      by_cases d : k = j
      · rw [if_pos d]; exact ⟨by omega, hl⟩
      · rw [if_neg d]; have := a2 (k - 1) (by omega); exact ⟨by omega, this.2⟩
  · dsimp only
    by_cases c : l < j
    · rw [if_pos c, if_pos (by omega)]; exact a3 k l hkl (by omega)
    · rw [if_neg c]
      by_cases d : l = j
      · rw [if_pos d, if_pos (by omega)]; exact h1 k (by omega)
      · rw [if_neg d]
        by_cases c' : k < j
        · rw [if_pos c']; exact a3 k (l - 1) (by omega) (by omega)
        · rw [if_neg c']
          by_cases d' : k = j
          · rw [if_pos d']; exact h2 (l - 1) (by omega) (by omega)
          · rw [if_neg d']; exact a3 (k - 1) (l - 1) (by omega) (by omega)
  · by_cases e : p = i
    · exact ⟨j, by omega, by dsimp only; rw [if_neg (by omega), if_pos rfl, e]⟩
    · obtain ⟨k, k1, k2⟩ := a4 p (by omega) q
      by_cases c : k < j
      · exact ⟨k, by omega, by dsimp only; rw [if_pos c]; exact k2⟩
      · exact ⟨k + 1, by omega, by dsimp only; rw [if_neg (by omega), if_neg (by omega)]; exact k2⟩
theorem PSrt.skip {Q : Nat → Int32} {i m : Nat} {g : Nat → Nat} (h : PSrt Q i m g) (hl : ¬ PLst Q (pgN Q i) i) : PSrt Q (i + 1) m g := by
  obtain ⟨a1, a2, a3, a4⟩ := h
  refine ⟨by omega, fun k hk => ⟨by have := (a2 k hk).1; omega, (a2 k hk).2⟩, a3, fun p hp q => ?_⟩
  by_cases e : p = i
  · rw [e] at q; exact absurd q hl
  · exact a4 p (by omega) q
theorem gaC {σ : Shp} {I : Nat → Nat → Int32} {R : Nat → Nat → Option Nat} (hS : Skel σ R) (hO : Oct (I 109)) : ∃ (I1 : Nat → Nat → Int32) (m : Nat) (g : Nat → Nat), gX1_gatherRead σ I R = some (I1, Int32.ofInt (m : Int)) ∧ Ag [(111, 112)] I I1 ∧ PSrt (I 109) 20 m g ∧ ∀ j, j < m → I1 111 j = Int32.ofInt (g j : Nat) := by
  obtain ⟨F, hF⟩ : ∃ F, FUx = F := ⟨_, rfl⟩
  have hF' : F = 2000000 := by rw [← hF, FUx_eq]
  have i20 : ∀ t : Nat, t < 20 → ¬ (Int32.ofInt (t : Int) < 0 ∨ 20 ≤ Int32.toNatClampNeg (Int32.ofInt (t : Int))) := fun t h => by rw [i_gd (by omega)]; exact id
  -- the inner loop
  have ins : ∀ (q4 : (Nat → Nat → Int32) → (Int32) → (Int32) → (Option ((Nat → Nat → Int32) × (Int32)))) (i m : Nat) (g : Nat → Nat), i < 20 → PSrt (I 109) i m g → PLst (I 109) (pgN (I 109) i) i → ∀ (j f : Nat) (I1 : Nat → Nat → Int32), j < f → j ≤ m → Ag [(111, 112)] I I1 → (∀ k, k < j → I1 111 k = Int32.ofInt (g k : Nat)) → (∀ k, j ≤ k → k < m → I1 111 (k + 1) = Int32.ofInt (g k : Nat)) → (∀ k, j ≤ k → k < m → pgN (I 109) i < pgN (I 109) (g k)) → ∃ (I2 : Nat → Nat → Int32) (g' : Nat → Nat), gX1_gatherRead_l29 q4 σ R f I1 (Int32.ofInt m) (Int32.ofInt i) (Int32.ofInt j) = q4 I2 (Int32.ofInt ((m + 1 : Nat) : Int)) (Int32.ofInt ((i + 1 : Nat) : Int)) ∧ Ag [(111, 112)] I I2 ∧ PSrt (I 109) (i + 1) (m + 1) g' ∧ ∀ k, k < m + 1 → I2 111 k = Int32.ofInt (g' k : Nat) := by
    intro q4 i m g hi hs hl j
    induction j with
    | zero =>
      intro f I1 hf hj ag b1 b2 b3
      obtain ⟨f, rfl⟩ : ∃ m, f = m + 1 := ⟨f - 1, by omega⟩
      rw [gX1_gatherRead_l29, if_pos (by rw [i_lel (by omega)]; omega), if_pos (i20 0 (by omega))]
      dsimp only
      rw [iadd1, iadd1, t41 (by omega)]
      refine ⟨_, _, rfl, ag.st rfl, hs.ins hl (j := 0) (by omega) (fun k h => by omega) b3, fun k hk => ?_⟩
      rw [if_neg (by omega)]
      by_cases c : k = 0
      · rw [if_pos c, u2s ⟨rfl, c⟩]
      · rw [if_neg c, u2n (by omega), ← b2 (k - 1) (by omega) (by omega), show k - 1 + 1 = k by omega]
    | succ j ih =>
      intro f I1 hf hj ag b1 b2 b3
      obtain ⟨f, rfl⟩ : ∃ m, f = m + 1 := ⟨f - 1, by omega⟩
      have mi := hs.1
      have e9 : I1 109 = I 109 := ag.at1 109 (by omega) (by omega) rfl
      have gj := hs.2.1 j (by omega)
      have bi := (pgN_e (Q := I 109) (p := i)).2
      have bg := (pgN_e (Q := I 109) (p := g j)).2
      rw [gX1_gatherRead_l29, if_neg (by rw [i_lel (by omega)]; omega), i_subl, show ((j + 1 : Nat) : Int) - 1 = (j : Int) by omega, if_pos (i20 j (by omega)), t41 (t := j) (by omega), b1 j (by omega), pgC (by omega), ob_some, pgC hi, ob_some, e9]
      by_cases c : pgN (I 109) (g j) ≤ pgN (I 109) i
      · have ne : pgN (I 109) (g j) ≠ pgN (I 109) i := hl.2.2 (g j) gj.1 gj.2.1
        rw [if_pos (by rw [i_le (by omega) (by omega)]; exact c), if_pos (i20 (j + 1) (by omega))]
        dsimp only
        rw [iadd1, iadd1, t41 (by omega)]
        refine ⟨_, _, rfl, ag.st rfl, hs.ins hl (j := j + 1) (by omega) (fun k h => ?_) b3, fun k hk => ?_⟩
        · by_cases e : k = j
          · rw [e]; omega
          · have := hs.2.2.1 k j (by omega) (by omega)
            omega
        · by_cases c : k < j + 1
          · rw [if_pos c, u2n (by omega)]; exact b1 k c
          · rw [if_neg c]
            by_cases d : k = j + 1
            · rw [if_pos d, u2s ⟨rfl, d⟩]
            · rw [if_neg d, u2n (by omega), ← b2 (k - 1) (by omega) (by omega), show k - 1 + 1 = k by omega]
      · rw [if_neg (by rw [i_le (by omega) (by omega)]; exact c), if_pos (i20 (j + 1) (by omega))]
        dsimp only
        rw [t41 (t := j + 1) (by omega), i_addn, show ((j + 1 : Nat) : Int) + -1 = (j : Int) by omega]
        refine ih f _ (by omega) (by omega) (ag.st rfl) (fun k hk => ?_) (fun k k1 k2 => ?_) (fun k k1 k2 => ?_)
        · rw [u2n (by omega)]; exact b1 k (by omega)
        · by_cases e : k = j
          · rw [e, u2s ⟨rfl, rfl⟩]
          · rw [u2n (by omega)]; exact b2 k (by omega) k2
        · by_cases e : k = j
          · rw [e]; omega
          · exact b3 k (by omega) k2
  have lp : ∀ (u i f m : Nat) (g : Nat → Nat) (I1 : Nat → Nat → Int32), u < f → i + u = 20 → Ag [(111, 112)] I I1 → PSrt (I 109) i m g → (∀ j, j < m → I1 111 j = Int32.ofInt (g j : Nat)) → ∃ (I2 : Nat → Nat → Int32) (m' : Nat) (g' : Nat → Nat), gX1_gatherRead_l4 σ R f I1 (Int32.ofInt m) (Int32.ofInt i) = some (I2, Int32.ofInt (m' : Int)) ∧ Ag [(111, 112)] I I2 ∧ PSrt (I 109) 20 m' g' ∧ ∀ j, j < m' → I2 111 j = Int32.ofInt (g' j : Nat) := by
    intro u
    induction u with
    | zero =>
      intro i f m g I1 hf hi ag hs hg
      obtain ⟨f, rfl⟩ : ∃ m, f = m + 1 := ⟨f - 1, by omega⟩
      obtain rfl : i = 20 := by omega
      rw [gX1_gatherRead_l4, if_pos (by rw [i_ler (by omega)]; omega)]
      exact ⟨I1, m, g, rfl, ag, hs, hg⟩
    | succ u ih =>
      intro i f m g I1 hf hi ag hs hg
      obtain ⟨f, rfl⟩ : ∃ m, f = m + 1 := ⟨f - 1, by omega⟩
      have e9 : I1 109 = I 109 := ag.at1 109 (by omega) (by omega) rfl
      have mi := hs.1
      rw [gX1_gatherRead_l4, if_neg (by rw [i_ler (by omega)]; omega), whC hS (by rw [e9]; exact hO) (by omega), ob_some, e9]
      by_cases w : PWh (I 109) i
      case neg =>
        rw [if_pos (by rw [pWz]; exact w)]
        dsimp only
        rw [iadd1]
        exact ih (i + 1) f m g I1 (by omega) (by omega) ag (hs.skip fun h => w h.1) hg
      rw [if_neg (by rw [pWz]; exact fun h => h w)]
      obtain ⟨q, q1, q2, q3⟩ := lwC (σ := σ) (I := I1) (R := R) hS (by rw [e9]; exact hO) (p := i) (by omega) (by rw [e9]; exact w)
      rw [e9] at q2
      rw [q3, ob_some]
      by_cases c : q = i
      · rw [if_pos (by rw [c]), hF]
        rw [c] at q2
        obtain ⟨I2, g', r1, r2, r3, r4⟩ := ins (gX1_gatherRead_l4 σ R f) i m g (by omega) hs q2 m F I1 (by omega) (Nat.le_refl _) ag hg (fun k k1 k2 => by omega) (fun k k1 k2 => by omega)
        rw [r1]
        exact ih (i + 1) f (m + 1) g' I2 (by omega) (by omega) r2 r3 r4
      · rw [if_neg (by rw [i_eq (by omega) (by omega)]; omega)]
        dsimp only
        rw [iadd1]
        exact ih (i + 1) f m g I1 (by omega) (by omega) ag (hs.skip fun h => c (q2.uq h)) hg
  unfold gX1_gatherRead
  rw [hF]
  exact lp 20 0 F 0 (fun _ => 0) I (by omega) (by omega) Ag.rf ⟨by omega, fun j h => by omega, fun j k h1 h2 => by omega, fun p h => by omega⟩ (fun j h => by omega)
