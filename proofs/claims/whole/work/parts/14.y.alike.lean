/-! ===== alike: the model's things, the call ===== -/
theorem mg0 {σ : Shp} {I : Nat → Nat → Int32} {J : Nat → Nat → Int64} {R : Nat → Nat → Option Nat} {x n : Nat} {y k : Int32} (hx : x < 4100) : gX12_areGridsAlike_l39 σ I J R (n + 1) (Int32.ofInt x) y 0 k = some 0 := by
  rw [gX12_areGridsAlike_l39, if_pos (g41 hx)]
  by_cases c : I 117 (Int32.toNatClampNeg (Int32.ofInt (x : Int))) ≤ k
  · rw [if_pos c, if_pos (Or.inl rfl)]
  · rw [if_neg c, if_pos rfl, if_pos (Or.inl rfl)]
theorem mp0 {σ : Shp} {I : Nat → Nat → Int32} {J : Nat → Nat → Int64} {R : Nat → Nat → Option Nat} {x n : Nat} {y k : Int32} (hx : x < 4100) : gX12_arePlacesAlike_l57 σ I J R (n + 1) (Int32.ofInt x) y 0 k = some 0 := by
  rw [gX12_arePlacesAlike_l57, if_pos (g41 hx)]
  by_cases c : I 117 (Int32.toNatClampNeg (Int32.ofInt (x : Int))) ≤ k
  · rw [if_pos c, if_pos (Or.inl rfl)]
  · rw [if_neg c, if_pos rfl, if_pos (Or.inl rfl)]
theorem mk0 {σ : Shp} {I : Nat → Nat → Int32} {J : Nat → Nat → Int64} {R : Nat → Nat → Option Nat} {n : Nat} {x y k : Int32} : gX12_areCardsAlike_l39 σ I J R (n + 1) x y 0 k = some 0 := by
  rw [gX12_areCardsAlike_l39]
  by_cases c : (8 : Int32) ≤ k
  · rw [if_pos c, if_pos (Or.inl rfl)]
  · rw [if_neg c, if_pos rfl, if_pos (Or.inl rfl)]
theorem g41k {t : Nat} (h : t < 41000) : ¬ (Int32.ofInt (t : Int) < 0 ∨ 41000 ≤ Int32.toNatClampNeg (Int32.ofInt (t : Int))) := by rw [i_gd (by omega)]; exact id
theorem iadd {a b : Nat} : Int32.ofInt (a : Int) + Int32.ofInt (b : Int) = Int32.ofInt ((a + b : Nat) : Int) := by rw [i_add, show (a : Int) + (b : Int) = ((a + b : Nat) : Int) by omega]
theorem iadd1 {a : Nat} : Int32.ofInt (a : Int) + 1 = Int32.ofInt ((a + 1 : Nat) : Int) := by rw [i_addl, show (a : Int) + 1 = ((a + 1 : Nat) : Int) by omega]
/-- one turn over the places, in the model -/
theorem mgl {G : Nat → Nat → Nat} {C : Nat → Int64} {N : Nat → Nat → Int32} {σ : Shp} {I : Nat → Nat → Int32} {J : Nat → Nat → Int64} {R : Nat → Nat → Option Nat} {x y : Nat} (hg : TSg G C N) (hm : TMo G C N I J) (x1 : 1 ≤ x) (x2 : x ≤ G 10 0) (y1 : 1 ≤ y) (y2 : y ≤ G 10 0) (fx : 8 ≤ G 1 x ∧ G 1 x ≤ 10) (fy : G 1 x = G 1 y) (ez : G 2 x = G 2 y) : ∀ (w k n : Nat), w + 1 < n → k + w = G 2 x → Dec (gX12_areGridsAlike_l39 σ I J R n (Int32.ofInt x) (Int32.ofInt y) 1 (Int32.ofInt k)) (∀ q, k ≤ q → q < G 2 x → EqR G C (G 4 (G 3 x + q)) (G 4 (G 3 y + q))) := by
  have h0 := hg.1
  have lx := (hg.2.2.1 x x1 x2).2.2.2.2.1 fx.1
  have sx := (hg.2.2.1 x x1 x2).2.2.2.2.2.2.2.2.1 (by omega) (by omega)
  have sy := (hg.2.2.1 y y1 y2).2.2.2.2.2.2.2.2.1 (by omega) (by omega)
  have m2 := (hm.2.2.1 x (by omega)).2.1
  have m3 := (hm.2.2.1 x (by omega)).2.2.1
  have m4 := (hm.2.2.1 y (by omega)).2.2.1
  intro w
  induction w with
  | zero =>
    intro k n hn hk
    obtain ⟨n, rfl⟩ : ∃ m, n = m + 1 := ⟨n - 1, by omega⟩
    refine Or.inl ⟨?_, fun q h1 h2 => by omega⟩
    rw [gX12_areGridsAlike_l39, if_pos (g41 (by omega)), t41 (by omega), m2, if_pos (by rw [i_le (by omega) (by omega)]; omega), if_pos (Or.inr rfl)]
  | succ w ih =>
    intro k n hn hk
    obtain ⟨n, rfl⟩ : ∃ m, n = m + 2 := ⟨n - 2, by omega⟩
    have e1 := hm.2.2.2.2 (G 3 x + k) (by omega)
    have e2 := hm.2.2.2.2 (G 3 y + k) (by omega)
    have kx := kidF hg x1 x2 (by omega) (show k < G 2 x by omega)
    have ky := kidF hg y1 y2 (by omega) (show k < G 2 y by omega)
    have g1 := gl_le (G 1 x)
    have g2 := gl_le (G 1 y)
    have go : ∀ b : Prop, (b ↔ EqR G C (G 4 (G 3 x + k)) (G 4 (G 3 y + k))) → (b → gX12_areGridsAlike_l39 σ I J R (n + 2) (Int32.ofInt x) (Int32.ofInt y) 1 (Int32.ofInt k) = gX12_areGridsAlike_l39 σ I J R (n + 1) (Int32.ofInt x) (Int32.ofInt y) 1 (Int32.ofInt ((k + 1 : Nat) : Int))) → (¬ b → gX12_areGridsAlike_l39 σ I J R (n + 2) (Int32.ofInt x) (Int32.ofInt y) 1 (Int32.ofInt k) = gX12_areGridsAlike_l39 σ I J R (n + 1) (Int32.ofInt x) (Int32.ofInt y) 0 (Int32.ofInt ((k + 1 : Nat) : Int))) → Dec (gX12_areGridsAlike_l39 σ I J R (n + 2) (Int32.ofInt x) (Int32.ofInt y) 1 (Int32.ofInt k)) (∀ q, k ≤ q → q < G 2 x → EqR G C (G 4 (G 3 x + q)) (G 4 (G 3 y + q))) := by
      intro b hb h1 h2
      by_cases c : b
      · rw [h1 c]
        refine (ih (k + 1) (n + 1) (by omega) (by omega)).of ⟨fun h q h1 h2 => ?_, fun h q h1 h2 => h q (by omega) h2⟩
        by_cases d : q = k
        · rw [d]; exact hb.mp c
        · exact h q (by omega) h2
      · rw [h2 c, mg0 (by omega)]
        exact Or.inr ⟨rfl, fun h => c (hb.mpr (h k (Nat.le_refl _) (by omega)))⟩
    have u : gX12_areGridsAlike_l39 σ I J R (n + 2) (Int32.ofInt x) (Int32.ofInt y) 1 (Int32.ofInt k) = if Int32.ofInt (G 4 (G 3 x + k) : Nat) = Int32.ofInt (G 4 (G 3 y + k) : Nat) then gX12_areGridsAlike_l39 σ I J R (n + 1) (Int32.ofInt x) (Int32.ofInt y) 1 (Int32.ofInt ((k + 1 : Nat) : Int)) else if Int32.ofInt (G 4 (G 3 x + k) : Nat) = 0 then gX12_areGridsAlike_l39 σ I J R (n + 1) (Int32.ofInt x) (Int32.ofInt y) 0 (Int32.ofInt ((k + 1 : Nat) : Int)) else if Int32.ofInt (G 4 (G 3 y + k) : Nat) = 0 then gX12_areGridsAlike_l39 σ I J R (n + 1) (Int32.ofInt x) (Int32.ofInt y) 0 (Int32.ofInt ((k + 1 : Nat) : Int)) else (gX12_areRowsAlike σ I J R (Int32.ofInt (G 4 (G 3 x + k) : Nat)) (Int32.ofInt (G 4 (G 3 y + k) : Nat))).bind fun r15 => if r15 = 0 then gX12_areGridsAlike_l39 σ I J R (n + 1) (Int32.ofInt x) (Int32.ofInt y) 0 (Int32.ofInt ((k + 1 : Nat) : Int)) else gX12_areGridsAlike_l39 σ I J R (n + 1) (Int32.ofInt x) (Int32.ofInt y) 1 (Int32.ofInt ((k + 1 : Nat) : Int)) := by
      rw [gX12_areGridsAlike_l39]
      dsimp only
      rw [if_pos (g41 (by omega)), t41 (by omega), m2, if_neg (by rw [i_le (by omega) (by omega)]; omega), if_neg n10, if_pos (g41p (by omega)), m3, iadd, if_pos (g41k (by omega)), if_pos (g41 (by omega)), t41 (t := y) (by omega), m4, iadd, if_pos (g41k (by omega)), t41 (by omega), t41 (by omega), e1, e2, iadd1]
    rw [u]
    by_cases c1 : G 4 (G 3 x + k) = G 4 (G 3 y + k)
    · rw [if_pos (by rw [c1])] at u ⊢
      rw [← u]
      exact go True ⟨fun _ => Or.inl c1, fun _ => trivial⟩ (fun _ => u) (fun h => absurd trivial h)
    rw [if_neg (by rw [i_eq (by omega) (by omega)]; omega)] at u ⊢
    by_cases c2 : G 4 (G 3 x + k) = 0
    · rw [if_pos (by rw [c2]; rfl)] at u ⊢
      rw [← u]
      refine go False ⟨fun h => h.elim, fun h => ?_⟩ (fun h => h.elim) (fun _ => u)
      rcases h with h | ⟨h, -⟩
      · exact c1 h
      · exact h c2
    rw [if_neg (by rw [i_eql (by omega)]; omega)] at u ⊢
    by_cases c3 : G 4 (G 3 y + k) = 0
    · rw [if_pos (by rw [c3]; rfl)] at u ⊢
      rw [← u]
      refine go False ⟨fun h => h.elim, fun h => ?_⟩ (fun h => h.elim) (fun _ => u)
      rcases h with h | ⟨-, h, -⟩
      · exact c1 h
      · exact h c3
    rw [if_neg (by rw [i_eql (by omega)]; omega)] at u ⊢
    rcases m_rows (σ := σ) (R := R) hg hm (show 1 ≤ G 4 (G 3 x + k) by omega) kx.1 (show 1 ≤ G 4 (G 3 y + k) by omega) ky.1 (by have := (kx.2 c2).1 (by omega); omega) (by have := (ky.2 c3).1 (by omega); omega) with ⟨a, b⟩ | ⟨a, b⟩
    · rw [a, ob_some, if_neg n10] at u ⊢
      rw [← u]
      exact go True ⟨fun _ => Or.inr ⟨c2, c3, b⟩, fun _ => trivial⟩ (fun _ => u) (fun h => absurd trivial h)
    · rw [a, ob_some, if_pos rfl] at u ⊢
      rw [← u]
      refine go False ⟨fun h => h.elim, fun h => ?_⟩ (fun h => h.elim) (fun _ => u)
      rcases h with h | ⟨-, -, h⟩
      · exact c1 h
      · exact b h
theorem m_grids {G : Nat → Nat → Nat} {C : Nat → Int64} {N : Nat → Nat → Int32} {σ : Shp} {I : Nat → Nat → Int32} {J : Nat → Nat → Int64} {R : Nat → Nat → Option Nat} {x y : Nat} (hg : TSg G C N) (hm : TMo G C N I J) (x1 : 1 ≤ x) (x2 : x ≤ G 10 0) (y1 : 1 ≤ y) (y2 : y ≤ G 10 0) (fx : 8 ≤ G 1 x ∧ G 1 x ≤ 10) (fy : G 1 x = G 1 y) : Dec (gX12_areGridsAlike σ I J R (Int32.ofInt x) (Int32.ofInt y)) (AG' G C x y) := by
  have h0 := hg.1
  have lx := (hg.2.2.1 x x1 x2).2.2.2.2.1 fx.1
  have ly := (hg.2.2.1 y y1 y2).2.2.2.2.1 (by omega)
  have m1 := (hm.2.2.1 x (by omega)).1
  have m2 := (hm.2.2.1 x (by omega)).2.1
  have p1 := (hm.2.2.1 y (by omega)).1
  have p2 := (hm.2.2.1 y (by omega)).2.1
  unfold gX12_areGridsAlike AG'
  rw [if_pos (g41 (by omega)), if_pos (g41 (by omega)), t41 (by omega), t41 (by omega), m1, p1, m2, p2, if_pos (by rw [fy]), if_pos (g41p (by omega)), if_pos (g41p (by omega))]
  by_cases d : G 2 x = G 2 y
  · rw [if_pos (by rw [d])]
    exact (mgl (σ := σ) (R := R) hg hm x1 x2 y1 y2 fx fy d (G 2 x) 0 FUx (by rw [FUx_eq]; omega) (by omega)).of ⟨fun h => ⟨d, fun k hk => h k (by omega) hk⟩, fun h q _ hq => h.2 q hq⟩
  · rw [if_neg (by rw [i_eq (by omega) (by omega)]; omega)]
    rw [show FUx = 1999999 + 1 from rfl, mg0 (by omega)]
    exact Or.inr ⟨rfl, fun h => d h.1⟩
theorem mpl {G : Nat → Nat → Nat} {C : Nat → Int64} {N : Nat → Nat → Int32} {σ : Shp} {I : Nat → Nat → Int32} {J : Nat → Nat → Int64} {R : Nat → Nat → Option Nat} {x y : Nat} {P : Nat → Prop} (hg : TSg G C N) (hm : TMo G C N I J) (x1 : 1 ≤ x) (x2 : x ≤ G 10 0) (y1 : 1 ≤ y) (y2 : y ≤ G 10 0) (fx : 11 ≤ G 1 x ∧ G 1 x ≤ 15) (fy : G 1 x = G 1 y) (ez : G 2 x = G 2 y) (hP : ∀ k, k < G 2 x → (P k ↔ if G 1 x = 11 then EqG G C (G 4 (G 3 x + k)) (G 4 (G 3 y + k)) else G 4 (G 3 x + k) = G 4 (G 3 y + k))) : ∀ (w k n : Nat), w + 1 < n → k + w = G 2 x → Dec (gX12_arePlacesAlike_l57 σ I J R n (Int32.ofInt x) (Int32.ofInt y) 1 (Int32.ofInt k)) (∀ q, k ≤ q → q < G 2 x → P q) := by
  have h0 := hg.1
  have lx := (hg.2.2.1 x x1 x2).2.2.2.2.1 (by omega)
  have sx := (hg.2.2.1 x x1 x2).2.2.2.2.2.2.2.2.1 (by omega) (by omega)
  have sy := (hg.2.2.1 y y1 y2).2.2.2.2.2.2.2.2.1 (by omega) (by omega)
  have m1 := (hm.2.2.1 x (by omega)).1
  have m2 := (hm.2.2.1 x (by omega)).2.1
  have m3 := (hm.2.2.1 x (by omega)).2.2.1
  have m4 := (hm.2.2.1 y (by omega)).2.2.1
  intro w
  induction w with
  | zero =>
    intro k n hn hk
    obtain ⟨n, rfl⟩ : ∃ m, n = m + 1 := ⟨n - 1, by omega⟩
    refine Or.inl ⟨?_, fun q h1 h2 => by omega⟩
    rw [gX12_arePlacesAlike_l57, if_pos (g41 (by omega)), t41 (by omega), m2, if_pos (by rw [i_le (by omega) (by omega)]; omega), if_pos (Or.inr rfl)]
  | succ w ih =>
    intro k n hn hk
    obtain ⟨n, rfl⟩ : ∃ m, n = m + 2 := ⟨n - 2, by omega⟩
    have e1 := hm.2.2.2.2 (G 3 x + k) (by omega)
    have e2 := hm.2.2.2.2 (G 3 y + k) (by omega)
    have kx := kidF hg x1 x2 (by omega) (show k < G 2 x by omega)
    have ky := kidF hg y1 y2 (by omega) (show k < G 2 y by omega)
    have hk' := hP k (by omega)
    have go : ∀ b : Prop, (b ↔ P k) → (b → gX12_arePlacesAlike_l57 σ I J R (n + 2) (Int32.ofInt x) (Int32.ofInt y) 1 (Int32.ofInt k) = gX12_arePlacesAlike_l57 σ I J R (n + 1) (Int32.ofInt x) (Int32.ofInt y) 1 (Int32.ofInt ((k + 1 : Nat) : Int))) → (¬ b → gX12_arePlacesAlike_l57 σ I J R (n + 2) (Int32.ofInt x) (Int32.ofInt y) 1 (Int32.ofInt k) = gX12_arePlacesAlike_l57 σ I J R (n + 1) (Int32.ofInt x) (Int32.ofInt y) 0 (Int32.ofInt ((k + 1 : Nat) : Int))) → Dec (gX12_arePlacesAlike_l57 σ I J R (n + 2) (Int32.ofInt x) (Int32.ofInt y) 1 (Int32.ofInt k)) (∀ q, k ≤ q → q < G 2 x → P q) := by
      intro b hb h1 h2
      by_cases c : b
      · rw [h1 c]
        refine (ih (k + 1) (n + 1) (by omega) (by omega)).of ⟨fun h q h1 h2 => ?_, fun h q h1 h2 => h q (by omega) h2⟩
        by_cases d : q = k
        · rw [d]; exact hb.mp c
        · exact h q (by omega) h2
      · rw [h2 c, mp0 (by omega)]
        exact Or.inr ⟨rfl, fun h => c (hb.mpr (h k (Nat.le_refl _) (by omega)))⟩
    have u : gX12_arePlacesAlike_l57 σ I J R (n + 2) (Int32.ofInt x) (Int32.ofInt y) 1 (Int32.ofInt k) = if Int32.ofInt (G 4 (G 3 x + k) : Nat) = Int32.ofInt (G 4 (G 3 y + k) : Nat) then gX12_arePlacesAlike_l57 σ I J R (n + 1) (Int32.ofInt x) (Int32.ofInt y) 1 (Int32.ofInt ((k + 1 : Nat) : Int)) else if Int32.ofInt (G 1 x : Nat) = 11 then if Int32.ofInt (G 4 (G 3 x + k) : Nat) = 0 then gX12_arePlacesAlike_l57 σ I J R (n + 1) (Int32.ofInt x) (Int32.ofInt y) 0 (Int32.ofInt ((k + 1 : Nat) : Int)) else if Int32.ofInt (G 4 (G 3 y + k) : Nat) = 0 then gX12_arePlacesAlike_l57 σ I J R (n + 1) (Int32.ofInt x) (Int32.ofInt y) 0 (Int32.ofInt ((k + 1 : Nat) : Int)) else (gX12_areGridsAlike σ I J R (Int32.ofInt (G 4 (G 3 x + k) : Nat)) (Int32.ofInt (G 4 (G 3 y + k) : Nat))).bind fun r15 => if r15 = 0 then gX12_arePlacesAlike_l57 σ I J R (n + 1) (Int32.ofInt x) (Int32.ofInt y) 0 (Int32.ofInt ((k + 1 : Nat) : Int)) else gX12_arePlacesAlike_l57 σ I J R (n + 1) (Int32.ofInt x) (Int32.ofInt y) 1 (Int32.ofInt ((k + 1 : Nat) : Int)) else gX12_arePlacesAlike_l57 σ I J R (n + 1) (Int32.ofInt x) (Int32.ofInt y) 0 (Int32.ofInt ((k + 1 : Nat) : Int)) := by
      rw [gX12_arePlacesAlike_l57]
      dsimp only
      rw [if_pos (g41 (by omega)), t41 (by omega), m2, if_neg (by rw [i_le (by omega) (by omega)]; omega), if_neg n10, if_pos (g41p (by omega)), m3, iadd, if_pos (g41k (by omega)), if_pos (g41 (by omega)), t41 (t := y) (by omega), m4, iadd, if_pos (g41k (by omega)), t41 (by omega), t41 (by omega), e1, e2, iadd1, if_pos (g41p (by omega)), m1]
    rw [u]
    by_cases c1 : G 4 (G 3 x + k) = G 4 (G 3 y + k)
    · rw [if_pos (by rw [c1])] at u ⊢
      rw [← u]
      refine go True ⟨fun _ => hk'.mpr ?_, fun _ => trivial⟩ (fun _ => u) (fun h => absurd trivial h)
      by_cases d : G 1 x = 11
      · rw [if_pos d]; exact Or.inl c1
      · rw [if_neg d]; exact c1
    rw [if_neg (by rw [i_eq (by omega) (by omega)]; omega)] at u ⊢
    by_cases d : G 1 x = 11
    case neg =>
      rw [if_neg (by rw [i_eql (by omega)]; omega)] at u ⊢
      rw [← u]
      rw [if_neg d] at hk'
      exact go False ⟨fun h => h.elim, fun h => c1 (hk'.mp h)⟩ (fun h => h.elim) (fun _ => u)
    rw [if_pos (by rw [d]; rfl)] at u ⊢
    rw [if_pos d] at hk'
    by_cases c2 : G 4 (G 3 x + k) = 0
    · rw [if_pos (by rw [c2]; rfl)] at u ⊢
      rw [← u]
      refine go False ⟨fun h => h.elim, fun h => ?_⟩ (fun h => h.elim) (fun _ => u)
      rcases hk'.mp h with h | ⟨h, -⟩
      · exact c1 h
      · exact h c2
    rw [if_neg (by rw [i_eql (by omega)]; omega)] at u ⊢
    by_cases c3 : G 4 (G 3 y + k) = 0
    · rw [if_pos (by rw [c3]; rfl)] at u ⊢
      rw [← u]
      refine go False ⟨fun h => h.elim, fun h => ?_⟩ (fun h => h.elim) (fun _ => u)
      rcases hk'.mp h with h | ⟨-, h, -⟩
      · exact c1 h
      · exact h c3
    rw [if_neg (by rw [i_eql (by omega)]; omega)] at u ⊢
    have f1 := (kx.2 c2).2.1 d
    have f2 := (ky.2 c3).2.1 (by omega)
    rcases m_grids (σ := σ) (R := R) hg hm (show 1 ≤ G 4 (G 3 x + k) by omega) kx.1 (show 1 ≤ G 4 (G 3 y + k) by omega) ky.1 (by omega) (by omega) with ⟨a, b⟩ | ⟨a, b⟩
    · rw [a, ob_some, if_neg n10] at u ⊢
      rw [← u]
      exact go True ⟨fun _ => hk'.mpr (Or.inr ⟨c2, c3, b⟩), fun _ => trivial⟩ (fun _ => u) (fun h => absurd trivial h)
    · rw [a, ob_some, if_pos rfl] at u ⊢
      rw [← u]
      refine go False ⟨fun h => h.elim, fun h => ?_⟩ (fun h => h.elim) (fun _ => u)
      rcases hk'.mp h with h | ⟨-, -, h⟩
      · exact c1 h
      · exact b h
theorem mkl {G : Nat → Nat → Nat} {C : Nat → Int64} {N : Nat → Nat → Int32} {σ : Shp} {I : Nat → Nat → Int32} {J : Nat → Nat → Int64} {R : Nat → Nat → Option Nat} {x y : Nat} (hm : TMo G C N I J) (hx : x < 4100) (hy : y < 4100) (bx : G 3 x + 8 ≤ 164000) (b_y : G 3 y + 8 ≤ 164000) : ∀ (w k n : Nat), w + 1 < n → k + w = 8 → Dec (gX12_areCardsAlike_l39 σ I J R n (Int32.ofInt x) (Int32.ofInt y) 1 (Int32.ofInt k)) (∀ q, k ≤ q → q < 8 → C (G 3 x + q) = C (G 3 y + q)) := by
  have m3 := (hm.2.2.1 x hx).2.2.1
  have m4 := (hm.2.2.1 y hy).2.2.1
  intro w
  induction w with
  | zero =>
    intro k n hn hk
    obtain ⟨n, rfl⟩ : ∃ m, n = m + 1 := ⟨n - 1, by omega⟩
    refine Or.inl ⟨?_, fun q h1 h2 => by omega⟩
    rw [gX12_areCardsAlike_l39, if_pos (by rw [i_ler (by omega)]; omega), if_pos (Or.inr rfl)]
  | succ w ih =>
    intro k n hn hk
    obtain ⟨n, rfl⟩ : ∃ m, n = m + 1 := ⟨n - 1, by omega⟩
    have e1 := hm.2.2.2.1 (G 3 x + k) (by omega)
    have e2 := hm.2.2.2.1 (G 3 y + k) (by omega)
    have ek : ((k : Int) + 1) = ((k + 1 : Nat) : Int) := by omega
    have t1 : ((G 3 x : Int) + (k : Int)).toNat = G 3 x + k := by omega
    have t2 : ((G 3 y : Int) + (k : Int)).toNat = G 3 y + k := by omega
    have u : gX12_areCardsAlike_l39 σ I J R (n + 1) (Int32.ofInt x) (Int32.ofInt y) 1 (Int32.ofInt k) = if C (G 3 x + k) = C (G 3 y + k) then gX12_areCardsAlike_l39 σ I J R n (Int32.ofInt x) (Int32.ofInt y) 1 (Int32.ofInt ((k + 1 : Nat) : Int)) else gX12_areCardsAlike_l39 σ I J R n (Int32.ofInt x) (Int32.ofInt y) 0 (Int32.ofInt ((k + 1 : Nat) : Int)) := by
      rw [gX12_areCardsAlike_l39]
      simp (disch := omega) only [fail_r, no_r, nob_r, fI_o, Nat.reduceLeDiff, ↓reduceIte, not_true_eq_false, not_false_eq_true, false_imp_iff, true_imp_iff, and_true, true_and, and_self, implies_true, false_or, or_false, true_or, or_true, d10, d01, d00, d11, g_tn, Tot_some, Tot_none, Tot_ite, Tot_bind, ob_some, onl_n, onl_s, nat32, Int.toNat_natCast, i_add, i_sub, i_mul, i_addl, i_addr, i_subl, i_subr, i_mulr, i_addn, i_gd, i_tn, i_w, i_ltlT, i_ltlF, i_ltrT, i_ltrF, i_lelT, i_lelF, i_lerT, i_lerF, i_eqlT, i_eqlF, i_eqrT, i_eqrF, i_ltnT, i_ltnF, i_lenT, i_lenF, i_eqnT, i_eqnF, i_ltT, i_ltF, i_leT, i_leF, i_eqT, i_eqF, j_ltlT, j_ltlF, j_ltrT, j_ltrF, j_lelT, j_lelF, j_lerT, j_lerF, j_eqlT, j_eqlF, j_ltT, j_ltF, j_leT, j_leF, j_eqT, j_eqF, i_mull, l_tn, l_lt0, l_ne0, nleF, tX11_isStockT, tX11_isStockF, tX11_isBinT, tX11_isBinF, tX11_isPlanT, tX11_isPlanF, tX11_isValveT, tX11_isValveF, tX11_isLaneT, tX11_isLaneF, tX11_isGridFormT, tX11_isGridFormF, tX11_isFormT, tX11_isFormF, tX11_isTrayFormT, tX11_isTrayFormF, tX11_isPlacesFormT, tX11_isPlacesFormF, tX11_isTableT, tX11_isTableF, tX11_isProbeT, tX11_isProbeF, tX11_isHouseT, tX11_isHouseF, tX11_isPestT, tX11_isPestF, tX11_isStageT, tX11_isStageF, tX11_isPartT, tX11_isPartF, tX12_isBinT, tX12_isBinF, tX12_isTableT, tX12_isTableF, tX12_inT, tX12_inF, tX12_innT, tX12_innF, tX12_ingT, tX12_ingF, tX12_isStageT, tX12_isStageF, tX1_isByteT, tX1_isByteF, m3, m4, e1, e2, ek, t1, t2]
    rw [u]
    by_cases c : C (G 3 x + k) = C (G 3 y + k)
    · rw [if_pos c]
      refine (ih (k + 1) n (by omega) (by omega)).of ⟨fun h q h1 h2 => ?_, fun h q h1 h2 => h q (by omega) h2⟩
      by_cases d : q = k
      · rw [d]; exact c
      · exact h q (by omega) h2
    · rw [if_neg c]
      obtain ⟨n, rfl⟩ : ∃ m, n = m + 1 := ⟨n - 1, by omega⟩
      rw [mk0]
      exact Or.inr ⟨rfl, fun h => c (h k (Nat.le_refl _) (by omega))⟩
theorem m_cards {G : Nat → Nat → Nat} {C : Nat → Int64} {N : Nat → Nat → Int32} {σ : Shp} {I : Nat → Nat → Int32} {J : Nat → Nat → Int64} {R : Nat → Nat → Option Nat} {x y : Nat} (hg : TSg G C N) (hm : TMo G C N I J) (x1 : 1 ≤ x) (x2 : x ≤ G 10 0) (y1 : 1 ≤ y) (y2 : y ≤ G 10 0) (fx : G 1 x = 17) (fy : G 1 y = 17) : Dec (gX12_areCardsAlike σ I J R (Int32.ofInt x) (Int32.ofInt y)) ((G 5 x = G 5 y ∧ G 6 x = G 6 y) ∧ EC G C x y) := by
  have h0 := hg.1
  have hx := hg.2.2.1 x x1 x2
  have hy := hg.2.2.1 y y1 y2
  have h5 := hx.2.2.2.2.2.2.2.2.2.2.1
  have h6 := hx.2.2.2.2.2.2.2.2.2.2.2.1
  have i5 := hy.2.2.2.2.2.2.2.2.2.2.1
  have i6 := hy.2.2.2.2.2.2.2.2.2.2.2.1
  have nx : nC (G 1 x) (G 2 x) = 8 := by rw [fx]; rfl
  have ny : nC (G 1 y) (G 2 y) = 8 := by rw [fy]; rfl
  have sx := hx.2.2.2.2.2.2.2.1 (Or.inr fx)
  have sy := hy.2.2.2.2.2.2.2.1 (Or.inr fy)
  rw [nx] at sx
  rw [ny] at sy
  have m8 := (hm.2.2.1 x (by omega)).2.2.2.2.2.2.2.1
  have m9 := (hm.2.2.1 x (by omega)).2.2.2.2.2.2.2.2.1
  have p8 := (hm.2.2.1 y (by omega)).2.2.2.2.2.2.2.1
  have p9 := (hm.2.2.1 y (by omega)).2.2.2.2.2.2.2.2.1
  unfold gX12_areCardsAlike EC
  rw [nx, ny]
  rw [if_pos (g41 (by omega)), if_pos (g41 (by omega)), t41 (by omega), t41 (by omega), m8, m9, p8, p9]
  by_cases c : G 5 x = G 5 y
  · rw [if_pos (by rw [c]), if_pos (g41p (by omega)), if_pos (g41p (by omega))]
    by_cases d : G 6 x = G 6 y
    · rw [if_pos (by rw [d])]
      refine (mkl (σ := σ) (R := R) hm (show x < 4100 by omega) (show y < 4100 by omega) (by omega) (by omega) 8 0 FUx (by rw [FUx_eq]; omega) (by omega)).of ⟨fun h => ⟨⟨c, d⟩, rfl, fun k hk => h k (by omega) hk⟩, fun h q _ hq => h.2.2 q hq⟩
    · rw [if_neg (by rw [i_eq (by omega) (by omega)]; omega)]
      rw [show FUx = 1999999 + 1 from rfl, mk0]
      exact Or.inr ⟨rfl, fun h => d h.1.2⟩
  · rw [if_neg (by rw [i_eq (by omega) (by omega)]; omega)]
    rw [show FUx = 1999999 + 1 from rfl, mk0]
    exact Or.inr ⟨rfl, fun h => c h.1.1⟩
theorem m_places {G : Nat → Nat → Nat} {C : Nat → Int64} {N : Nat → Nat → Int32} {σ : Shp} {I : Nat → Nat → Int32} {J : Nat → Nat → Int64} {R : Nat → Nat → Option Nat} {x y : Nat} {P : Nat → Prop} (hg : TSg G C N) (hm : TMo G C N I J) (x1 : 1 ≤ x) (x2 : x ≤ G 10 0) (y1 : 1 ≤ y) (y2 : y ≤ G 10 0) (fx : 11 ≤ G 1 x ∧ G 1 x ≤ 15) (fy : G 1 x = G 1 y) (hP : ∀ k, k < G 2 x → (P k ↔ if G 1 x = 11 then EqG G C (G 4 (G 3 x + k)) (G 4 (G 3 y + k)) else G 4 (G 3 x + k) = G 4 (G 3 y + k))) : Dec (gX12_arePlacesAlike σ I J R (Int32.ofInt x) (Int32.ofInt y)) (G 2 x = G 2 y ∧ ∀ k, k < G 2 x → P k) := by
  have h0 := hg.1
  have lx := (hg.2.2.1 x x1 x2).2.2.2.2.1 (by omega)
  have ly := (hg.2.2.1 y y1 y2).2.2.2.2.1 (by omega)
  have m1 := (hm.2.2.1 x (by omega)).1
  have m2 := (hm.2.2.1 x (by omega)).2.1
  have p1 := (hm.2.2.1 y (by omega)).1
  have p2 := (hm.2.2.1 y (by omega)).2.1
  unfold gX12_arePlacesAlike
  rw [if_pos (g41 (by omega)), t41 (by omega), m1, if_pos (by rw [i_ler (by omega)]; omega), if_pos (g41 (by omega)), t41 (by omega), p1, if_pos (by rw [fy]), if_pos (g41p (by omega)), if_pos (g41p (by omega)), m2, p2]
  by_cases d : G 2 x = G 2 y
  · rw [if_pos (by rw [d])]
    exact (mpl (σ := σ) (R := R) hg hm x1 x2 y1 y2 fx fy d hP (G 2 x) 0 FUx (by rw [FUx_eq]; omega) (by omega)).of ⟨fun h => ⟨d, fun k hk => h k (by omega) hk⟩, fun h q _ hq => h.2 q hq⟩
  · rw [if_neg (by rw [i_eq (by omega) (by omega)]; omega)]
    rw [show FUx = 1999999 + 1 from rfl, mp0 (by omega)]
    exact Or.inr ⟨rfl, fun h => d h.1⟩
theorem Dec.b {e f : Option Int32} {P : Prop} (h : Dec e P) (h2 : Dec f P) : Tot (e.bind fun r5 => if r5 = 0 then some (0 : Int32) else some 1) (fun t => Tot (f.bind fun r5 => if r5 = 0 then some (0 : Int32) else some 1) (fun t2 => t = t2)) := by
  rcases h with ⟨a, b⟩ | ⟨a, b⟩ <;> rcases h2 with ⟨c, d⟩ | ⟨c, d⟩
  · rw [a, c]; exact ⟨1, rfl, 1, rfl, rfl⟩
  · exact absurd b d
  · exact absurd d b
  · rw [a, c]; exact ⟨0, rfl, 0, rfl, rfl⟩
theorem c_alike {σ : Shp} {I : Nat → Nat → Int32} {J : Nat → Nat → Int64} {R : Nat → Nat → Option Nat} {x1 x2 : Int32} (hT : GThing σ I J R) : Tot (gX11_alike σ I J R x1 x2) (fun t => Tot (gX12_alike σ I J R x1 x2) (fun t2 => t = t2)) := by
  obtain ⟨i, hi1, hi2, rfl⟩ := rep x1
  obtain ⟨j, hj1, hj2, rfl⟩ := rep x2
  obtain ⟨G, C, N, hg, hc, hm⟩ := hT
  have h40 := hg.1.1
  by_cases c1 : 0 ≤ i ∧ i ≤ 15
  case neg =>
    refine tt (-2) (-2) ?_ ?_ rfl
    · unfold gX11_alike
      simp (disch := omega) only [fail_r, no_r, nob_r, fI_o, Nat.reduceLeDiff, ↓reduceIte, not_true_eq_false, not_false_eq_true, false_imp_iff, true_imp_iff, and_true, true_and, and_self, implies_true, false_or, or_false, true_or, or_true, d10, d01, d00, d11, g_tn, Tot_some, Tot_none, Tot_ite, Tot_bind, ob_some, onl_n, onl_s, nat32, Int.toNat_natCast, i_add, i_sub, i_mul, i_addl, i_addr, i_subl, i_subr, i_mulr, i_addn, i_gd, i_tn, i_w, i_ltlT, i_ltlF, i_ltrT, i_ltrF, i_lelT, i_lelF, i_lerT, i_lerF, i_eqlT, i_eqlF, i_eqrT, i_eqrF, i_ltnT, i_ltnF, i_lenT, i_lenF, i_eqnT, i_eqnF, i_ltT, i_ltF, i_leT, i_leF, i_eqT, i_eqF, j_ltlT, j_ltlF, j_ltrT, j_ltrF, j_lelT, j_lelF, j_lerT, j_lerF, j_eqlT, j_eqlF, j_ltT, j_ltF, j_leT, j_leF, j_eqT, j_eqF, i_mull, l_tn, l_lt0, l_ne0, nleF, tX11_isStockT, tX11_isStockF, tX11_isBinT, tX11_isBinF, tX11_isPlanT, tX11_isPlanF, tX11_isValveT, tX11_isValveF, tX11_isLaneT, tX11_isLaneF, tX11_isGridFormT, tX11_isGridFormF, tX11_isFormT, tX11_isFormF, tX11_isTrayFormT, tX11_isTrayFormF, tX11_isPlacesFormT, tX11_isPlacesFormF, tX11_isTableT, tX11_isTableF, tX11_isProbeT, tX11_isProbeF, tX11_isHouseT, tX11_isHouseF, tX11_isPestT, tX11_isPestF, tX11_isStageT, tX11_isStageF, tX11_isPartT, tX11_isPartF, tX12_isBinT, tX12_isBinF, tX12_isTableT, tX12_isTableF, tX12_inT, tX12_inF, tX12_innT, tX12_innF, tX12_ingT, tX12_ingF, tX12_isStageT, tX12_isStageF, tX1_isByteT, tX1_isByteF]
    · unfold gX12_alike
      simp (disch := omega) only [fail_r, no_r, nob_r, fI_o, Nat.reduceLeDiff, ↓reduceIte, not_true_eq_false, not_false_eq_true, false_imp_iff, true_imp_iff, and_true, true_and, and_self, implies_true, false_or, or_false, true_or, or_true, d10, d01, d00, d11, g_tn, Tot_some, Tot_none, Tot_ite, Tot_bind, ob_some, onl_n, onl_s, nat32, Int.toNat_natCast, i_add, i_sub, i_mul, i_addl, i_addr, i_subl, i_subr, i_mulr, i_addn, i_gd, i_tn, i_w, i_ltlT, i_ltlF, i_ltrT, i_ltrF, i_lelT, i_lelF, i_lerT, i_lerF, i_eqlT, i_eqlF, i_eqrT, i_eqrF, i_ltnT, i_ltnF, i_lenT, i_lenF, i_eqnT, i_eqnF, i_ltT, i_ltF, i_leT, i_leF, i_eqT, i_eqF, j_ltlT, j_ltlF, j_ltrT, j_ltrF, j_lelT, j_lelF, j_lerT, j_lerF, j_eqlT, j_eqlF, j_ltT, j_ltF, j_leT, j_leF, j_eqT, j_eqF, i_mull, l_tn, l_lt0, l_ne0, nleF, tX11_isStockT, tX11_isStockF, tX11_isBinT, tX11_isBinF, tX11_isPlanT, tX11_isPlanF, tX11_isValveT, tX11_isValveF, tX11_isLaneT, tX11_isLaneF, tX11_isGridFormT, tX11_isGridFormF, tX11_isFormT, tX11_isFormF, tX11_isTrayFormT, tX11_isTrayFormF, tX11_isPlacesFormT, tX11_isPlacesFormF, tX11_isTableT, tX11_isTableF, tX11_isProbeT, tX11_isProbeF, tX11_isHouseT, tX11_isHouseF, tX11_isPestT, tX11_isPestF, tX11_isStageT, tX11_isStageF, tX11_isPartT, tX11_isPartF, tX12_isBinT, tX12_isBinF, tX12_isTableT, tX12_isTableF, tX12_inT, tX12_inF, tX12_innT, tX12_innF, tX12_ingT, tX12_ingF, tX12_isStageT, tX12_isStageF, tX1_isByteT, tX1_isByteF]
  by_cases c2 : 0 ≤ j ∧ j ≤ 15
  case neg =>
    refine tt (-2) (-2) ?_ ?_ rfl
    · unfold gX11_alike
      simp (disch := omega) only [fail_r, no_r, nob_r, fI_o, Nat.reduceLeDiff, ↓reduceIte, not_true_eq_false, not_false_eq_true, false_imp_iff, true_imp_iff, and_true, true_and, and_self, implies_true, false_or, or_false, true_or, or_true, d10, d01, d00, d11, g_tn, Tot_some, Tot_none, Tot_ite, Tot_bind, ob_some, onl_n, onl_s, nat32, Int.toNat_natCast, i_add, i_sub, i_mul, i_addl, i_addr, i_subl, i_subr, i_mulr, i_addn, i_gd, i_tn, i_w, i_ltlT, i_ltlF, i_ltrT, i_ltrF, i_lelT, i_lelF, i_lerT, i_lerF, i_eqlT, i_eqlF, i_eqrT, i_eqrF, i_ltnT, i_ltnF, i_lenT, i_lenF, i_eqnT, i_eqnF, i_ltT, i_ltF, i_leT, i_leF, i_eqT, i_eqF, j_ltlT, j_ltlF, j_ltrT, j_ltrF, j_lelT, j_lelF, j_lerT, j_lerF, j_eqlT, j_eqlF, j_ltT, j_ltF, j_leT, j_leF, j_eqT, j_eqF, i_mull, l_tn, l_lt0, l_ne0, nleF, tX11_isStockT, tX11_isStockF, tX11_isBinT, tX11_isBinF, tX11_isPlanT, tX11_isPlanF, tX11_isValveT, tX11_isValveF, tX11_isLaneT, tX11_isLaneF, tX11_isGridFormT, tX11_isGridFormF, tX11_isFormT, tX11_isFormF, tX11_isTrayFormT, tX11_isTrayFormF, tX11_isPlacesFormT, tX11_isPlacesFormF, tX11_isTableT, tX11_isTableF, tX11_isProbeT, tX11_isProbeF, tX11_isHouseT, tX11_isHouseF, tX11_isPestT, tX11_isPestF, tX11_isStageT, tX11_isStageF, tX11_isPartT, tX11_isPartF, tX12_isBinT, tX12_isBinF, tX12_isTableT, tX12_isTableF, tX12_inT, tX12_inF, tX12_innT, tX12_innF, tX12_ingT, tX12_ingF, tX12_isStageT, tX12_isStageF, tX1_isByteT, tX1_isByteF]
    · unfold gX12_alike
      simp (disch := omega) only [fail_r, no_r, nob_r, fI_o, Nat.reduceLeDiff, ↓reduceIte, not_true_eq_false, not_false_eq_true, false_imp_iff, true_imp_iff, and_true, true_and, and_self, implies_true, false_or, or_false, true_or, or_true, d10, d01, d00, d11, g_tn, Tot_some, Tot_none, Tot_ite, Tot_bind, ob_some, onl_n, onl_s, nat32, Int.toNat_natCast, i_add, i_sub, i_mul, i_addl, i_addr, i_subl, i_subr, i_mulr, i_addn, i_gd, i_tn, i_w, i_ltlT, i_ltlF, i_ltrT, i_ltrF, i_lelT, i_lelF, i_lerT, i_lerF, i_eqlT, i_eqlF, i_eqrT, i_eqrF, i_ltnT, i_ltnF, i_lenT, i_lenF, i_eqnT, i_eqnF, i_ltT, i_ltF, i_leT, i_leF, i_eqT, i_eqF, j_ltlT, j_ltlF, j_ltrT, j_ltrF, j_lelT, j_lelF, j_lerT, j_lerF, j_eqlT, j_eqlF, j_ltT, j_ltF, j_leT, j_leF, j_eqT, j_eqF, i_mull, l_tn, l_lt0, l_ne0, nleF, tX11_isStockT, tX11_isStockF, tX11_isBinT, tX11_isBinF, tX11_isPlanT, tX11_isPlanF, tX11_isValveT, tX11_isValveF, tX11_isLaneT, tX11_isLaneF, tX11_isGridFormT, tX11_isGridFormF, tX11_isFormT, tX11_isFormF, tX11_isTrayFormT, tX11_isTrayFormF, tX11_isPlacesFormT, tX11_isPlacesFormF, tX11_isTableT, tX11_isTableF, tX11_isProbeT, tX11_isProbeF, tX11_isHouseT, tX11_isHouseF, tX11_isPestT, tX11_isPestF, tX11_isStageT, tX11_isStageF, tX11_isPartT, tX11_isPartF, tX12_isBinT, tX12_isBinF, tX12_isTableT, tX12_isTableF, tX12_inT, tX12_inF, tX12_innT, tX12_innF, tX12_ingT, tX12_ingF, tX12_isStageT, tX12_isStageF, tX1_isByteT, tX1_isByteF]
  have ep := hc.2.1 i.toNat (by omega)
  have er := hc.2.1 j.toNat (by omega)
  have mp := hm.2.1 i.toNat (by omega)
  have mr := hm.2.1 j.toNat (by omega)
  have hx := hg.2.1 i.toNat (by omega)
  have hy := hg.2.1 j.toNat (by omega)
  generalize G 9 i.toNat = x at *
  generalize G 9 j.toNat = y at *
  have cl : gX11_alike σ I J R (Int32.ofInt i) (Int32.ofInt j) = if x = y then some 2 else (gX11_equalThings 8 σ I J R (pn G x) (pn G y) 0).bind fun r5 => if r5 = 0 then some 0 else some 1 := by
    unfold gX11_alike
    rw [tX11_isBinT c1, if_neg n10, tX11_isBinT c2, if_neg n10, if_pos (by rw [i_gd (by omega)]; exact id), if_pos (by rw [i_gd (by omega)]; exact id), i_tn (by omega), i_tn (by omega), ep, er, if_pos (ok_pn hc hx), if_pos (ok_pn hc hy)]
    by_cases c : x = y
    · rw [if_pos (by rw [c]), if_pos c]
    · rw [if_neg (fun h => c (pn_inj hc hx hy h)), if_neg c]
  have ml : gX12_alike σ I J R (Int32.ofInt i) (Int32.ofInt j) = if x = y then some 2 else if x = 0 then some 0 else if y = 0 then some 0 else if G 1 x = G 1 y then if G 1 x = 16 then some 0 else if G 1 x ≤ 7 then (gX12_areRowsAlike σ I J R (Int32.ofInt x) (Int32.ofInt y)).bind fun r5 => if r5 = 0 then some 0 else some 1 else if G 1 x = 17 then (gX12_areCardsAlike σ I J R (Int32.ofInt x) (Int32.ofInt y)).bind fun r5 => if r5 = 0 then some 0 else some 1 else (gX12_arePlacesAlike σ I J R (Int32.ofInt x) (Int32.ofInt y)).bind fun r5 => if r5 = 0 then some 0 else some 1 else some 0 := by
    unfold gX12_alike
    dsimp only
    rw [tX12_isBinT c1, if_neg n10, tX12_isBinT c2, if_neg n10, if_pos (by rw [i_gd (by omega)]; exact id), if_pos (by rw [i_gd (by omega)]; exact id), i_tn (by omega), i_tn (by omega), mp, mr]
    by_cases c : x = y
    · rw [if_pos (by rw [c]), if_pos c]
    rw [if_neg (by rw [i_eq (by omega) (by omega)]; omega), if_neg c]
    by_cases zx : x = 0
    · rw [if_pos (by rw [zx]; rfl), if_pos zx]
    rw [if_neg (by rw [i_eql (by omega)]; omega), if_neg zx]
    by_cases zy : y = 0
    · rw [if_pos (by rw [zy]; rfl), if_pos zy]
    have f1 := (hg.2.2.1 x (by omega) hx).1
    have f2 := (hg.2.2.1 y (by omega) hy).1
    have m1 := (hm.2.2.1 x (by omega)).1
    have m2 := (hm.2.2.1 y (by omega)).1
    rw [if_neg (by rw [i_eql (by omega)]; omega), if_neg zy, if_pos (g41 (by omega)), if_pos (g41 (by omega)), t41 (by omega), t41 (by omega), m1, m2]
    by_cases cf : G 1 x = G 1 y
    case neg => rw [if_neg (by rw [i_eq (by omega) (by omega)]; omega), if_neg cf]
    rw [if_pos (by rw [cf]), if_pos cf]
    by_cases c16 : G 1 x = 16
    · rw [if_pos (by rw [c16]; rfl), if_pos c16]
    rw [if_neg (by rw [i_eql (by omega)]; omega), if_neg c16]
    by_cases c7 : G 1 x ≤ 7
    · rw [k_rwT (by omega) m1 c7, ob_some, if_neg n10, if_pos c7]
    rw [k_rwF (by omega) m1 (by omega), ob_some, if_pos rfl, if_neg c7]
    by_cases c17 : G 1 x = 17
    · rw [if_pos (by rw [c17]; rfl), if_pos c17]
    · rw [if_neg (by rw [i_eql (by omega)]; omega), if_neg c17]
  rw [cl, ml]
  by_cases c : x = y
  · rw [if_pos c, if_pos c]
    exact ⟨2, rfl, 2, rfl, rfl⟩
  rw [if_neg c, if_neg c]
  have no : (x = 0 ∨ y = 0 ∨ G 1 x ≠ G 1 y ∨ G 1 x = 16) → gX11_equalThings 8 σ I J R (pn G x) (pn G y) 0 = some 0 := by
    intro h
    rcases eqT_h (n := 7) (lv := 0) hc hx hy with ⟨a, b⟩ | ⟨a, b, d⟩ | ⟨a, zx, zy, b⟩
    · exact absurd a c
    · exact d
    · have f1 := (hg.2.2.1 x (by omega) hx).1
      have f2 := (hg.2.2.1 y (by omega) hy).1
      obtain ⟨-, ⟨b1, -⟩, -⟩ := hc.2.2.1 x (by omega) hx
      obtain ⟨-, ⟨d1, -⟩, -⟩ := hc.2.2.1 y (by omega) hy
      rw [b1, d1] at b
      by_cases cf : G 1 x = G 1 y
      · rw [if_pos (by rw [cf]), if_pos (by rw [show G 1 x = 16 by omega]; rfl)] at b
        exact b
      · rw [if_neg (by rw [i_eq (by omega) (by omega)]; omega)] at b
        exact b
  by_cases zx : x = 0
  · rw [if_pos zx, no (Or.inl zx)]
    exact ⟨0, rfl, 0, rfl, rfl⟩
  rw [if_neg zx]
  by_cases zy : y = 0
  · rw [if_pos zy, no (Or.inr (Or.inl zy))]
    exact ⟨0, rfl, 0, rfl, rfl⟩
  rw [if_neg zy]
  by_cases cf : G 1 x = G 1 y
  case neg =>
    rw [if_neg cf, no (Or.inr (Or.inr (Or.inl cf)))]
    exact ⟨0, rfl, 0, rfl, rfl⟩
  rw [if_pos cf]
  by_cases c16 : G 1 x = 16
  · rw [if_pos c16, no (Or.inr (Or.inr (Or.inr c16)))]
    exact ⟨0, rfl, 0, rfl, rfl⟩
  rw [if_neg c16]
  have f1 := (hg.2.2.1 x (by omega) hx).1
  by_cases c7 : G 1 x ≤ 7
  · rw [if_pos c7]
    refine Dec.b (P := EqR G C x y) (eqT_R (n := 7) hg hc hx hy (fun _ => c7) (fun _ => by omega) (by decide)) ((m_rows hg hm (by omega) hx (by omega) hy c7 (by omega)).of ⟨fun h => Or.inr ⟨zx, zy, h⟩, fun h => ?_⟩)
    rcases h with h | ⟨-, -, h⟩
    · exact absurd h c
    · exact h
  rw [if_neg c7]
  by_cases c17 : G 1 x = 17
  · rw [if_pos c17]
    exact Dec.b (eqT_K (n := 7) hg hc (by omega) hx (by omega) hy c c17 (by omega) (by decide)) (m_cards hg hm (by omega) hx (by omega) hy c17 (by omega))
  rw [if_neg c17]
  by_cases c10 : G 1 x ≤ 10
  · refine Dec.b (P := AG' G C x y) (eqT_G (n := 6) hg hc (by omega) hx (by omega) hy c (by omega) cf (by decide) (by decide)) ?_
    have m1 := (hm.2.2.1 x (by omega)).1
    unfold gX12_arePlacesAlike
    rw [if_pos (g41 (by omega)), t41 (by omega), m1, if_neg (by rw [i_ler (by omega)]; omega)]
    rcases m_grids (σ := σ) (R := R) hg hm (show 1 ≤ x by omega) hx (show 1 ≤ y by omega) hy (by omega) cf with ⟨a, b⟩ | ⟨a, b⟩
    · rw [a, ob_some, if_pos (Or.inr rfl)]
      exact Or.inl ⟨rfl, b⟩
    · rw [a, ob_some, if_pos (Or.inl rfl)]
      exact Or.inr ⟨rfl, b⟩
  by_cases c11 : G 1 x = 11
  · refine Dec.b (P := G 2 x = G 2 y ∧ ∀ k, k < G 2 x → EqG G C (G 4 (G 3 x + k)) (G 4 (G 3 y + k))) (eqT_P (n := 7) hg hc (by omega) hx (by omega) hy c (by omega) cf (by decide) (fun ez k hk => ?_)) (m_places hg hm (by omega) hx (by omega) hy (by omega) cf (fun k hk => by rw [if_pos c11]))
    have kx := kidF hg (show 1 ≤ x by omega) hx (by omega) hk
    have ky := kidF hg (show 1 ≤ y by omega) hy (by omega) (show k < G 2 y by omega)
    exact eqT_S (n := 5) hg hc kx.1 ky.1 (fun h => (kx.2 h).2.1 c11) (fun h => (ky.2 h).2.1 (by omega)) (by decide) (by decide)
  · refine Dec.b (P := G 2 x = G 2 y ∧ ∀ k, k < G 2 x → G 4 (G 3 x + k) = G 4 (G 3 y + k)) (eqT_P (n := 7) hg hc (by omega) hx (by omega) hy c (by omega) cf (by decide) (fun ez k hk => ?_)) (m_places hg hm (by omega) hx (by omega) hy (by omega) cf (fun k hk => by rw [if_neg c11]))
    have kx := kidF hg (show 1 ≤ x by omega) hx (by omega) hk
    have ky := kidF hg (show 1 ≤ y by omega) hy (by omega) (show k < G 2 y by omega)
    exact eqT_T (n := 6) hc kx.1 ky.1 (fun h => (kx.2 h).2.2 (by omega)) (fun h => (ky.2 h).2.2 (by omega))
