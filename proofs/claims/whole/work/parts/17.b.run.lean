/-! ===== a run: CATCHes and LASTs are looked for, both sides ===== -/
theorem chains {n O : Nat → Nat} {A : Nat → Nat → Int32} {σ : Shp} {I I' : Nat → Nat → Int32} {R R' : Nat → Nat → Option Nat} {σ' : Shp} {p c : Nat} (h : PlC n O A I) (h' : PlM n O A I') (hb : PlB n O) (hp : p < 4) (hE : PBd (op O p) (n p) (fun q => I 15 (40 * p + q))) (hc : kdx σ c = 4) (h1 : I c 1 = Int32.ofInt (p : Nat)) : ∀ (u x : Nat), x + u = n p → ∃ m b, Ch (op O p) 0 m x b ∧ b ≤ n p ∧ (b = n p ∨ op O p b ≠ 17) ∧ (∀ f k : Nat, m < f → k + m < 40 → gX7_entersLast_l20 σ R f I (some c) (Int32.ofInt x) (Int32.ofInt k) = gX7_entersLast_b64 σ R I (some c) (Int32.ofInt b)) ∧ (∀ f, m < f → gX12_leave_l9 σ' R' f I' (Int32.ofInt p) (Int32.ofInt x) = gX12_leave_b47 σ' R' I' (Int32.ofInt p) (Int32.ofInt b)) ∧ (∀ f, m < f → gX12_behind_l2 σ' R' f I' (Int32.ofInt p) (Int32.ofInt x) = gX12_behind_b40 σ' R' I' (Int32.ofInt p) (Int32.ofInt b)) := by
  have hn := hb.1 p hp
  intro u
  induction u using Nat.strongRecOn with
  | ind u ih =>
    intro x hx
    have e17 : ∀ k, k < n p → op O p k ≤ 20 := fun k hk => hb.2 _ (by omega)
    by_cases c17 : x < n p ∧ op O p x = 17
    · obtain ⟨q1, q2⟩ := c17
      obtain ⟨e, m1, m2, m3⟩ := hE.ex q1 (by omega)
      have lt := m1.1
      obtain ⟨m, b, a1, a2, a3, a4, a5, a6⟩ := ih (n p - (e + 1)) (by omega) (e + 1) (by omega)
      have le := a1.le
      refine ⟨m + 1, b, ⟨Or.inl q2, e, m1, a1⟩, a2, a3, fun f k hf hk => ?_, fun f hf => ?_, fun f hf => ?_⟩
      · obtain ⟨f, rfl⟩ : ∃ m, f = m + 1 := ⟨f - 1, by omega⟩
        rw [gX7_entersLast_l20, if_neg (by rw [i_ler (by omega)]; omega), ob_some, if_pos hc, h1, opK h hb hp (by omega), ob_some, if_pos q1, if_pos (by rw [q2]; rfl), eC h hb hp q1 hE m1, ob_some]
        try dsimp only
        rw [iadd1, iadd1]
        exact a4 f (k + 1) (by omega) (by omega)
      · obtain ⟨f, rfl⟩ : ∃ m, f = m + 1 := ⟨f - 1, by omega⟩
        rw [gX12_leave_l9, if_pos (p40 hp), t41 (by omega), h'.1 p hp, if_neg (by rw [i_le (by omega) (by omega)]; omega), iy40, if_pos (p16 (by omega)), t41 (by omega), (h'.2 _ (by omega)).1, if_pos (by rw [show O (40 * p + x) = 17 from q2]; rfl), endM h' hb hp m1 (by omega), ob_some]
        try dsimp only
        rw [iadd1]
        exact a5 f (by omega)
      · obtain ⟨f, rfl⟩ : ∃ m, f = m + 1 := ⟨f - 1, by omega⟩
        rw [gX12_behind_l2, if_pos (p40 hp), t41 (by omega), h'.1 p hp, if_neg (by rw [i_le (by omega) (by omega)]; omega), iy40, if_pos (p16 (by omega)), t41 (by omega), (h'.2 _ (by omega)).1, if_pos (by rw [show O (40 * p + x) = 17 from q2]; rfl), endM h' hb hp m1 (by omega), ob_some]
        try dsimp only
        rw [iadd1]
        exact a6 f (by omega)
    · have ne : x = n p ∨ op O p x ≠ 17 := by
        by_cases c : x < n p
        · exact Or.inr (fun q => c17 ⟨c, q⟩)
        · exact Or.inl (by omega)
      refine ⟨0, x, rfl, by omega, ne, fun f k hf hk => ?_, fun f hf => ?_, fun f hf => ?_⟩
      · obtain ⟨f, rfl⟩ : ∃ m, f = m + 1 := ⟨f - 1, by omega⟩
        rw [gX7_entersLast_l20, if_neg (by rw [i_ler (by omega)]; omega), ob_some, if_pos hc, h1, opK h hb hp (by omega), ob_some, if_neg]
        by_cases c : x < n p
        · rw [if_pos c, i_eql (by have := e17 x c; omega)]
          have := fun q => c17 ⟨c, q⟩
          omega
        · rw [if_neg c]; decide
      · obtain ⟨f, rfl⟩ : ∃ m, f = m + 1 := ⟨f - 1, by omega⟩
        rw [gX12_leave_l9, if_pos (p40 hp), t41 (by omega), h'.1 p hp]
        by_cases c : x < n p
        · rw [if_neg (by rw [i_le (by omega) (by omega)]; omega), iy40, if_pos (p16 (by omega)), t41 (by omega), (h'.2 _ (by omega)).1, if_neg]
          rw [i_eql (by have := hb.2 (40 * p + x) (by omega); omega)]
          exact fun q => c17 ⟨c, by show O (40 * p + x) = 17; omega⟩
        · rw [if_pos (by rw [i_le (by omega) (by omega)]; omega)]
      · obtain ⟨f, rfl⟩ : ∃ m, f = m + 1 := ⟨f - 1, by omega⟩
        rw [gX12_behind_l2, if_pos (p40 hp), t41 (by omega), h'.1 p hp]
        by_cases c : x < n p
        · rw [if_neg (by rw [i_le (by omega) (by omega)]; omega), iy40, if_pos (p16 (by omega)), t41 (by omega), (h'.2 _ (by omega)).1, if_neg]
          rw [i_eql (by have := hb.2 (40 * p + x) (by omega); omega)]
          exact fun q => c17 ⟨c, by show O (40 * p + x) = 17; omega⟩
        · rw [if_pos (by rw [i_le (by omega) (by omega)]; omega)]
theorem catches {n O : Nat → Nat} {A : Nat → Nat → Int32} {σ : Shp} {I I' : Nat → Nat → Int32} {R R' : Nat → Nat → Option Nat} {σ' : Shp} {p c : Nat} (h : PlC n O A I) (h' : PlM n O A I') (hb : PlB n O) (hp : p < 4) (hE : PBd (op O p) (n p) (fun q => I 15 (40 * p + q))) (hc : kdx σ c = 4) (h1 : I c 1 = Int32.ofInt (p : Nat)) (hk : I 25 1 = I' 114 60) : ∀ (u x : Nat), x + u = n p → ∃ m b, Ch (op O p) 0 m x b ∧ ((b < n p ∧ op O p b = 17 ∧ (∀ f k : Nat, m < f → k + m < 40 → gX7_meets_l20 σ R f I (some c) (Int32.ofInt x) (Int32.ofInt k) = gX7_meets_b73 σ R I (some c) (Int32.ofInt b)) ∧ (∀ f, m < f → gX12_isMet_l9 σ' R' f I' (Int32.ofInt p) (Int32.ofInt x) = gX12_isMet_b62 σ' R' I' (Int32.ofInt p) (Int32.ofInt b))) ∨ (b ≤ n p ∧ (∀ f k : Nat, m < f → k + m < 40 → gX7_meets_l20 σ R f I (some c) (Int32.ofInt x) (Int32.ofInt k) = some (I, 0)) ∧ (∀ f, m < f → gX12_isMet_l9 σ' R' f I' (Int32.ofInt p) (Int32.ofInt x) = some (I', 0)))) := by
  have hn := hb.1 p hp
  have g1 : ¬ ((1 : Int32) < 0 ∨ 6 ≤ Int32.toNatClampNeg (1 : Int32)) := by decide
  have g1' : Int32.toNatClampNeg (1 : Int32) = 1 := by decide
  intro u
  induction u using Nat.strongRecOn with
  | ind u ih =>
    intro x hx
    by_cases c17 : x < n p ∧ op O p x = 17
    · obtain ⟨q1, q2⟩ := c17
      obtain ⟨e, m1, m2, m3⟩ := hE.ex q1 (by omega)
      have lt := m1.1
      have hC : ∀ f k : Nat, k < 40 → gX7_meets_l20 σ R (f + 1) I (some c) (Int32.ofInt x) (Int32.ofInt k) = if A 0 (40 * p + x) = 0 ∨ A 0 (40 * p + x) = I' 114 60 then gX7_meets_b73 σ R I (some c) (Int32.ofInt x) else gX7_meets_l20 σ R f I (some c) (Int32.ofInt ((e + 1 : Nat) : Int)) (Int32.ofInt ((k + 1 : Nat) : Int)) := fun f k hk2 => by
        rw [gX7_meets_l20, if_neg (by rw [i_ler (by omega)]; omega), ob_some, if_pos hc, h1, opK h hb hp (by omega), ob_some, if_pos q1, if_pos (by rw [q2]; rfl), aC h hb hp q1, ob_some]
        by_cases z1 : A 0 (40 * p + x) = 0
        · rw [if_pos z1, if_pos (Or.inl z1)]
        · rw [if_neg z1, if_pos g1, g1', hk]
          by_cases z2 : A 0 (40 * p + x) = I' 114 60
          · rw [if_pos z2, if_pos (Or.inr z2)]
          · rw [if_neg z2, if_neg (fun q => q.elim z1 z2), eC h hb hp q1 hE m1, ob_some]
            try dsimp only
            rw [iadd1, iadd1]
      have hM : ∀ f : Nat, gX12_isMet_l9 σ' R' (f + 1) I' (Int32.ofInt p) (Int32.ofInt x) = if A 0 (40 * p + x) = 0 ∨ A 0 (40 * p + x) = I' 114 60 then gX12_isMet_b62 σ' R' I' (Int32.ofInt p) (Int32.ofInt x) else gX12_isMet_l9 σ' R' f I' (Int32.ofInt p) (Int32.ofInt ((e + 1 : Nat) : Int)) := fun f => by
        rw [gX12_isMet_l9, if_pos (p40 hp), t41 (by omega), h'.1 p hp, if_neg (by rw [i_le (by omega) (by omega)]; omega), iy40, if_pos (p16 (by omega)), t41 (by omega), (h'.2 _ (by omega)).1, if_pos (by rw [show O (40 * p + x) = 17 from q2]; rfl), if_pos (p16p (by omega)), (h'.2 _ (by omega)).2.1]
        try dsimp only
        by_cases z1 : A 0 (40 * p + x) = 0
        · rw [if_pos z1, if_pos (Or.inl z1)]
        · rw [if_neg z1]
          by_cases z2 : A 0 (40 * p + x) = I' 114 60
          · rw [if_pos z2, if_pos (Or.inr z2)]
          · rw [if_neg z2, if_neg (fun q => q.elim z1 z2), endM h' hb hp m1 (by omega), ob_some]
            try dsimp only
            rw [iadd1]
      by_cases z : A 0 (40 * p + x) = 0 ∨ A 0 (40 * p + x) = I' 114 60
      · refine ⟨0, x, rfl, Or.inl ⟨q1, q2, fun f k hf hk2 => ?_, fun f hf => ?_⟩⟩
        · obtain ⟨f, rfl⟩ : ∃ m, f = m + 1 := ⟨f - 1, by omega⟩
          rw [hC f k (by omega), if_pos z]
        · obtain ⟨f, rfl⟩ : ∃ m, f = m + 1 := ⟨f - 1, by omega⟩
          rw [hM f, if_pos z]
      · obtain ⟨m, b, a1, a2⟩ := ih (n p - (e + 1)) (by omega) (e + 1) (by omega)
        refine ⟨m + 1, b, ⟨Or.inl q2, e, m1, a1⟩, ?_⟩
        rcases a2 with ⟨b1, b2, b3, b4⟩ | ⟨b1, b3, b4⟩
        · refine Or.inl ⟨b1, b2, fun f k hf hk2 => ?_, fun f hf => ?_⟩
          · obtain ⟨f, rfl⟩ : ∃ m, f = m + 1 := ⟨f - 1, by omega⟩
            rw [hC f k (by omega), if_neg z]
            exact b3 f (k + 1) (by omega) (by omega)
          · obtain ⟨f, rfl⟩ : ∃ m, f = m + 1 := ⟨f - 1, by omega⟩
            rw [hM f, if_neg z]
            exact b4 f (by omega)
        · refine Or.inr ⟨b1, fun f k hf hk2 => ?_, fun f hf => ?_⟩
          · obtain ⟨f, rfl⟩ : ∃ m, f = m + 1 := ⟨f - 1, by omega⟩
            rw [hC f k (by omega), if_neg z]
            exact b3 f (k + 1) (by omega) (by omega)
          · obtain ⟨f, rfl⟩ : ∃ m, f = m + 1 := ⟨f - 1, by omega⟩
            rw [hM f, if_neg z]
            exact b4 f (by omega)
    · refine ⟨0, x, rfl, Or.inr ⟨by omega, fun f k hf hk2 => ?_, fun f hf => ?_⟩⟩
      · obtain ⟨f, rfl⟩ : ∃ m, f = m + 1 := ⟨f - 1, by omega⟩
        rw [gX7_meets_l20, if_neg (by rw [i_ler (by omega)]; omega), ob_some, if_pos hc, h1, opK h hb hp (by omega), ob_some, if_neg]
        by_cases c : x < n p
        · rw [if_pos c, i_eql (by have := hb.2 (40 * p + x) (by omega); unfold op; omega)]
          have := fun q => c17 ⟨c, q⟩
          omega
        · rw [if_neg c]; decide
      · obtain ⟨f, rfl⟩ : ∃ m, f = m + 1 := ⟨f - 1, by omega⟩
        rw [gX12_isMet_l9, if_pos (p40 hp), t41 (by omega), h'.1 p hp]
        by_cases c : x < n p
        · rw [if_neg (by rw [i_le (by omega) (by omega)]; omega), iy40, if_pos (p16 (by omega)), t41 (by omega), (h'.2 _ (by omega)).1, if_neg]
          rw [i_eql (by have := hb.2 (40 * p + x) (by omega); omega)]
          exact fun q => c17 ⟨c, by show O (40 * p + x) = 17; omega⟩
        · rw [if_pos (by rw [i_le (by omega) (by omega)]; omega)]
