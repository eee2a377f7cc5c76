/-! ===== a run: TRY: a LAST is looked for ===== -/
theorem lastX {n O : Nat → Nat} {A : Nat → Nat → Int32} {vd : Nat → Int32} {G : Nat → Nat → Nat} {N : Nat → Nat → Int32} {nb sb : Nat} {σ : Shp} {I : Nat → Nat → Int32} {J : Nat → Nat → Int64} {R : Nat → Nat → Option Nat} {I' : Nat → Nat → Int32} {J' : Nat → Nat → Int64} {fc : Nat → Nat} {E : Nat → Nat → Nat} {V : Nat → Nat → Int32} {σ' : Shp} {R' : Nat → Nat → Option Nat} {t st ch q : Nat} (hb : PlB n O) (h : Core n O A vd G N nb sb σ I J R I' J' fc E V (t + 1) st ch) (eo : E t 0 = 16) (hq : t = q + 1) (h8 : E t 8 < 2) : ∃ m b e, Ch (op O (E t 1)) 0 m (E q 3) b ∧ b ≤ n (E t 1) ∧ (b = n (E t 1) ∨ op O (E t 1) b ≠ 17) ∧ (b < n (E t 1) ∧ op O (E t 1) b = 18 → Mt (op O (E t 1)) b e) ∧ (∀ Ia, Ag [(25, 26)] I Ia → gX7_entersLast σ Ia R (some (fc t)) = if b < n (E t 1) ∧ op O (E t 1) b = 18 then some (u2 (u2 (u2 (u2 (wkp (u2 Ia 5 11 (Ia 5 11 + 1)) (fc t) 6) (fc t) 8 (Int32.ofInt ((2 : Nat) : Int))) (fc t) 3 (Int32.ofInt ((b + 1 : Nat) : Int))) (fc t) 4 (Int32.ofInt (e : Nat))) 25 0 0, 1) else some (Ia, 0)) ∧ (∀ Ia', Ag [(1000042, 1000043), (1000063, 1000064)] I' Ia' → Ia' 114 42 = Int32.ofInt (t : Nat) → gX12_leave σ' Ia' R' (Int32.ofInt (E t 1 : Nat)) (Int32.ofInt (E t 12 : Nat)) = some (if b < n (E t 1) ∧ op O (E t 1) b = 18 then laM Ia' t (E t 1) b ch else Ia') ∧ gX12_behind σ' Ia' R' (Int32.ofInt (E t 1 : Nat)) (Int32.ofInt ((E t 4 + 1 : Nat) : Int)) = some (if b < n (E t 1) ∧ op O (E t 1) b = 18 then laM Ia' t (E t 1) b ch else u2 (u2 Ia' 114 57 (Int32.ofInt (E t 1 : Nat))) 114 58 (Int32.ofInt (b : Nat)))) := by
  obtain ⟨t1, t2, t3, t4, t5, t6, t7, t8, t9, t10, t11, -⟩ := h.tp hb
  have hf := h.fc (Nat.lt_succ_self t)
  have hn := hb.1 _ t6
  obtain ⟨q', hq', c1, c2, c3, c4, c5, c6, c7, c8, c9, m3, m4, m5, c10⟩ := h.tr eo
  obtain rfl : q' = q := by omega
  obtain ⟨ra, -, -, ⟨-, wf, bd⟩⟩ := h.2.2.2.2.1 t (Nat.lt_succ_self t)
  have r6 := ra.2.2.2.2.2.1
  obtain ⟨⟨-, g1, g2, -⟩, -⟩ := (h.2.2.2.1.2.2 t (by omega)).2
  obtain ⟨C, -, -, -, -, h17, h54, h640, -⟩ := id h.2.1
  have c61 := c6.1
  have c51 := c5.1
  have e4 : E t 4 < n (E t 1) := (bd.mt (by omega) c6).1
  -- where the search ends
  obtain ⟨m, b, a1, a2, a3, -, -, -⟩ := chains (σ := σ) (R := R) (σ' := σ') (R' := R') h.1.1 h.1.2.2 hb t6 bd t1 g1 (n (E t 1) - E q' 3) (E q' 3) (by omega)
  have a1' : ∃ m', Ch (op O (E t 1)) 0 m' (E t 4 + 1) b := by
    rcases c10 with ⟨z1, z2, z3⟩ | ⟨z1, z2, mm, z3⟩ | ⟨z1, -⟩
    · rw [z3]; exact ⟨m, a1⟩
    · have s1 := z3.sn (Or.inl z2) c6
      obtain ⟨m2, b2, y1, y2, y3, -⟩ := chains (σ := σ) (R := R) (σ' := σ') (R' := R') h.1.1 h.1.2.2 hb t6 bd t1 g1 (n (E t 1) - (E t 4 + 1)) (E t 4 + 1) (by omega)
      have : b2 = b := Ch.det (s1.tr y1) a1 y2 a2 y3 a3
      rw [this] at y1
      exact ⟨m2, y1⟩
    · omega
  obtain ⟨m', a1'⟩ := a1'
  obtain ⟨e, he⟩ : ∃ e, b < n (E t 1) ∧ op O (E t 1) b = 18 → Mt (op O (E t 1)) b e := by
    by_cases z : b < n (E t 1) ∧ op O (E t 1) b = 18
    · obtain ⟨e, y1, -, -⟩ := bd.ex z.1 (by omega)
      exact ⟨e, fun _ => y1⟩
    · exact ⟨0, fun y => absurd y z⟩
  refine ⟨m, b, e, a1, a2, a3, he, fun Ia aa => ?_, fun Ia' ba m42 => ?_⟩
  · have pa : PlC n O A Ia := h.1.1.kp (aa.kp rfl)
    have ba : PBd (op O (E t 1)) (n (E t 1)) (fun z => Ia 15 (40 * E t 1 + z)) := by
      rw [aa.at1 15 (by decide) (by decide) rfl]
      exact bd
    have g1a : Ia (fc t) 1 = Int32.ofInt (E t 1 : Nat) := by rw [aa.far rfl (fc t) t2 (by omega)]; exact g1
    have g2a : Ia (fc t) 2 = Int32.ofInt (E t 2 : Nat) := by rw [aa.far rfl (fc t) t2 (by omega)]; exact g2
    obtain ⟨m2, b2, y1, y2, y3, y4, -, -⟩ := chains (σ := σ) (R := R) (σ' := σ') (R' := R') pa h.1.2.2 hb t6 ba t1 g1a (n (E t 1) - E q' 3) (E q' 3) (by omega)
    have eb : b2 = b := Ch.det y1 a1 y2 a2 y3 a3
    rw [eb] at y4
    have le := y1.le
    obtain ⟨F, hF⟩ : ∃ F, FUx = F := ⟨_, rfl⟩
    have hF' : F = 2000000 := by rw [← hF, FUx_eq]
    unfold gX7_entersLast
    rw [ob_some, if_pos t1, g1a, g2a, eC pa hb t6 (by omega) ba c5, ob_some]
    try dsimp only
    rw [iadd1, show E q' 3 - 1 + 1 = E q' 3 by omega, hF]
    have := y4 F 0 (by omega) (by omega)
    rw [show (0 : Int32) = Int32.ofInt ((0 : Nat) : Int) from rfl, this]
    by_cases z : b < n (E t 1) ∧ op O (E t 1) b = 18
    · rw [if_pos z]
      exact elC pa hb t2 t1 hf.2.2.2.2.1 hf.2.2.2.2.2.1 hf.2.2.2.2.2.2 t6 g1a z.1 z.2 ba (he z)
    · rw [if_neg z]
      unfold gX7_entersLast_b64
      rw [ob_some, if_pos t1, g1a, opK pa hb t6 (by omega), ob_some, if_neg]
      · rfl
      · by_cases z1 : b < n (E t 1)
        · rw [if_pos z1, i_eql (by have := hb.2 (40 * E t 1 + b) (by omega); unfold op; omega)]
          exact fun y => z ⟨z1, by omega⟩
        · rw [if_neg z1]; decide
  · have pa : PlM n O A Ia' := h.1.2.2.kp (ba.kp rfl)
    have h54a : Ia' 114 54 = Int32.ofInt (ch : Nat) := by rw [ba 114 54 rfl]; exact h54
    obtain ⟨F, hF⟩ : ∃ F, FUx = F := ⟨_, rfl⟩
    have hF' : F = 2000000 := by rw [← hF, FUx_eq]
    obtain ⟨m2, b2, y1, y2, y3, -, y5, y6⟩ := chains (σ := σ) (R := R) (σ' := σ') (R' := R') h.1.1 pa hb t6 bd t1 g1 (n (E t 1) - (E t 4 + 1)) (E t 4 + 1) (by omega)
    have eb : b2 = b := Ch.det y1 a1' y2 a2 y3 a3
    rw [eb] at y5 y6
    have le := y1.le
    have B := bhM (σ := σ') (R := R') (t := t) (ch := ch) pa hb t6 a2 (by omega) m42 h54a
    have sx : ∀ (P : Prop) [Decidable P] (x y : Nat → Nat → Int32), (if P then some x else some y) = some (if P then x else y) := fun P _ x y => by split <;> rfl
    have BH : gX12_behind σ' Ia' R' (Int32.ofInt (E t 1 : Nat)) (Int32.ofInt ((E t 4 + 1 : Nat) : Int)) = some (if b < n (E t 1) ∧ op O (E t 1) b = 18 then laM Ia' t (E t 1) b ch else u2 (u2 Ia' 114 57 (Int32.ofInt (E t 1 : Nat))) 114 58 (Int32.ofInt (b : Nat))) := by
      unfold gX12_behind
      rw [hF, y6 F (by omega), B, sx]
    refine ⟨?_, BH⟩
    unfold gX12_leave
    rw [endM pa hb t6 c6 (by omega), ob_some]
    try dsimp only
    rw [iadd1, hF, y5 F (by omega)]
    unfold gX12_leave_b47
    rw [if_pos (p40 t6), t41 (by omega), pa.1 _ t6]
    by_cases z1 : b < n (E t 1)
    · rw [if_neg (by rw [i_le (by omega) (by omega)]; omega), iy40, if_pos (p16 (by omega)), t41 (by omega), (pa.2 _ (by omega)).1]
      by_cases z2 : op O (E t 1) b = 18
      · rw [if_pos (by rw [show O (40 * E t 1 + b) = 18 from z2]; rfl), if_pos ⟨z1, z2⟩]
        obtain ⟨m3, b3, x1, x2, x3, -, -, x6⟩ := chains (σ := σ) (R := R) (σ' := σ') (R' := R') h.1.1 pa hb t6 bd t1 g1 (n (E t 1) - b) b (by omega)
        have eb3 : b3 = b := Ch.det x1 (show Ch (op O (E t 1)) 0 0 b b from rfl) x2 a2 x3 a3
        rw [eb3] at x6
        have le3 := x1.le
        unfold gX12_behind
        rw [hF, x6 F (by omega), B, if_pos ⟨z1, z2⟩, ob_some]
      · rw [if_neg (by rw [i_eql (by have := hb.2 (40 * E t 1 + b) (by omega); omega)]; exact fun y => z2 (by show O (40 * E t 1 + b) = 18; omega)), if_neg (fun y => z2 y.2)]
    · rw [if_pos (by rw [i_le (by omega) (by omega)]; omega), if_neg (fun y => z1 y.1)]
