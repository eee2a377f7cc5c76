/-! ===== ask: thirst, cost, all that is told ===== -/
def thS (G : Nat → Nat → Nat) (N : Nat → Nat → Int32) (t : Nat) : List Int32 × Int32 × Int32 := if G 7 t = 5 then ([12], N 6 t, 0) else if G 7 t = 3 then ([10] ++ (szS G N 5 t).1, 3 + (szS G N 5 t).2.1, (szS G N 5 t).2.2) else ([11] ++ [10] ++ (szS G N 5 t).1, 2 * (3 + (szS G N 5 t).2.1), (szS G N 5 t).2.2)
def coS (G : Nat → Nat → Nat) (N : Nat → Nat → Int32) (t : Nat) : List Int32 × Int32 × Int32 := if G 7 t = 3 then (if N 5 t = 0 then ([21] ++ [20], 0, 6) else ([21] ++ [20] ++ (thS G N t).1, 5000 / N 5 t + (thS G N t).2.1, (thS G N t).2.2)) else (if N 5 t = 0 then ([20], 0, 6) else ([20], 5000 / N 5 t, 0))
def tlS (G : Nat → Nat → Nat) (N : Nat → Nat → Int32) (t w : Nat) : List Int32 × Int32 × Int32 := if t = 0 then ([], 0, 1) else if G 1 t ≠ 16 then ([], 0, 4) else if (w = 1 ∧ (G 7 t = 0 ∨ G 7 t = 4)) ∨ (w = 2 ∧ G 7 t = 5) then ([], 0, 4) else if w = 0 then szS G N 5 t else if w = 1 then thS G N t else if w = 2 then coS G N t else if w = 3 then (if G 7 t = 2 then ([31], 9 + N 6 t, 0) else ([30], 7, 0)) else if w = 4 then ([], if G 7 t = 2 then 9 else 7, 0) else if w = 5 then ([], N 4 t, 0) else if w = 6 then ([], Int32.ofInt (G 7 t : Nat), 0) else ([], Int32.ofInt (G 8 t : Nat), 0)
theorem th_C {G : Nat → Nat → Nat} {C : Nat → Int64} {N : Nat → Nat → Int32} {σ : Shp} {I : Nat → Nat → Int32} {J : Nat → Nat → Int64} {R : Nat → Nat → Option Nat} {t m : Nat} (hS : Skel σ R) (hn : nxx σ ≤ 900000) (hg : TSg G C N) (hc : TCl G C N σ I J R) (t1 : 1 ≤ t) (t2 : t ≤ G 10 0) (f16 : G 1 t = 16) (h : I 7 1 = Int32.ofInt (m : Int)) (hb : m + 79 ≤ 128) (h2 : I 7 2 = 0) : ∃ I' v, gX0_thirstOf σ I R (some (G 0 t)) = some (I', v) ∧ TrC m (thS G N t).1 I I' ∧ I' 7 2 = (thS G N t).2.2 ∧ ((thS G N t).2.2 = 0 → v = (thS G N t).2.1) := by
  have hn2 : 198 ≤ nxx σ ∧ nxx σ ≤ 900000 := ⟨hS.1, hn⟩
  have hst := hg.2.2.1 t t1 t2
  have k5 := hst.2.1
  have h8 := hst.2.2.1
  have g := hc.2.2.2.1.1 t t1 t2
  have w := cW_ge (G 1 t)
  have h198 := hS.1
  have e4 : EE 4 = 77 := rfl
  obtain ⟨⟨a1, -⟩, ⟨-, b3, -, b5, b6, -⟩, -⟩ := hc.2.2.1 t t1 t2
  have z0 : Int32.ofInt ((0 : Nat) : Int) = 0 := rfl
  have b43 : ∀ (I0 : Nat → Nat → Int32) (m0 : Nat) (x : Int32), TCl G C N σ I0 J R → I0 7 1 = Int32.ofInt (m0 : Int) → m0 + 78 ≤ 128 → I0 7 2 = 0 → ∃ I', gX0_thirstOf_b43 σ R I0 (some (G 0 t)) x = some (I', if x = 0 then 3 + (szS G N 5 t).2.1 else 2 * (3 + (szS G N 5 t).2.1)) ∧ TrC m0 ([10] ++ (szS G N 5 t).1) I0 I' ∧ I' 7 2 = (szS G N 5 t).2.2 := by
    intro I0 m0 x c0 h0 hb0 h20
    have T0 : TrC m0 [10] I0 (u2 (u2 I0 8 m0 10) 7 1 (Int32.ofInt ((m0 + 1 : Nat) : Int))) := beg_T
    obtain ⟨I', r1, r2, r3⟩ := sz_C (J := J) hS hn hg 4 t (m0 + 1) 0 8 _ (T0.cl hn2 c0) t2 (fun _ => f16) h8 (by omega) (by omega) (u2_self _ _ _ _) (by omega) (by rw [beg_2]; exact h20)
    rw [pn_1 t1, z0] at r1
    refine ⟨I', ?_, T0.app r2, r3⟩
    unfold gX0_thirstOf_b43
    rw [beg_C hS h0 (by omega), ob_some, r1, ob_some]
    dsimp only
    by_cases q : x = 0
    · rw [if_pos q, if_pos q]
    · rw [if_neg q, if_neg q]
  unfold gX0_thirstOf thS
  rw [ob_some, if_pos a1, b3]
  by_cases c5 : G 7 t = 5
  · rw [if_pos c5, if_pos (by rw [c5]; rfl), beg_C hS h (by omega), ob_some, u2n (by omega), u2n (by omega), b6]
    exact ⟨_, _, rfl, beg_T, by rw [beg_2]; exact h2, fun _ => rfl⟩
  rw [if_neg c5, if_neg (by rw [i_eql (by omega)]; omega)]
  by_cases c3 : G 7 t = 3
  · rw [if_pos c3, if_pos (by rw [c3]; rfl), if_pos rfl]
    obtain ⟨I', r1, r2, r3⟩ := b43 I m 0 hc h (by omega) h2
    exact ⟨I', _, r1, r2, r3, fun _ => if_pos rfl⟩
  · rw [if_neg c3, if_neg (by rw [i_eql (by omega)]; omega), if_neg n10, beg_C hS h (by omega), ob_some]
    have T0 : TrC m [11] I (u2 (u2 I 8 m 11) 7 1 (Int32.ofInt ((m + 1 : Nat) : Int))) := beg_T
    obtain ⟨I', r1, r2, r3⟩ := b43 _ (m + 1) 1 (T0.cl hn2 hc) (u2_self _ _ _ _) (by omega) (by rw [beg_2]; exact h2)
    refine ⟨I', _, r1, ?_, r3, fun _ => if_neg n10⟩
    rw [List.append_assoc]
    exact T0.app r2
theorem th_M {G : Nat → Nat → Nat} {C : Nat → Int64} {N : Nat → Nat → Int32} {σ : Shp} {I : Nat → Nat → Int32} {J : Nat → Nat → Int64} {R : Nat → Nat → Option Nat} {t m : Nat} (hS : Skel σ R) (hg : TSg G C N) (hm : TMo G C N I J) (t1 : 1 ≤ t) (t2 : t ≤ G 10 0) (f16 : G 1 t = 16) (k4 : G 7 t ≠ 4) (h : I 114 24 = Int32.ofInt (m : Int)) (hb : m + 79 ≤ 200) (h30 : I 114 30 = 0) : ∃ I' v, gX12_thirstOf σ I R (Int32.ofInt t) = some (I', v) ∧ TrM m (thS G N t).1 I I' ∧ I' 114 30 = (thS G N t).2.2 ∧ ((thS G N t).2.2 = 0 → v = (thS G N t).2.1) := by
  have h40 := hg.1.1
  have hst := hg.2.2.1 t t1 t2
  have k5 := hst.2.1
  obtain ⟨-, -, -, -, m5, m6, m7, -⟩ := hm.2.2.1 t (by omega)
  have b36 : ∀ (I0 : Nat → Nat → Int32) (m0 : Nat) (x : Int32), TMo G C N I0 J → I0 114 24 = Int32.ofInt (m0 : Int) → m0 + 78 ≤ 200 → I0 114 30 = 0 → ∃ I' v, gX12_thirstOf_b36 σ R I0 (Int32.ofInt t) x = some (I', v) ∧ ((szS G N 5 t).2.2 = 0 → v = if 3 ≤ x then 3 + (szS G N 5 t).2.1 else 2 * (3 + (szS G N 5 t).2.1)) ∧ TrM m0 ([10] ++ (szS G N 5 t).1) I0 I' ∧ I' 114 30 = (szS G N 5 t).2.2 := by
    intro I0 m0 x c0 h0 hb0 h20
    have T0 : TrM m0 [10] I0 (u2 (u2 I0 129 m0 10) 114 24 (Int32.ofInt ((m0 + 1 : Nat) : Int))) := bod_T
    obtain ⟨I', v, r1, r2, r3, r4⟩ := sz_M (σ := σ) (R := R) hS hg (T0.mo' c0) t1 t2 f16 (u2_self _ _ _ _) (by omega) (by rw [bod_o (by omega)]; exact h20)
    unfold gX12_thirstOf_b36
    rw [bod_M h0 (by omega), ob_some, r1, ob_some]
    dsimp only
    by_cases q : 3 ≤ x
    · rw [if_pos q]
      exact ⟨I', _, rfl, fun e => by rw [if_pos q, r4 e], T0.app r2, r3⟩
    · rw [if_neg q]
      exact ⟨I', _, rfl, fun e => by rw [if_neg q, r4 e], T0.app r2, r3⟩
  unfold gX12_thirstOf thS
  dsimp only
  rw [if_pos (g41 (by omega)), t41 (by omega), m5]
  by_cases c5 : G 7 t = 5
  · rw [if_pos c5, if_pos (by rw [c5]; rfl), bod_M h (by omega), ob_some, if_pos (g41p (by omega)), bod_o (by omega), m7]
    exact ⟨_, _, rfl, bod_T, by rw [bod_o (by omega)]; exact h30, fun _ => rfl⟩
  rw [if_neg c5, if_neg (by rw [i_eql (by omega)]; omega)]
  by_cases c3 : G 7 t = 3
  · rw [if_pos c3, if_pos (by rw [i_ler (by omega)]; omega)]
    obtain ⟨I', v, r1, r2, r3, r4⟩ := b36 I m (Int32.ofInt (G 7 t : Nat)) hm h (by omega) h30
    exact ⟨I', v, r1, r3, r4, fun e => by rw [r2 e, if_pos (by rw [i_ler (by omega)]; omega)]⟩
  · rw [if_neg c3, if_neg (by rw [i_ler (by omega)]; omega), bod_M h (by omega), ob_some]
    have T0 : TrM m [11] I (u2 (u2 I 129 m 11) 114 24 (Int32.ofInt ((m + 1 : Nat) : Int))) := bod_T
    obtain ⟨I', v, r1, r2, r3, r4⟩ := b36 _ (m + 1) (Int32.ofInt (G 7 t : Nat)) (T0.mo' hm) (u2_self _ _ _ _) (by omega) (by rw [bod_o (by omega)]; exact h30)
    refine ⟨I', v, r1, ?_, r4, fun e => by rw [r2 e, if_neg (by rw [i_ler (by omega)]; omega)]⟩
    rw [List.append_assoc]
    exact T0.app r3
theorem ans_r : ∀ k : Nat, k < 6 → ∀ w : Nat, w < 8 → fX0_answers (Int32.ofInt (k : Int)) (Int32.ofInt (w : Int)) = if (w = 1 ∧ (k = 0 ∨ k = 4)) ∨ (w = 2 ∧ k = 5) then 0 else 1 := by decide +kernel
theorem tl_C {G : Nat → Nat → Nat} {C : Nat → Int64} {N : Nat → Nat → Int32} {σ : Shp} {I : Nat → Nat → Int32} {J : Nat → Nat → Int64} {R : Nat → Nat → Option Nat} {t w : Nat} (hS : Skel σ R) (hn : nxx σ ≤ 900000) (hg : TSg G C N) (hc : TCl G C N σ I J R) (t2 : t ≤ G 10 0) (hw : w ≤ 7) (h : I 7 1 = 0) (h2 : I 7 2 = 0) : ∃ I' v, gX0_tell σ I R (pn G t) (Int32.ofInt w) = some (I', v) ∧ TrC 0 (tlS G N t w).1 I I' ∧ I' 7 2 = (tlS G N t w).2.2 ∧ ((tlS G N t w).2.2 = 0 → v = (tlS G N t w).2.1) := by
  have hn2 : 198 ≤ nxx σ ∧ nxx σ ≤ 900000 := ⟨hS.1, hn⟩
  have T0 : TrC 0 [] I I := Tr.nil h
  unfold tlS gX0_tell
  by_cases c : t = 0
  · rw [if_pos c, c, pn_0]
    exact ⟨u2 I 7 2 1, 0, rfl, T0.st (by omega) (by omega) rfl, u2_self _ _ _ _, fun q => absurd q (by decide)⟩
  have t1 : 1 ≤ t := by omega
  have hst := hg.2.2.1 t t1 t2
  have f17 := hst.1
  have k5 := hst.2.1
  have h8 := hst.2.2.1
  have g := hc.2.2.2.1.1 t t1 t2
  have wg := cW_ge (G 1 t)
  have h198 := hS.1
  obtain ⟨⟨a1, -⟩, ⟨b1, b3, b4, b5, b6, b7, -⟩, -⟩ := hc.2.2.1 t t1 t2
  rw [if_neg c, pn_1 t1]
  simp only [onl_s]
  rw [if_pos a1, b1]
  by_cases f16 : G 1 t = 16
  case neg =>
    rw [if_pos f16, if_neg (by rw [i_eql (by omega)]; omega)]
    exact ⟨u2 I 7 2 4, 0, rfl, T0.st (by omega) (by omega) rfl, u2_self _ _ _ _, fun q => absurd q (by decide)⟩
  rw [if_neg (show ¬ (G 1 t ≠ 16) from fun q => q f16), if_pos (show Int32.ofInt (G 1 t : Int) = 16 by rw [f16]; rfl), b3, ans_r (G 7 t) (by omega) w (by omega)]
  by_cases ca : (w = 1 ∧ (G 7 t = 0 ∨ G 7 t = 4)) ∨ (w = 2 ∧ G 7 t = 5)
  · rw [if_pos ca, if_pos ca, if_pos rfl]
    exact ⟨u2 I 7 2 4, 0, rfl, T0.st (by omega) (by omega) rfl, u2_self _ _ _ _, fun q => absurd q (by decide)⟩
  rw [if_neg ca, if_neg ca, if_neg n10]
  have h0 : I 7 1 = Int32.ofInt ((0 : Nat) : Int) := h
  have z0 : Int32.ofInt ((0 : Nat) : Int) = 0 := rfl
  by_cases w2 : w = 2
  · rw [if_neg (show ¬ w = 0 by omega), if_neg (show ¬ w = 1 by omega), if_pos w2, if_pos (show Int32.ofInt (w : Int) = 2 by rw [w2]; rfl)]
    unfold coS
    have al : ∀ (I0 : Nat → Nat → Int32) (m0 : Nat), TCl G C N σ I0 J R → I0 7 1 = Int32.ofInt (m0 : Int) → m0 < 2 → I0 7 2 = 0 → ∃ I', gX0_costAlone_b14 σ R I0 (some (G 0 t)) = some (I', if N 5 t = 0 then 0 else 5000 / N 5 t) ∧ TrC m0 [20] I0 I' ∧ I' 7 2 = if N 5 t = 0 then 6 else 0 := by
      intro I0 m0 c0 q0 q1 q2
      obtain ⟨-, ⟨-, -, -, d5, -⟩, -⟩ := c0.2.2.1 t t1 t2
      unfold gX0_costAlone_b14
      rw [beg_C hS q0 (by omega), ob_some, ob_some, if_pos a1, u2n (by omega), u2n (by omega), d5]
      by_cases z : N 5 t = 0
      · rw [if_pos z, if_pos z, if_pos z]
        exact ⟨u2 (u2 (u2 I0 8 m0 20) 7 1 (Int32.ofInt ((m0 + 1 : Nat) : Int))) 7 2 6, rfl, Tr.st beg_T (by omega) (by omega) rfl, u2_self _ _ _ _⟩
      · rw [if_neg z, if_neg z, if_neg z, if_pos z]
        exact ⟨_, rfl, beg_T, by rw [beg_2]; exact q2⟩
    unfold gX0_costAlone
    rw [ob_some, if_pos a1, b3]
    by_cases c3 : G 7 t = 3
    case neg =>
      rw [if_neg c3, if_neg (by rw [i_eql (by omega)]; omega)]
      obtain ⟨I1, r1, r2, r3⟩ := al I 0 hc h0 (by omega) h2
      obtain ⟨-, ⟨-, e3, -⟩, -⟩ := (r2.cl hn2 hc).2.2.1 t t1 t2
      rw [r1, ob_some]
      dsimp only
      rw [if_neg (show ¬ I1 (G 0 t) 3 = 3 by rw [e3, i_eql (by omega)]; omega)]
      by_cases z : N 5 t = 0
      · rw [if_pos z, if_pos z]
        rw [if_pos z] at r3
        exact ⟨I1, _, rfl, r2, r3, fun q => absurd q (by decide)⟩
      · rw [if_neg z, if_neg z]
        rw [if_neg z] at r3
        exact ⟨I1, _, rfl, r2, r3, fun _ => rfl⟩
    rw [if_pos c3, if_pos (by rw [c3]; rfl), beg_C hS h0 (by omega), ob_some]
    have T1 : TrC 0 [21] I (u2 (u2 I 8 0 21) 7 1 (Int32.ofInt ((0 + 1 : Nat) : Int))) := beg_T
    obtain ⟨I1, r1, r2, r3⟩ := al _ 1 (T1.cl hn2 hc) (u2_self _ _ _ _) (by omega) (by rw [beg_2]; exact h2)
    have T2 : TrC 0 ([21] ++ [20]) I I1 := T1.app r2
    have C2 := T2.cl hn2 hc
    obtain ⟨-, ⟨-, e3, -⟩, -⟩ := C2.2.2.1 t t1 t2
    rw [r1, ob_some]
    dsimp only
    rw [if_pos (show I1 (G 0 t) 3 = 3 by rw [e3, c3]; rfl)]
    by_cases z : N 5 t = 0
    · rw [if_pos z] at r3
      rw [if_neg (show ¬ I1 7 2 = 0 by rw [r3]; decide), if_pos z, if_pos z]
      exact ⟨I1, _, rfl, T2, r3, fun q => absurd q (by decide)⟩
    · rw [if_neg z] at r3
      rw [if_pos (show I1 7 2 = 0 from r3), if_neg z, if_neg z]
      obtain ⟨I2, v, s1, s2, s3, s4⟩ := th_C (m := 2) hS hn hg C2 t1 t2 f16 T2.1 (by omega) r3
      rw [s1, ob_some]
      exact ⟨I2, _, rfl, T2.app s2, s3, fun q => by rw [s4 q]⟩
  rw [if_neg (show ¬ Int32.ofInt (w : Int) = 2 by rw [i_eql (by omega)]; omega)]
  by_cases w0 : w = 0
  · rw [if_pos w0, if_pos (by rw [w0]; rfl)]
    obtain ⟨I', r1, r2, r3⟩ := sz_C (J := J) hS hn hg 4 t 0 0 8 I hc t2 (fun _ => f16) h8 (by omega) (by omega) h0 (by have : EE 4 = 77 := rfl; omega) h2
    rw [pn_1 t1, z0] at r1
    rw [r1, ob_some]
    exact ⟨I', _, rfl, r2, r3, fun _ => rfl⟩
  rw [if_neg w0, if_neg (show ¬ Int32.ofInt (w : Int) = 0 by rw [i_eql (by omega)]; omega)]
  by_cases w1 : w = 1
  · rw [if_pos w1, if_pos (by rw [w1]; rfl)]
    obtain ⟨I', v, r1, r2, r3, r4⟩ := th_C (m := 0) hS hn hg hc t1 t2 f16 h0 (by omega) h2
    rw [r1, ob_some]
    exact ⟨I', v, rfl, r2, r3, r4⟩
  rw [if_neg w1, if_neg (show ¬ Int32.ofInt (w : Int) = 1 by rw [i_eql (by omega)]; omega), if_neg w2, if_neg (show ¬ Int32.ofInt (w : Int) = 2 by rw [i_eql (by omega)]; omega)]
  by_cases w3 : w = 3
  · rw [if_pos w3, if_pos (by rw [w3]; rfl)]
    unfold gX0_markOf
    rw [ob_some, if_pos a1, b3]
    by_cases c2 : G 7 t = 2
    · rw [if_pos c2, if_pos (by rw [c2]; rfl), beg_C hS h0 (by omega), ob_some, u2n (by omega), u2n (by omega), b6]
      exact ⟨u2 (u2 I 8 0 31) 7 1 (Int32.ofInt ((0 + 1 : Nat) : Int)), 9 + N 6 t, rfl, beg_T, (by rw [beg_2]; exact h2), fun _ => rfl⟩
    · rw [if_neg c2, if_neg (by rw [i_eql (by omega)]; omega), beg_C hS h0 (by omega), ob_some]
      exact ⟨u2 (u2 I 8 0 30) 7 1 (Int32.ofInt ((0 + 1 : Nat) : Int)), 7, rfl, beg_T, (by rw [beg_2]; exact h2), fun _ => rfl⟩
  rw [if_neg w3, if_neg (show ¬ Int32.ofInt (w : Int) = 3 by rw [i_eql (by omega)]; omega)]
  by_cases w4 : w = 4
  · rw [if_pos w4, if_pos (by rw [w4]; rfl)]
    by_cases c2 : G 7 t = 2
    · rw [if_pos c2, if_pos (by rw [c2]; rfl)]
      exact ⟨I, _, rfl, T0, h2, fun _ => rfl⟩
    · rw [if_neg c2, if_neg (by rw [i_eql (by omega)]; omega)]
      exact ⟨I, _, rfl, T0, h2, fun _ => rfl⟩
  rw [if_neg w4, if_neg (show ¬ Int32.ofInt (w : Int) = 4 by rw [i_eql (by omega)]; omega)]
  by_cases w5 : w = 5
  · rw [if_pos w5, if_pos (by rw [w5]; rfl), b4]
    exact ⟨I, _, rfl, T0, h2, fun _ => rfl⟩
  rw [if_neg w5, if_neg (show ¬ Int32.ofInt (w : Int) = 5 by rw [i_eql (by omega)]; omega)]
  by_cases w6 : w = 6
  · rw [if_pos w6, if_pos (by rw [w6]; rfl)]
    exact ⟨I, _, rfl, T0, h2, fun _ => rfl⟩
  rw [if_neg w6, if_neg (show ¬ Int32.ofInt (w : Int) = 6 by rw [i_eql (by omega)]; omega), b7]
  exact ⟨I, _, rfl, T0, h2, fun _ => rfl⟩
