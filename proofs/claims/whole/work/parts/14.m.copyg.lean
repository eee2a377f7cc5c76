/-! ===== copies: what they do to the ghosts (things, cells, next code) ===== -/
abbrev GS := (Nat → Nat → Nat) × (Nat → Int64) × Nat
def rowS (x : Nat) (s : GS) : GS := (gNew s.1 s.2.2 (s.1 1 x) (s.1 2 x) 0 0 0 0, sft s.2.1 (s.1 3 x) (s.1 10 1) (s.1 2 x), s.2.2 + 3)
def plS (f z : Nat) (s : GS) : GS := (gNew s.1 s.2.2 f z 0 0 0 0, s.2.1, s.2.2 + 2)
def setS (u k x : Nat) (s : GS) : GS := (u2 s.1 4 (s.1 3 u + k) x, s.2)
def loopS (kid : GS → Nat → GS × Nat) (t u : Nat) : Nat → GS → Nat → GS
  | 0, s, _ => s
  | w + 1, s, k => loopS kid t u w (setS u k (kid s (s.1 4 (s.1 3 t + k))).2 (kid s (s.1 4 (s.1 3 t + k))).1) (k + 1)
def kid0 (s : GS) (x : Nat) : GS × Nat := (s, x)
def kidR (s : GS) (x : Nat) : GS × Nat := if x = 0 then (s, 0) else (rowS x s, s.1 10 0 + 1)
def gridS (x : Nat) (s : GS) : GS := loopS kidR x (s.1 10 0 + 1) (s.1 2 x) (plS (s.1 1 x) (s.1 2 x) s) 0
def kidG (s : GS) (x : Nat) : GS × Nat := if x = 0 then (s, 0) else (gridS x s, s.1 10 0 + 1)
def ExtP (s s' : GS) (b p : Nat) : Prop := s.1 10 0 ≤ s'.1 10 0 ∧ s'.1 10 0 ≤ s.1 10 0 + b ∧ s.2.2 ≤ s'.2.2 ∧ s'.2.2 ≤ s.2.2 + 3 * b ∧ s.1 10 2 ≤ s'.1 10 2 ∧ (∀ x t, x ≠ 4 → x ≠ 10 → t ≤ s.1 10 0 → s'.1 x t = s.1 x t) ∧ (∀ k, k < p → s'.1 4 k = s.1 4 k)
theorem ExtP.rf {s : GS} {p : Nat} : ExtP s s 0 p := ⟨Nat.le_refl _, by omega, Nat.le_refl _, by omega, Nat.le_refl _, fun _ _ _ _ _ => rfl, fun _ _ => rfl⟩
theorem ExtP.tr {s s1 s2 : GS} {b b' p p' : Nat} (h : ExtP s s1 b p) (h' : ExtP s1 s2 b' p') (hp : p ≤ p') : ExtP s s2 (b + b') p := by
  obtain ⟨a1, a2, a3, a4, a5, a6, a7⟩ := h
  obtain ⟨b1, b2, b3, b4, b5, b6, b7⟩ := h'
  exact ⟨by omega, by omega, by omega, by omega, by omega, fun x t h1 h2 h3 => by rw [b6 x t h1 h2 (by omega)]; exact a6 x t h1 h2 h3, fun k hk => by rw [b7 k (by omega)]; exact a7 k hk⟩
theorem ExtP.wk {s s' : GS} {b b' p p' : Nat} (h : ExtP s s' b p) (hb : b ≤ b') (hp : p' ≤ p) : ExtP s s' b' p' := by
  obtain ⟨a1, a2, a3, a4, a5, a6, a7⟩ := h
  exact ⟨a1, by omega, a3, by omega, a5, a6, fun k hk => a7 k (by omega)⟩
theorem set_E {u k x p : Nat} {s : GS} (h : p ≤ s.1 3 u + k) : ExtP s (setS u k x s) 0 p := by
  have e : ∀ a b, ¬ (a = 4 ∧ b = s.1 3 u + k) → (setS u k x s).1 a b = s.1 a b := fun a b h => u2n h
  refine ⟨?_, ?_, Nat.le_refl _, Nat.le_add_right _ _, ?_, fun a t h1 h2 h3 => e _ _ (by omega), fun q hq => e _ _ (by omega)⟩
  · rw [e 10 0 (by omega)]; exact Nat.le_refl _
  · rw [e 10 0 (by omega)]; exact Nat.le_refl _
  · rw [e 10 2 (by omega)]; exact Nat.le_refl _
theorem row_G {N : Nat → Nat → Int32} {s : GS} {x : Nat} (hg : TSg s.1 s.2.1 N) (x1 : 1 ≤ x) (x2 : x ≤ s.1 10 0) (f : s.1 1 x ≤ 7) (hb : s.1 10 0 + 1 ≤ 4050) : TSg (gNew s.1 s.2.2 (s.1 1 x) (s.1 2 x) 0 0 0 0) s.2.1 N ∧ TSg (rowS x s).1 (rowS x s).2.1 N ∧ ExtP s (rowS x s) 1 (s.1 10 2) ∧ (rowS x s).1 10 0 = s.1 10 0 + 1 ∧ (rowS x s).1 1 (s.1 10 0 + 1) = s.1 1 x ∧ (rowS x s).1 0 (s.1 10 0 + 1) = s.2.2 := by
  have hz := (hg.2.2.1 x x1 x2).2.2.2.1 f
  have g1 := hg.new (N' := N) (a := s.2.2) (f := s.1 1 x) (z := s.1 2 x) (k := 0) (d := 0) (l := 0) (q := 0) (fun _ _ _ => rfl) hb (by omega) (by omega) (by omega) (by omega) (by omega) (by omega) (by omega) (by omega) (by omega) (fun _ => ⟨rfl, rfl⟩) (fun _ r => by omega)
  have en : nC (s.1 1 x) (s.1 2 x) = s.1 2 x := if_pos f
  have e : ∀ a, a ≠ 10 → gNew s.1 s.2.2 (s.1 1 x) (s.1 2 x) 0 0 0 0 a x = s.1 a x := fun a ha => gNo (by omega) ha
  have y0 : gNew s.1 s.2.2 (s.1 1 x) (s.1 2 x) 0 0 0 0 10 0 = s.1 10 0 + 1 := rfl
  have g2 := g1.mvS (x := x) (y := s.1 10 0 + 1) (i := 0) (j := 0) (z := s.1 2 x) x1 (by rw [y0]; omega) (by omega) (by rw [y0]; omega) (by rw [e 1 (by omega), e 2 (by omega), en]; omega) (by rw [gNf, gNz, en]; omega) (fun _ => by rw [e 1 (by omega), gNf])
  rw [e 3 (by omega), gNs, if_neg (by omega), if_neg (by omega), Nat.add_zero, Nat.add_zero] at g2
  refine ⟨g1, g2, ⟨?_, ?_, ?_, ?_, ?_, ?_, ?_⟩, rfl, gNf, gNa⟩
  · exact Nat.le_succ _
  · exact Nat.le_refl _
  · exact Nat.le_add_right _ _
  · exact Nat.le_refl _
  · exact Nat.le_add_right _ _
  · exact fun a t h1 h2 h3 => gNo (by omega) h2
  · exact fun k _ => gN4
theorem pl_G {N : Nat → Nat → Int32} {s : GS} {f z : Nat} (hg : TSg s.1 s.2.1 N) (hf : 8 ≤ f ∧ f ≤ 15) (hz : z ≤ 10) (hz3 : f = 11 → z ≤ 4) (hb : s.1 10 0 + 1 ≤ 4050) : TSg (plS f z s).1 (plS f z s).2.1 N ∧ ExtP s (plS f z s) 1 (s.1 10 2) ∧ (plS f z s).1 10 0 = s.1 10 0 + 1 ∧ (plS f z s).1 1 (s.1 10 0 + 1) = f ∧ (plS f z s).1 2 (s.1 10 0 + 1) = z ∧ (plS f z s).1 3 (s.1 10 0 + 1) = s.1 10 2 ∧ (plS f z s).1 0 (s.1 10 0 + 1) = s.2.2 := by
  have g1 := hg.new (N' := N) (a := s.2.2) (f := f) (z := z) (k := 0) (d := 0) (l := 0) (q := 0) (fun _ _ _ => rfl) hb (by omega) (by omega) (by omega) (by omega) (by omega) (by omega) (by omega) (by omega) (by omega) (fun _ => ⟨rfl, rfl⟩) (fun _ r => by omega)
  refine ⟨g1, ⟨?_, ?_, ?_, ?_, ?_, ?_, ?_⟩, rfl, gNf, gNz, ?_, gNa⟩
  · exact Nat.le_succ _
  · exact Nat.le_refl _
  · exact Nat.le_add_right _ _
  · show s.2.2 + 2 ≤ s.2.2 + 3; omega
  · exact Nat.le_add_right _ _
  · exact fun a t h1 h2 h3 => gNo (by omega) h2
  · exact fun k _ => gN4
  · show gNew s.1 s.2.2 f z 0 0 0 0 3 (s.1 10 0 + 1) = s.1 10 2
    rw [gNs, if_neg (by omega), if_pos hf]
def KG (N : Nat → Nat → Int32) (F b : Nat) (kid : GS → Nat → GS × Nat) : Prop := ∀ (s : GS) (x : Nat), TSg s.1 s.2.1 N → s.1 10 0 + b ≤ 4050 → x ≤ s.1 10 0 → (x ≠ 0 → plFor F (s.1 1 x)) → TSg (kid s x).1.1 (kid s x).1.2.1 N ∧ ExtP s (kid s x).1 b (s.1 10 2) ∧ (kid s x).2 ≤ (kid s x).1.1 10 0 ∧ ((kid s x).2 ≠ 0 → plFor F ((kid s x).1.1 1 (kid s x).2))
/-- one turn -/
theorem step_G {N : Nat → Nat → Int32} {F b t u k : Nat} {kid : GS → Nat → GS × Nat} {s : GS} (hK : KG N F b kid) (hg : TSg s.1 s.2.1 N) (hb : s.1 10 0 + b ≤ 4050) (t1 : 1 ≤ t) (tu : t < u) (u2' : u ≤ s.1 10 0) (ft : s.1 1 t = F) (fu : s.1 1 u = F) (hF : 8 ≤ F ∧ F ≤ 15) (kt : k < s.1 2 t) (ku : k < s.1 2 u) : (s.1 4 (s.1 3 t + k) ≤ s.1 10 0 ∧ (s.1 4 (s.1 3 t + k) ≠ 0 → plFor F (s.1 1 (s.1 4 (s.1 3 t + k))))) ∧ TSg (kid s (s.1 4 (s.1 3 t + k))).1.1 (kid s (s.1 4 (s.1 3 t + k))).1.2.1 N ∧ ExtP s (kid s (s.1 4 (s.1 3 t + k))).1 b (s.1 10 2) ∧ ((kid s (s.1 4 (s.1 3 t + k))).2 ≤ (kid s (s.1 4 (s.1 3 t + k))).1.1 10 0 ∧ ((kid s (s.1 4 (s.1 3 t + k))).2 ≠ 0 → plFor F ((kid s (s.1 4 (s.1 3 t + k))).1.1 1 (kid s (s.1 4 (s.1 3 t + k))).2))) ∧ TSg (setS u k (kid s (s.1 4 (s.1 3 t + k))).2 (kid s (s.1 4 (s.1 3 t + k))).1).1 (setS u k (kid s (s.1 4 (s.1 3 t + k))).2 (kid s (s.1 4 (s.1 3 t + k))).1).2.1 N ∧ ExtP s (setS u k (kid s (s.1 4 (s.1 3 t + k))).2 (kid s (s.1 4 (s.1 3 t + k))).1) b (s.1 3 u) := by
  have ht := hg.2.2.1 t t1 (by omega)
  have hu := hg.2.2.1 u (by omega) u2'
  have p := ht.2.2.2.2.2.2.2.2.2.1 (by omega) (by omega) k kt
  have pu := hu.2.2.2.2.2.2.2.2.1 (by omega) (by omega)
  rw [ft] at p
  obtain ⟨q1, q2, q3, q4⟩ := hK s _ hg hb p.1 p.2
  have e := q2.2.2.2.2.2.1
  have st := q1.setP (t := u) (k := k) (x := (kid s (s.1 4 (s.1 3 t + k))).2) (by omega) (by have := q2.1; omega) (by rw [e 1 u (by omega) (by omega) u2']; omega) (by rw [e 2 u (by omega) (by omega) u2']; exact ku) q3 (by rw [e 1 u (by omega) (by omega) u2', fu]; exact q4)
  refine ⟨p, q1, q2, ⟨q3, q4⟩, st, ?_⟩
  have x1 := q2.wk (b' := b) (p' := s.1 3 u) (Nat.le_refl _) (by omega)
  have x2 := set_E (u := u) (k := k) (x := (kid s (s.1 4 (s.1 3 t + k))).2) (s := (kid s (s.1 4 (s.1 3 t + k))).1) (p := s.1 3 u) (by rw [e 3 u (by omega) (by omega) u2']; omega)
  exact x1.tr x2 (Nat.le_refl _)
theorem loop_G {N : Nat → Nat → Int32} {F b t u : Nat} {kid : GS → Nat → GS × Nat} (hK : KG N F b kid) (t1 : 1 ≤ t) (tu : t < u) (hF : 8 ≤ F ∧ F ≤ 15) : ∀ (w : Nat) (s : GS) (k : Nat), TSg s.1 s.2.1 N → s.1 10 0 + b * w ≤ 4050 → u ≤ s.1 10 0 → s.1 1 t = F → s.1 1 u = F → s.1 2 t = k + w → s.1 2 u = k + w → TSg (loopS kid t u w s k).1 (loopS kid t u w s k).2.1 N ∧ ExtP s (loopS kid t u w s k) (b * w) (s.1 3 u) := by
  intro w
  induction w with
  | zero =>
    intro s k hg _ _ _ _ _ _
    exact ⟨hg, ExtP.rf.wk (Nat.zero_le _) (Nat.le_refl _)⟩
  | succ w ih =>
    intro s k hg hb u2' ft fu zt zu
    rw [Nat.mul_succ] at hb
    obtain ⟨-, -, -, -, q1, q2⟩ := step_G hK hg (by omega) t1 tu u2' ft fu hF (show k < s.1 2 t by omega) (show k < s.1 2 u by omega)
    have e := q2.2.2.2.2.2.1
    obtain ⟨r1, r2⟩ := ih _ (k + 1) q1 (by have := q2.2.1; omega) (by have := q2.1; omega) (by rw [e 1 t (by omega) (by omega) (by omega)]; exact ft) (by rw [e 1 u (by omega) (by omega) u2']; exact fu) (by rw [e 2 t (by omega) (by omega) (by omega)]; omega) (by rw [e 2 u (by omega) (by omega) u2']; omega)
    rw [e 3 u (by omega) (by omega) u2'] at r2
    refine ⟨r1, (q2.tr r2 (Nat.le_refl _)).wk ?_ (Nat.le_refl _)⟩
    rw [Nat.mul_succ]
    omega
theorem KG_0 {N : Nat → Nat → Int32} {F : Nat} : KG N F 0 kid0 := fun s x hg _ hx hp => ⟨hg, ExtP.rf, hx, hp⟩
theorem KG_R {N : Nat → Nat → Int32} {F : Nat} (hF : 8 ≤ F ∧ F ≤ 10) : KG N F 1 kidR := by
  intro s x hg hb hx hp
  unfold kidR
  by_cases q : x = 0
  · rw [if_pos q]
    exact ⟨hg, ExtP.rf.wk (by omega) (Nat.le_refl _), Nat.zero_le _, fun h => absurd rfl h⟩
  · rw [if_neg q]
    have hq := hp q
    have f7 : s.1 1 x ≤ 7 := by
      unfold plFor at hq
      omega
    obtain ⟨-, r1, r2, r3, r4, -⟩ := row_G hg (by omega) hx f7 hb
    refine ⟨r1, r2, ?_, fun _ => ?_⟩
    · show s.1 10 0 + 1 ≤ (rowS x s).1 10 0
      rw [r3]; exact Nat.le_refl _
    · show plFor F ((rowS x s).1 1 (s.1 10 0 + 1))
      rw [r4]; exact hq
theorem grid_G {N : Nat → Nat → Int32} {s : GS} {x : Nat} (hg : TSg s.1 s.2.1 N) (x1 : 1 ≤ x) (x2 : x ≤ s.1 10 0) (f : 8 ≤ s.1 1 x ∧ s.1 1 x ≤ 10) (hb : s.1 10 0 + 11 ≤ 4050) : TSg (gridS x s).1 (gridS x s).2.1 N ∧ ExtP s (gridS x s) 11 (s.1 10 2) ∧ s.1 10 0 + 1 ≤ (gridS x s).1 10 0 ∧ (gridS x s).1 1 (s.1 10 0 + 1) = s.1 1 x ∧ (gridS x s).1 0 (s.1 10 0 + 1) = s.2.2 := by
  have hz := (hg.2.2.1 x x1 x2).2.2.2.2.1 (by omega)
  obtain ⟨p1, p2, p3, p4, p5, p6, p7⟩ := pl_G (f := s.1 1 x) (z := s.1 2 x) hg (by omega) hz (by omega) (by omega)
  have e := p2.2.2.2.2.2.1
  obtain ⟨q1, q2⟩ := loop_G (u := s.1 10 0 + 1) (KG_R (F := s.1 1 x) f) x1 (by omega) (by omega) (s.1 2 x) (plS (s.1 1 x) (s.1 2 x) s) 0 p1 (by omega) (by omega) (e 1 x (by omega) (by omega) x2) p4 (by rw [e 2 x (by omega) (by omega) x2]; omega) (by rw [p5]; omega)
  rw [p6] at q2
  have e2 := q2.2.2.2.2.2.1
  have q3 := q2.1
  refine ⟨q1, (p2.tr q2 (Nat.le_refl _)).wk (by omega) (Nat.le_refl _), ?_, ?_, ?_⟩
  · unfold gridS; omega
  · unfold gridS
    rw [e2 1 _ (by omega) (by omega) (by omega)]
    exact p4
  · unfold gridS
    rw [e2 0 _ (by omega) (by omega) (by omega)]
    exact p7
theorem KG_G {N : Nat → Nat → Int32} : KG N 11 11 kidG := by
  intro s x hg hb hx hp
  unfold kidG
  by_cases q : x = 0
  · rw [if_pos q]
    exact ⟨hg, ExtP.rf.wk (by omega) (Nat.le_refl _), Nat.zero_le _, fun h => absurd rfl h⟩
  · rw [if_neg q]
    have hq := hp q
    have f9 : s.1 1 x = 9 := by
      unfold plFor at hq
      omega
    obtain ⟨r1, r2, r3, r4, -⟩ := grid_G hg (by omega) hx (by omega) hb
    refine ⟨r1, r2, r3, fun _ => ?_⟩
    show plFor 11 ((gridS x s).1 1 (s.1 10 0 + 1))
    rw [r4]; exact hq
