/-! ===== what cards lead to ===== -/
theorem TSg.setL0 {G : Nat → Nat → Nat} {C : Nat → Int64} {N : Nat → Nat → Int32} (h : TSg G C N) {t x : Nat} (t1 : 1 ≤ t) (t2 : t ≤ G 10 0) (hf : G 1 t = 17) (hx : x ≤ G 10 0) (hp : x ≠ 0 → G 1 x = 17) : TSg (u2 G 5 t x) C N := by
  have g : ∀ a j, a ≠ 5 → u2 G 5 t x a j = G a j := fun a j q => u2n (by omega)
  obtain ⟨a, bb, c, d, e, f, g'⟩ := h
  unfold TSg TSt
  simp only [g 0 _ (by decide), g 1 _ (by decide), g 2 _ (by decide), g 3 _ (by decide), g 4 _ (by decide), g 6 _ (by decide), g 7 _ (by decide), g 8 _ (by decide), g 9 _ (by decide), g 10 _ (by decide)]
  refine ⟨a, bb, fun u u1' u2' => ?_, d, fun u hu => ?_, f, g'⟩
  · obtain ⟨c1, c2, c3, c4, c5, c6, c7, c8, c9, c10, c11, c12, c13, c14⟩ := c u u1' u2'
    by_cases q : u = t
    · subst q
      rw [u2_self]
      refine ⟨c1, c2, c3, c4, c5, c6, c7, c8, c9, c10, hx, c12, fun r => ⟨hp, (c13 r).2⟩, fun r => by omega⟩
    · rw [u2n (by omega)]
      exact ⟨c1, c2, c3, c4, c5, c6, c7, c8, c9, c10, c11, c12, c13, c14⟩
  · rw [u2n (by omega)]
    exact e u hu
theorem TCl.setL0 {G : Nat → Nat → Nat} {C : Nat → Int64} {N : Nat → Nat → Int32} {σ : Shp} {I : Nat → Nat → Int32} {J : Nat → Nat → Int64} {R : Nat → Nat → Option Nat} (h : TCl G C N σ I J R) {t x : Nat} (t1 : 1 ≤ t) (t2 : t ≤ G 10 0) (hf : G 1 t = 17) : TCl (u2 G 5 t x) C N σ I J (u2 R (G 0 t + 2) 0 (pn G x)) := by
  have g : ∀ a j, a ≠ 5 → u2 G 5 t x a j = G a j := fun a j q => u2n (by omega)
  have gp : ∀ j, pn (u2 G 5 t x) j = pn G j := fun j => by unfold pn; rw [g 0 j (by decide)]
  obtain ⟨h0, h1, h2, h3, h4⟩ := h
  have st := h3.1 t t1 t2
  have wt := cW_of (Or.inr hf)
  have ct : cP (G 1 t) (G 0 t) = G 0 t + 2 := if_pos (Or.inr hf)
  unfold TCl TA TB TC TD TE TK
  simp only [g 0 _ (by decide), g 1 _ (by decide), g 2 _ (by decide), g 3 _ (by decide), g 4 _ (by decide), g 6 _ (by decide), g 7 _ (by decide), g 8 _ (by decide), g 9 _ (by decide), g 10 _ (by decide), gp]
  refine ⟨h0, fun c hc => ?_, fun u u1' u2' => ?_, h3, fun y h1 h2 => ?_⟩
  · simp (disch := omega) only [u2n, u2s]; exact h1 c hc
  · have su := h3.1 u u1' u2'
    have cp := cP_le (G 1 u) (G 0 u)
    obtain ⟨a, b, c, d, e⟩ := h2 u u1' u2'
    by_cases q : u = t
    · subst q
      simp (disch := omega) only [u2n, u2s]
      refine ⟨a, b, c, fun q1 q2 => by omega, fun r => ?_⟩
      have ee := e r
      exact ⟨trivial, ee.2⟩
    · have ap := h3.apart t1 t2 u1' u2' (fun r => q r.symm)
      rw [u2n (f := G) (by omega)]
      simp (disch := omega) only [u2n, u2s]
      exact ⟨a, b, c, d, e⟩
  · obtain ⟨d1, d2⟩ := h4 y h1 h2
    refine ⟨d1, fun j => ?_⟩
    simp (disch := omega) only [u2n, u2s]; exact d2 j
theorem TMo.setL0 {G : Nat → Nat → Nat} {C : Nat → Int64} {N : Nat → Nat → Int32} {I : Nat → Nat → Int32} {J : Nat → Nat → Int64} (h : TMo G C N I J) {t x : Nat} : TMo (u2 G 5 t x) C N (u2 I 125 t (Int32.ofInt x)) J := by
  have g : ∀ a j, a ≠ 5 → u2 G 5 t x a j = G a j := fun a j q => u2n (by omega)
  obtain ⟨a, bb, c, d, e⟩ := h
  unfold TMo TMt
  simp only [g 1 _ (by decide), g 2 _ (by decide), g 3 _ (by decide), g 4 _ (by decide), g 6 _ (by decide), g 7 _ (by decide), g 8 _ (by decide), g 9 _ (by decide), g 10 _ (by decide)]
  refine ⟨?_, fun x hx => ?_, fun u hu => ?_, d, fun j hj => ?_⟩
  · simp (disch := omega) only [u2n, u2s]; exact a
  · simp (disch := omega) only [u2n, u2s]; exact bb x hx
  · by_cases q : u = t
    · subst q
      simp (disch := omega) only [u2n, u2s]
      obtain ⟨d1, d2, d3, d4, d5, d6, d7, d8, d9, d10, d11⟩ := c u hu
      exact ⟨d1, d2, d3, d4, d5, d6, d7, trivial, d9, d10, d11⟩
    · simp (disch := omega) only [u2n, u2s]; exact c u hu
  · simp (disch := omega) only [u2n, u2s]; exact e j hj
theorem out_link0 {G : Nat → Nat → Nat} {C : Nat → Int64} {N : Nat → Nat → Int32} {σ : Shp} {I : Nat → Nat → Int32} {J : Nat → Nat → Int64} {R : Nat → Nat → Option Nat} (hS : Skel σ R) (hn : nxx σ ≤ 900000) (hs : GScal I) (hg : TSg G C N) (hc : TCl G C N σ I J R) (hm : TMo G C N I J) {t x : Nat} (t1 : 1 ≤ t) (t2 : t ≤ G 10 0) (hf : G 1 t = 17) (hx : x ≤ G 10 0) (hp : x ≠ 0 → G 1 x = 17) : TOut σ I (u2 I 125 t (Int32.ofInt x)) J J R (u2 R (G 0 t + 2) 0 (pn G x)) := by
  have st := hc.2.2.2.1.1 t t1 t2
  have w3 := cW_of (Or.inr hf)
  have a1 : Ag [(125, 126)] I (u2 I 125 t (Int32.ofInt x)) := Ag.st Ag.rf rfl
  refine ⟨hs.kp (a1.kp rfl), ⟨u2 G 5 t x, C, N, hg.setL0 t1 t2 hf hx hp, (TCl.setL0 hc t1 t2 hf).ag ⟨hS.1, hn⟩ a1 Ag.rf Ag.rf rfl, hm.setL0⟩, ?_, Ag.rf, ?_⟩
  · exact Ag.st Ag.rf rfl
  · exact Ag.st Ag.rf (far_in (by omega) (by omega) rfl)
theorem TSg.setL1 {G : Nat → Nat → Nat} {C : Nat → Int64} {N : Nat → Nat → Int32} (h : TSg G C N) {t x : Nat} (t1 : 1 ≤ t) (t2 : t ≤ G 10 0) (hf : G 1 t = 17) (hx : x ≤ G 10 0) (hp : x ≠ 0 → G 1 x = 16) : TSg (u2 G 6 t x) C N := by
  have g : ∀ a j, a ≠ 6 → u2 G 6 t x a j = G a j := fun a j q => u2n (by omega)
  obtain ⟨a, bb, c, d, e, f, g'⟩ := h
  unfold TSg TSt
  simp only [g 0 _ (by decide), g 1 _ (by decide), g 2 _ (by decide), g 3 _ (by decide), g 4 _ (by decide), g 5 _ (by decide), g 7 _ (by decide), g 8 _ (by decide), g 9 _ (by decide), g 10 _ (by decide)]
  refine ⟨a, bb, fun u u1' u2' => ?_, d, fun u hu => ?_, f, g'⟩
  · obtain ⟨c1, c2, c3, c4, c5, c6, c7, c8, c9, c10, c11, c12, c13, c14⟩ := c u u1' u2'
    by_cases q : u = t
    · subst q
      rw [u2_self]
      refine ⟨c1, c2, c3, c4, c5, c6, c7, c8, c9, c10, c11, hx, fun r => ⟨(c13 r).1, hp⟩, fun r => by omega⟩
    · rw [u2n (by omega)]
      exact ⟨c1, c2, c3, c4, c5, c6, c7, c8, c9, c10, c11, c12, c13, c14⟩
  · rw [u2n (by omega)]
    exact e u hu
theorem TCl.setL1 {G : Nat → Nat → Nat} {C : Nat → Int64} {N : Nat → Nat → Int32} {σ : Shp} {I : Nat → Nat → Int32} {J : Nat → Nat → Int64} {R : Nat → Nat → Option Nat} (h : TCl G C N σ I J R) {t x : Nat} (t1 : 1 ≤ t) (t2 : t ≤ G 10 0) (hf : G 1 t = 17) : TCl (u2 G 6 t x) C N σ I J (u2 R (G 0 t + 2) 1 (pn G x)) := by
  have g : ∀ a j, a ≠ 6 → u2 G 6 t x a j = G a j := fun a j q => u2n (by omega)
  have gp : ∀ j, pn (u2 G 6 t x) j = pn G j := fun j => by unfold pn; rw [g 0 j (by decide)]
  obtain ⟨h0, h1, h2, h3, h4⟩ := h
  have st := h3.1 t t1 t2
  have wt := cW_of (Or.inr hf)
  have ct : cP (G 1 t) (G 0 t) = G 0 t + 2 := if_pos (Or.inr hf)
  unfold TCl TA TB TC TD TE TK
  simp only [g 0 _ (by decide), g 1 _ (by decide), g 2 _ (by decide), g 3 _ (by decide), g 4 _ (by decide), g 5 _ (by decide), g 7 _ (by decide), g 8 _ (by decide), g 9 _ (by decide), g 10 _ (by decide), gp]
  refine ⟨h0, fun c hc => ?_, fun u u1' u2' => ?_, h3, fun y h1 h2 => ?_⟩
  · simp (disch := omega) only [u2n, u2s]; exact h1 c hc
  · have su := h3.1 u u1' u2'
    have cp := cP_le (G 1 u) (G 0 u)
    obtain ⟨a, b, c, d, e⟩ := h2 u u1' u2'
    by_cases q : u = t
    · subst q
      simp (disch := omega) only [u2n, u2s]
      refine ⟨a, b, c, fun q1 q2 => by omega, fun r => ?_⟩
      have ee := e r
      exact ⟨ee.1, trivial⟩
    · have ap := h3.apart t1 t2 u1' u2' (fun r => q r.symm)
      rw [u2n (f := G) (by omega)]
      simp (disch := omega) only [u2n, u2s]
      exact ⟨a, b, c, d, e⟩
  · obtain ⟨d1, d2⟩ := h4 y h1 h2
    refine ⟨d1, fun j => ?_⟩
    simp (disch := omega) only [u2n, u2s]; exact d2 j
theorem TMo.setL1 {G : Nat → Nat → Nat} {C : Nat → Int64} {N : Nat → Nat → Int32} {I : Nat → Nat → Int32} {J : Nat → Nat → Int64} (h : TMo G C N I J) {t x : Nat} : TMo (u2 G 6 t x) C N (u2 I 126 t (Int32.ofInt x)) J := by
  have g : ∀ a j, a ≠ 6 → u2 G 6 t x a j = G a j := fun a j q => u2n (by omega)
  obtain ⟨a, bb, c, d, e⟩ := h
  unfold TMo TMt
  simp only [g 1 _ (by decide), g 2 _ (by decide), g 3 _ (by decide), g 4 _ (by decide), g 5 _ (by decide), g 7 _ (by decide), g 8 _ (by decide), g 9 _ (by decide), g 10 _ (by decide)]
  refine ⟨?_, fun x hx => ?_, fun u hu => ?_, d, fun j hj => ?_⟩
  · simp (disch := omega) only [u2n, u2s]; exact a
  · simp (disch := omega) only [u2n, u2s]; exact bb x hx
  · by_cases q : u = t
    · subst q
      simp (disch := omega) only [u2n, u2s]
      obtain ⟨d1, d2, d3, d4, d5, d6, d7, d8, d9, d10, d11⟩ := c u hu
      exact ⟨d1, d2, d3, d4, d5, d6, d7, d8, trivial, d10, d11⟩
    · simp (disch := omega) only [u2n, u2s]; exact c u hu
  · simp (disch := omega) only [u2n, u2s]; exact e j hj
theorem out_link1 {G : Nat → Nat → Nat} {C : Nat → Int64} {N : Nat → Nat → Int32} {σ : Shp} {I : Nat → Nat → Int32} {J : Nat → Nat → Int64} {R : Nat → Nat → Option Nat} (hS : Skel σ R) (hn : nxx σ ≤ 900000) (hs : GScal I) (hg : TSg G C N) (hc : TCl G C N σ I J R) (hm : TMo G C N I J) {t x : Nat} (t1 : 1 ≤ t) (t2 : t ≤ G 10 0) (hf : G 1 t = 17) (hx : x ≤ G 10 0) (hp : x ≠ 0 → G 1 x = 16) : TOut σ I (u2 I 126 t (Int32.ofInt x)) J J R (u2 R (G 0 t + 2) 1 (pn G x)) := by
  have st := hc.2.2.2.1.1 t t1 t2
  have w3 := cW_of (Or.inr hf)
  have a1 : Ag [(126, 127)] I (u2 I 126 t (Int32.ofInt x)) := Ag.st Ag.rf rfl
  refine ⟨hs.kp (a1.kp rfl), ⟨u2 G 6 t x, C, N, hg.setL1 t1 t2 hf hx hp, (TCl.setL1 hc t1 t2 hf).ag ⟨hS.1, hn⟩ a1 Ag.rf Ag.rf rfl, hm.setL1⟩, ?_, Ag.rf, ?_⟩
  · exact Ag.st Ag.rf rfl
  · exact Ag.st Ag.rf (far_in (by omega) (by omega) rfl)
