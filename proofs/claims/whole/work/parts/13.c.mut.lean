/-! ===== changes of the things ===== -/
/-- codes of two things lie apart -/
theorem TK.apart {G : Nat → Nat → Nat} {σ : Shp} (h : TK G σ) {t u : Nat} (t1 : 1 ≤ t) (t2 : t ≤ G 10 0) (u1 : 1 ≤ u) (u2 : u ≤ G 10 0) (e : t ≠ u) : G 0 t + cW (G 1 t) ≤ G 0 u ∨ G 0 u + cW (G 1 u) ≤ G 0 t := by
  by_cases q : t < u
  · exact Or.inl (h.2 t u t1 q u2)
  · exact Or.inr (h.2 u t u1 (by omega) t2)
theorem TSg.cells {G : Nat → Nat → Nat} {C : Nat → Int64} {N : Nat → Nat → Int32} (h : TSg G C N) {t u j k : Nat} (t1 : 1 ≤ t) (t2 : t ≤ G 10 0) (u1 : 1 ≤ u) (u2' : u ≤ G 10 0) (hk : k < nC (G 1 t) (G 2 t)) (hj : j < nC (G 1 u) (G 2 u)) (e : t ≠ u) : G 3 u + j ≠ G 3 t + k := by
  have ht := cC_of (c := 0) hk
  have hu := cC_of (c := 0) hj
  by_cases r : t < u
  · have := (h.2.2.2.1 t u t1 r u2').1 ht.2 hu.2
    omega
  · have := (h.2.2.2.1 u t u1 (by omega) t2).1 hu.2 ht.2
    omega
theorem TSg.places {G : Nat → Nat → Nat} {C : Nat → Int64} {N : Nat → Nat → Int32} (h : TSg G C N) {t u j k : Nat} (t1 : 1 ≤ t) (t2 : t ≤ G 10 0) (u1 : 1 ≤ u) (u2' : u ≤ G 10 0) (ht : 8 ≤ G 1 t ∧ G 1 t ≤ 15) (hu : 8 ≤ G 1 u ∧ G 1 u ≤ 15) (hk : k < G 2 t) (hj : j < G 2 u) (e : t ≠ u) : G 3 u + j ≠ G 3 t + k := by
  by_cases r : t < u
  · have := (h.2.2.2.1 t u t1 r u2').2 ht.1 ht.2 hu.1 hu.2
    omega
  · have := (h.2.2.2.1 u t u1 (by omega) t2).2 hu.1 hu.2 ht.1 ht.2
    omega
/-- a cell: the ghosts -/
theorem TSg.setC {G : Nat → Nat → Nat} {C : Nat → Int64} {N : Nat → Nat → Int32} (h : TSg G C N) {k : Nat} {v : Int64} (hk : k < G 10 1) (hv : ∀ t : Nat, 1 ≤ t → t ≤ G 10 0 → G 1 t = 4 ∨ G 1 t = 6 → ∀ j : Nat, j < G 2 t → G 3 t + j = k → Int32.toInt64 (Int64.toInt32 v) = v) : TSg G (u1 C k v) N := by
  obtain ⟨a, b, c, d, e, f, g⟩ := h
  refine ⟨a, b, c, d, e, fun j hj => by rw [u1_ne (by omega)]; exact f j hj, g.1, fun t t1 t2 ht j hj => ?_⟩
  by_cases q : G 3 t + j = k
  · rw [q, u1_self]
    exact hv t t1 t2 ht j hj q
  · rw [u1_ne q]
    exact g.2 t t1 t2 ht j hj
/-- a cell: the class -/
theorem TCl.setC {G : Nat → Nat → Nat} {C : Nat → Int64} {N : Nat → Nat → Int32} {σ : Shp} {I : Nat → Nat → Int32} {J : Nat → Nat → Int64} {R : Nat → Nat → Option Nat} (hg : TSg G C N) (h : TCl G C N σ I J R) {t k : Nat} {v : Int64} (t1 : 1 ≤ t) (t2 : t ≤ G 10 0) (q : k < nC (G 1 t) (G 2 t)) : TCl G (u1 C (G 3 t + k) v) N σ I (u2 J (G 0 t + 1) k v) R := by
  have ht := cC_of (c := G 0 t) q
  obtain ⟨h0, h1, h2, h3, h4⟩ := h
  have w3 := cW_of ht.2
  have st := h3.1 t t1 t2
  refine ⟨h0, h1, fun u u1' u2' => ?_, h3, fun x hx1 hx2 => ?_⟩
  · obtain ⟨a, b, c, d, e⟩ := h2 u u1' u2'
    refine ⟨a, b, fun j hj => ?_, d, e⟩
    have hu := cC_of (c := G 0 u) hj
    have e := c j hj
    have w4 := cW_of hu.2
    rw [hu.1] at e ⊢
    by_cases c : u = t
    · subst c
      by_cases d : j = k
      · subst d
        rw [u1_self]
        simp (disch := omega) only [u2n, u2s]
      · rw [u1_ne (by omega)]
        simp (disch := omega) only [u2n, u2s]; exact e
    · have ap := h3.apart t1 t2 u1' u2' (fun q => c q.symm)
      rw [u1_ne (hg.cells t1 t2 u1' u2' q hj (fun q => c q.symm))]
      simp (disch := omega) only [u2n, u2s]; exact e
  · obtain ⟨d1, d2⟩ := h4 x hx1 hx2
    refine ⟨d1, fun j => ?_⟩
    simp (disch := omega) only [u2n, u2s]; exact d2 j
/-- a cell: the model -/
theorem TMo.setC {G : Nat → Nat → Nat} {C : Nat → Int64} {N : Nat → Nat → Int32} {I : Nat → Nat → Int32} {J : Nat → Nat → Int64} (h : TMo G C N I J) {k : Nat} {v : Int64} : TMo G (u1 C k v) N I (u2 J 119 k v) := by
  obtain ⟨a, b, c, d, e⟩ := h
  refine ⟨a, b, c, fun j hj => ?_, e⟩
  by_cases q : j = k
  · subst q; rw [u1_self, u2_self]
  · rw [u1_ne q, u2_ne (fun _ => q)]; exact d j hj
/-- a bin: the ghosts -/
theorem TSg.setB {G : Nat → Nat → Nat} {C : Nat → Int64} {N : Nat → Nat → Int32} (h : TSg G C N) {b t : Nat} (ht : t ≤ G 10 0) : TSg (u2 G 9 b t) C N := by
  have g : ∀ a k, a ≠ 9 → u2 G 9 b t a k = G a k := fun a k q => u2n (by omega)
  obtain ⟨a, bb, c, d, e, f, g'⟩ := h
  unfold TSg TSt
  simp only [g 0 _ (by decide), g 1 _ (by decide), g 2 _ (by decide), g 3 _ (by decide), g 4 _ (by decide), g 5 _ (by decide), g 6 _ (by decide), g 7 _ (by decide), g 8 _ (by decide), g 10 _ (by decide)]
  refine ⟨a, fun x hx => ?_, c, d, e, f, g'⟩
  by_cases q : x = b
  · subst q; rw [u2_self]; exact ht
  · rw [u2n (by omega)]; exact bb x hx
theorem TCl.setB {G : Nat → Nat → Nat} {C : Nat → Int64} {N : Nat → Nat → Int32} {σ : Shp} {I : Nat → Nat → Int32} {J : Nat → Nat → Int64} {R : Nat → Nat → Option Nat} (h : TCl G C N σ I J R) {b t : Nat} (hn : 198 ≤ nxx σ) : TCl (u2 G 9 b t) C N σ I J (u2 R 6 b (pn G t)) := by
  have g : ∀ a k, a ≠ 9 → u2 G 9 b t a k = G a k := fun a k q => u2n (by omega)
  have gp : ∀ k, pn (u2 G 9 b t) k = pn G k := fun k => by unfold pn; rw [g 0 k (by decide)]
  obtain ⟨h0, h1, h2, h3, h4⟩ := h
  unfold TCl TA TB TC TD TE TK
  simp only [g 0 _ (by decide), g 1 _ (by decide), g 2 _ (by decide), g 3 _ (by decide), g 4 _ (by decide), g 5 _ (by decide), g 6 _ (by decide), g 7 _ (by decide), g 8 _ (by decide), g 10 _ (by decide), gp]
  refine ⟨h0, fun c hc => ?_, fun u u1' u2' => ?_, h3, fun x h1 h2 => ?_⟩
  · by_cases e : c = b
    · subst e; rw [u2_self, u2_self]
    · rw [u2n (by omega), u2n (by omega)]; exact h1 c hc
  · have st := h3.1 u u1' u2'
    have cp := cP_le (G 1 u) (G 0 u)
    simp (disch := omega) only [u2n, u2s]
    exact h2 u u1' u2'
  · obtain ⟨d1, d2⟩ := h4 x h1 h2
    refine ⟨d1, fun j => ?_⟩
    simp (disch := omega) only [u2n, u2s]; exact d2 j
theorem TMo.setB {G : Nat → Nat → Nat} {C : Nat → Int64} {N : Nat → Nat → Int32} {I : Nat → Nat → Int32} {J : Nat → Nat → Int64} (h : TMo G C N I J) {b t : Nat} : TMo (u2 G 9 b t) C N (u2 I 115 b (Int32.ofInt t)) J := by
  have g : ∀ a k, a ≠ 9 → u2 G 9 b t a k = G a k := fun a k q => u2n (by omega)
  obtain ⟨a, bb, c, d, e⟩ := h
  unfold TMo TMt
  simp only [g 1 _ (by decide), g 2 _ (by decide), g 3 _ (by decide), g 4 _ (by decide), g 5 _ (by decide), g 6 _ (by decide), g 7 _ (by decide), g 8 _ (by decide), g 10 _ (by decide)]
  refine ⟨?_, fun x hx => ?_, fun t ht => ?_, d, fun k hk => ?_⟩
  · simp (disch := omega) only [u2n, u2s]; exact a
  · by_cases q : x = b
    · subst q; rw [u2_self, u2_self]
    · rw [u2n (by omega), u2n (by omega)]; exact bb x hx
  · simp (disch := omega) only [u2n, u2s]; exact c t ht
  · simp (disch := omega) only [u2n, u2s]; exact e k hk
/-- a place -/
theorem TSg.setP {G : Nat → Nat → Nat} {C : Nat → Int64} {N : Nat → Nat → Int32} (h : TSg G C N) {t k x : Nat} (t1 : 1 ≤ t) (t2 : t ≤ G 10 0) (hf : 8 ≤ G 1 t ∧ G 1 t ≤ 15) (hk : k < G 2 t) (hx : x ≤ G 10 0) (hp : x ≠ 0 → plFor (G 1 t) (G 1 x)) : TSg (u2 G 4 (G 3 t + k) x) C N := by
  have g : ∀ a j, a ≠ 4 → u2 G 4 (G 3 t + k) x a j = G a j := fun a j q => u2n (by omega)
  have hh := h
  obtain ⟨a, bb, c, d, e, f, g'⟩ := h
  unfold TSg TSt
  simp only [g 0 _ (by decide), g 1 _ (by decide), g 2 _ (by decide), g 3 _ (by decide), g 5 _ (by decide), g 6 _ (by decide), g 7 _ (by decide), g 8 _ (by decide), g 9 _ (by decide), g 10 _ (by decide)]
  refine ⟨a, bb, fun u u1' u2' => ?_, d, e, f, fun j hj => ?_, g'.2⟩
  · obtain ⟨c1, c2, c3, c4, c5, c6, c7, c8, c9, c10, c11⟩ := c u u1' u2'
    refine ⟨c1, c2, c3, c4, c5, c6, c7, c8, c9, fun q1 q2 j hj => ?_, c11⟩
    by_cases q : G 3 u + j = G 3 t + k
    · have : u = t := by
        by_cases r : u = t
        · exact r
        · exact absurd q (hh.places t1 t2 u1' u2' hf ⟨q1, q2⟩ hk hj (fun q => r q.symm))
      subst this
      rw [q, u2_self]
      exact ⟨hx, hp⟩
    · rw [u2n (by omega)]
      exact c10 q1 q2 j hj
  · have := (c t t1 t2).2.2.2.2.2.2.2.2.1 hf.1 hf.2
    rw [u2n (by omega)]
    exact g'.1 j hj
theorem TCl.setP {G : Nat → Nat → Nat} {C : Nat → Int64} {N : Nat → Nat → Int32} {σ : Shp} {I : Nat → Nat → Int32} {J : Nat → Nat → Int64} {R : Nat → Nat → Option Nat} (hg : TSg G C N) (h : TCl G C N σ I J R) {t k x : Nat} (t1 : 1 ≤ t) (t2 : t ≤ G 10 0) (hf : 8 ≤ G 1 t ∧ G 1 t ≤ 15) (hk : k < G 2 t) : TCl (u2 G 4 (G 3 t + k) x) C N σ I J (u2 R (G 0 t + 1) k (pn G x)) := by
  have g : ∀ a j, a ≠ 4 → u2 G 4 (G 3 t + k) x a j = G a j := fun a j q => u2n (by omega)
  have gp : ∀ j, pn (u2 G 4 (G 3 t + k) x) j = pn G j := fun j => by unfold pn; rw [g 0 j (by decide)]
  obtain ⟨h0, h1, h2, h3, h4⟩ := h
  have st := h3.1 t t1 t2
  have wt := cW_ge (G 1 t)
  have ct : cP (G 1 t) (G 0 t) = G 0 t + 1 := if_neg (by omega)
  unfold TCl TA TB TC TD TE TK
  simp only [g 0 _ (by decide), g 1 _ (by decide), g 2 _ (by decide), g 3 _ (by decide), g 5 _ (by decide), g 6 _ (by decide), g 7 _ (by decide), g 8 _ (by decide), g 9 _ (by decide), g 10 _ (by decide), gp]
  refine ⟨h0, fun c hc => ?_, fun u u1' u2' => ?_, h3, fun y h1 h2 => ?_⟩
  · simp (disch := omega) only [u2n, u2s]; exact h1 c hc
  · have su := h3.1 u u1' u2'
    have cp := cP_le (G 1 u) (G 0 u)
    obtain ⟨a, b, c, d, e⟩ := h2 u u1' u2'
    by_cases q : u = t
    · subst q
      simp (disch := omega) only [u2n, u2s]
      refine ⟨a, b, c, fun q1 q2 j hj => ?_, fun r => by omega⟩
      have dd := d q1 q2 j hj
      rw [ct] at dd ⊢
      by_cases q : j = k
      · subst q; rw [u2_self, u2_self]
      · simp (disch := omega) only [u2n, u2s]; exact dd
    · have ap := h3.apart t1 t2 u1' u2' (fun r => q r.symm)
      simp (disch := omega) only [u2n, u2s]
      refine ⟨a, b, c, fun q1 q2 j hj => ?_, e⟩
      have := hg.places t1 t2 u1' u2' hf ⟨q1, q2⟩ hk hj (fun r => q r.symm)
      simp (disch := omega) only [u2n, u2s]
      exact d q1 q2 j hj
  · obtain ⟨d1, d2⟩ := h4 y h1 h2
    refine ⟨d1, fun j => ?_⟩
    simp (disch := omega) only [u2n, u2s]; exact d2 j
theorem TMo.setP {G : Nat → Nat → Nat} {C : Nat → Int64} {N : Nat → Nat → Int32} {I : Nat → Nat → Int32} {J : Nat → Nat → Int64} (h : TMo G C N I J) {k x : Nat} : TMo (u2 G 4 k x) C N (u2 I 120 k (Int32.ofInt x)) J := by
  have g : ∀ a j, a ≠ 4 → u2 G 4 k x a j = G a j := fun a j q => u2n (by omega)
  obtain ⟨a, bb, c, d, e⟩ := h
  unfold TMo TMt
  simp only [g 1 _ (by decide), g 2 _ (by decide), g 3 _ (by decide), g 5 _ (by decide), g 6 _ (by decide), g 7 _ (by decide), g 8 _ (by decide), g 9 _ (by decide), g 10 _ (by decide)]
  refine ⟨?_, fun x hx => ?_, fun t ht => ?_, d, fun j hj => ?_⟩
  · simp (disch := omega) only [u2n, u2s]; exact a
  · simp (disch := omega) only [u2n, u2s]; exact bb x hx
  · simp (disch := omega) only [u2n, u2s]; exact c t ht
  · by_cases q : j = k
    · subst q; rw [u2_self, u2_self]
    · rw [u2n (by omega), u2n (by omega)]; exact e j hj
