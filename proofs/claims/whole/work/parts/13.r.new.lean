/-! ===== new things: the class, the model ===== -/
theorem TCl.new {G : Nat → Nat → Nat} {C : Nat → Int64} {N N' : Nat → Nat → Int32} {σ σ' : Shp} {I I' : Nat → Nat → Int32} {J : Nat → Nat → Int64} {R R' : Nat → Nat → Option Nat} {f z k d l q : Nat} (hg : TSg G C N) (h : TCl G C N σ I J R)
    (hN : ∀ x t, t ≠ G 10 0 + 1 → N' x t = N x t) (hn : 198 ≤ nxx σ ∧ nxx σ' ≤ 900000) (hnx : nxx σ' = nxx σ + cW f)
    (hk : ∀ b, b < nxx σ + 4 → kdx σ' b = kdx σ b ∧ lnx σ' b = lnx σ b) (hA : kdx σ' (nxx σ + 4) = 11) (hB : kdx σ' (cC f (nxx σ + 4)) = 21 ∧ lnx σ' (cC f (nxx σ + 4)) = nC f z) (hD : kdx σ' (cP f (nxx σ + 4)) = 26 ∧ lnx σ' (cP f (nxx σ + 4)) = nP f z k) (hF : ∀ b, nxx σ' + 4 ≤ b → b < 1000000 → kdx σ' b = 0)
    (hI0 : I' 4 12 = Int32.ofInt ((G 10 0 + 1 : Nat) : Int)) (hIo : ∀ b, 202 ≤ b → b < 1000000 → b ≠ nxx σ + 4 → I' b = I b) (hIa : I' (nxx σ + 4) 0 = Int32.ofInt f ∧ I' (nxx σ + 4) 3 = Int32.ofInt k ∧ I' (nxx σ + 4) 4 = N' 4 (G 10 0 + 1) ∧ I' (nxx σ + 4) 5 = N' 5 (G 10 0 + 1) ∧ I' (nxx σ + 4) 6 = N' 6 (G 10 0 + 1) ∧ I' (nxx σ + 4) 7 = Int32.ofInt d ∧ I' (nxx σ + 4) 8 = N' 8 (G 10 0 + 1))
    (hR6 : R' 6 = R 6) (hRo : ∀ b, 202 ≤ b → b < 1000000 → b ≠ nxx σ + 4 → b ≠ cP f (nxx σ + 4) → R' b = R b) (hRa : R' (nxx σ + 4) 1 = some (cC f (nxx σ + 4)) ∧ R' (nxx σ + 4) 2 = some (cP f (nxx σ + 4))) (hRp : f = 17 ∨ (f = 16 ∧ k = 2) → R' (cP f (nxx σ + 4)) 0 = pn G l ∧ R' (cP f (nxx σ + 4)) 1 = pn G q) (hRq : 8 ≤ f → f ≤ 15 → R' (cP f (nxx σ + 4)) = R (cP f (nxx σ + 4))) (hl : l ≤ G 10 0) (hq : q ≤ G 10 0) : TCl (gNew G (nxx σ + 4) f z k d l q) C N' σ' I' J R' := by
  obtain ⟨h0, h1, h2, h3, h4⟩ := h
  have w2 := cW_ge f
  have cpa := cP_le f (nxx σ + 4)
  have gp : ∀ t, t ≤ G 10 0 → pn (gNew G (nxx σ + 4) f z k d l q) t = pn G t := by
    intro t ht
    unfold pn
    rw [gNo (by omega) (by decide)]
  refine ⟨by rw [gN0]; exact hI0, fun b hb => ?_, fun t t1 t2 => ?_, ⟨fun t t1 t2 => ?_, fun t u t1 tu u2' => ?_⟩, fun x hx1 hx2 => ?_⟩
  · rw [hR6, gN9, gp _ (hg.2.1 b hb)]; exact h1 b hb
  · rw [gN0] at t2
    by_cases c : t = G 10 0 + 1
    · subst c
      unfold TA TB TC TD TE
      rw [gNa, gNf, gNz, gNk, gNd, gNl, gNq, gNs]
      refine ⟨⟨hA, hRa.1, hRa.2, hB.1, hD.1, hB.2, hD.2⟩, hIa, fun j hj => ?_, fun r1 r2 j hj => ?_, fun r => ?_⟩
      · have hc := cC_of (c := nxx σ + 4) hj
        have w3 := cW_of hc.2
        rw [hc.1, if_neg (by omega), if_neg (by omega), hg.2.2.2.2.2.1 _ (by omega)]
        exact ((h4 (nxx σ + 4 + 1) (by omega) (by omega)).2 j).2.1
      · rw [hRq r1 r2, if_neg (by omega), if_pos ⟨r1, r2⟩, gN4, hg.2.2.2.2.2.2.1 _ (by omega), pn_0]
        exact ((h4 (cP f (nxx σ + 4)) (by omega) (by omega)).2 j).2.2
      · rw [gp l hl, gp q hq]
        exact hRp r
    · obtain ⟨a, b, cc, dd, e⟩ := h2 t t1 (by omega)
      have st := h3.1 t t1 (by omega)
      have cp := cP_le (G 1 t) (G 0 t)
      have wt := cW_ge (G 1 t)
      obtain ⟨-, -, -, -, -, -, -, -, -, c10, c11, c12, -⟩ := hg.2.2.1 t t1 (by omega)
      have ei : I' (G 0 t) = I (G 0 t) := hIo _ (by omega) (by omega) (by omega)
      have er : R' (G 0 t) = R (G 0 t) := hRo _ (by omega) (by omega) (by omega) (by omega)
      have ep : R' (cP (G 1 t) (G 0 t)) = R (cP (G 1 t) (G 0 t)) := hRo _ (by omega) (by omega) (by omega) (by omega)
      have ccl : cC (G 1 t) (G 0 t) < nxx σ + 4 := by
        unfold cC
        split
        · rename_i w
          have := cW_of w
          omega
        · omega
      unfold TA TB TC TD TE
      rw [gNo (x := 0) c (by decide), gNo (x := 1) c (by decide), gNo (x := 2) c (by decide), gNo (x := 3) c (by decide), gNo (x := 5) c (by decide), gNo (x := 6) c (by decide), gNo (x := 7) c (by decide), gNo (x := 8) c (by decide), hN 4 t c, hN 5 t c, hN 6 t c, hN 8 t c, ei, er, ep, (hk _ ccl).1, (hk _ ccl).2, (hk (G 0 t) (by omega)).1, (hk (cP (G 1 t) (G 0 t)) (by omega)).1, (hk (cP (G 1 t) (G 0 t)) (by omega)).2, gp _ c11, gp _ c12]
      refine ⟨a, b, cc, fun r1 r2 j hj => ?_, e⟩
      rw [gN4, gp _ (c10 r1 r2 j hj).1]
      exact dd r1 r2 j hj
  · rw [gN0] at t2
    by_cases c : t = G 10 0 + 1
    · subst c
      rw [gNa, gNf]; omega
    · rw [gNo (x := 0) c (by decide), gNo (x := 1) c (by decide)]
      have := h3.1 t t1 (by omega)
      omega
  · rw [gN0] at u2'
    have ct : t ≠ G 10 0 + 1 := by omega
    rw [gNo (x := 0) ct (by decide), gNo (x := 1) ct (by decide)]
    by_cases c : u = G 10 0 + 1
    · subst c
      rw [gNa]
      exact (h3.1 t t1 (by omega)).2
    · rw [gNo (x := 0) c (by decide)]
      exact h3.2 t u t1 tu (by omega)
  · obtain ⟨d1, d2⟩ := h4 x (by omega) hx2
    refine ⟨hF x hx1 hx2, fun j => ?_⟩
    rw [hIo x (by omega) hx2 (by omega), hRo x (by omega) hx2 (by omega) (by omega)]
    exact d2 j
theorem TMo.new {G : Nat → Nat → Nat} {C : Nat → Int64} {N N' : Nat → Nat → Int32} {I I' : Nat → Nat → Int32} {J : Nat → Nat → Int64} {a f z k d l q : Nat} (h : TMo G C N I J)
    (hN : ∀ x t, t ≠ G 10 0 + 1 → N' x t = N x t) (h0 : I' 114 0 = Int32.ofInt ((G 10 0 + 1 : Nat) : Int) ∧ I' 114 7 = Int32.ofInt ((G 10 1 + nC f z : Nat) : Int) ∧ I' 114 9 = Int32.ofInt ((G 10 2 + (if 8 ≤ f ∧ f ≤ 15 then z else 0) : Nat) : Int))
    (h5 : ∀ b, I' 115 b = I 115 b) (h6 : ∀ b, I' 120 b = I 120 b) (ho : ∀ t, t ≠ G 10 0 + 1 → TMt G N I t → TMt G N I' t)
    (hn : I' 116 (G 10 0 + 1) = Int32.ofInt f ∧ I' 117 (G 10 0 + 1) = Int32.ofInt z ∧ I' 118 (G 10 0 + 1) = Int32.ofInt ((if f = 16 then G 3 (G 10 0 + 1) else if 8 ≤ f ∧ f ≤ 15 then G 10 2 else G 10 1 : Nat) : Int) ∧ I' 121 (G 10 0 + 1) = N' 4 (G 10 0 + 1) ∧ I' 122 (G 10 0 + 1) = Int32.ofInt k ∧ I' 123 (G 10 0 + 1) = N' 5 (G 10 0 + 1) ∧ I' 124 (G 10 0 + 1) = N' 6 (G 10 0 + 1) ∧ I' 125 (G 10 0 + 1) = Int32.ofInt l ∧ I' 126 (G 10 0 + 1) = Int32.ofInt q ∧ I' 127 (G 10 0 + 1) = Int32.ofInt d ∧ I' 133 (G 10 0 + 1) = N' 8 (G 10 0 + 1)) : TMo (gNew G a f z k d l q) C N' I' J := by
  obtain ⟨-, hb, ht, hC, hP⟩ := h
  refine ⟨?_, fun b hb' => ?_, fun t ht' => ?_, hC, fun j hj => ?_⟩
  · rw [gN0, gN1, gN2]; exact h0
  · rw [gN9, h5]; exact hb b hb'
  · by_cases c : t = G 10 0 + 1
    · subst c
      unfold TMt
      rw [gNf, gNz, gNk, gNd, gNl, gNq, gNs]
      exact hn
    · have := ho t c (ht t ht')
      unfold TMt at this ⊢
      rw [gNo (x := 1) c (by decide), gNo (x := 2) c (by decide), gNo (x := 3) c (by decide), gNo (x := 5) c (by decide), gNo (x := 6) c (by decide), gNo (x := 7) c (by decide), gNo (x := 8) c (by decide), hN 4 t c, hN 5 t c, hN 6 t c, hN 8 t c]
      exact this
  · rw [h6, gN4]; exact hP j hj
