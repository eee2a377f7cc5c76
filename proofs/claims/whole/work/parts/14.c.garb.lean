/-! ===== rubbish that a call leaves ===== -/
theorem TCl.garb {G : Nat → Nat → Nat} {C : Nat → Int64} {N : Nat → Nat → Int32} {σ σ' : Shp} {I I' : Nat → Nat → Int32} {J : Nat → Nat → Int64} {R R' : Nat → Nat → Option Nat} (h : TCl G C N σ I J R) (hn : 198 ≤ nxx σ ∧ nxx σ' ≤ 900000) (hle : nxx σ ≤ nxx σ') (hk : ∀ b, b < nxx σ + 4 → kdx σ' b = kdx σ b ∧ lnx σ' b = lnx σ b) (hF : ∀ b, nxx σ' + 4 ≤ b → b < 1000000 → kdx σ' b = 0) (k0 : I' 4 12 = I 4 12) (hI : ∀ b, 202 ≤ b → b < 1000000 → (b < nxx σ + 4 ∨ nxx σ' + 4 ≤ b) → I' b = I b) (hR6 : R' 6 = R 6) (hR : ∀ b, 202 ≤ b → b < 1000000 → (b < nxx σ + 4 ∨ nxx σ' + 4 ≤ b) → R' b = R b) : TCl G C N σ' I' J R' := by
  obtain ⟨h0, h1, h2, h3, h4⟩ := h
  refine ⟨by rw [k0]; exact h0, fun b hb => by rw [hR6]; exact h1 b hb, fun t t1 t2 => ?_, ⟨fun t t1 t2 => ?_, h3.2⟩, fun x hx1 hx2 => ?_⟩
  · obtain ⟨a, b, c, d, e⟩ := h2 t t1 t2
    have st := h3.1 t t1 t2
    have cp := cP_le (G 1 t) (G 0 t)
    have wt := cW_ge (G 1 t)
    have ei : I' (G 0 t) = I (G 0 t) := hI _ (by omega) (by omega) (by omega)
    have er : R' (G 0 t) = R (G 0 t) := hR _ (by omega) (by omega) (by omega)
    have ep : R' (cP (G 1 t) (G 0 t)) = R (cP (G 1 t) (G 0 t)) := hR _ (by omega) (by omega) (by omega)
    have ccl : cC (G 1 t) (G 0 t) < nxx σ + 4 := by
      unfold cC
      split
      · rename_i w
        have := cW_of w
        omega
      · omega
    unfold TA TB TD TE at *
    rw [ei, er, ep, (hk _ ccl).1, (hk _ ccl).2, (hk (G 0 t) (by omega)).1, (hk (cP (G 1 t) (G 0 t)) (by omega)).1, (hk (cP (G 1 t) (G 0 t)) (by omega)).2]
    exact ⟨a, b, c, d, e⟩
  · have := h3.1 t t1 t2
    omega
  · obtain ⟨d1, d2⟩ := h4 x (by omega) hx2
    refine ⟨hF x hx1 hx2, fun j => ?_⟩
    rw [hI x (by omega) hx2 (Or.inr hx1), hR x (by omega) hx2 (Or.inr hx1)]
    exact d2 j
