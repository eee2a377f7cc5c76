/-! ===== the call work ===== -/
theorem c_work {σ : Shp} {R : Nat → Nat → Option Nat} {I : Nat → Nat → Int32} {J : Nat → Nat → Int64} (h : GFeed I J) : Tot (gX11_work σ I J R) (fun t => Tot (gX12_work σ t.1 t.2.1 R) (fun t2 => t.2.2 = t2.2.2 ∧ GFeed t2.1 t2.2.1)) := by
  obtain ⟨K, hK, k1, k2⟩ := gf_of h
  obtain ⟨I1, J1, -, -, r, a1, -⟩ := lock_work (σ := σ) (R := R) (J := J) (J' := J) hK k2 k1
  have w1 : gX11_work σ I J R = some (I1, J1, r) := by
    unfold gX11_work
    rw [a1, ob_some]
  have f1 := aX11_work (σ := σ) (R := R) (I := I) (J := J) _ w1
  have f1I : Ag FwX11_work I I1 := f1.1
  obtain ⟨I1', J1', I2, J2, r', b1, b2, b3, b4, b5, b6, b7, b8⟩ := lock_work (σ := σ) (R := R) (J := J) (I' := I1) (J' := J1) hK k2 (fun k hk => by rw [f1I 188 k rfl]; exact k1 k hk)
  rw [a1] at b1
  cases b1
  have f2 := aX12_work (σ := σ) (R := R) (I := I1) (J := J1) _ b2
  have f2I : Ag FwX12_work I1 I2 := f2.1
  have f2J : Ag FwX12_work J1 J2 := f2.2
  have q188 : ∀ k, I2 188 k = I 188 k := fun k => by rw [f2I 188 k rfl, f1I 188 k rfl]
  have n01 : ¬ (1 : Int32) = 0 := by decide
  refine ⟨(I1, J1, r), w1, (I2, J2, r), b2, rfl, ?_⟩
  show GFeed I2 J2
  unfold GFeed
  refine ⟨fun s j hs hj => ?_, fun k hk => ?_, fun k hk => ?_, fun k hk => ?_, fun k hk => ?_, fun k hk => ?_, ?_, fun e => ?_, ?_, ?_⟩
  · rw [q188, ← h.e0 s j hs hj]
    obtain rfl | rfl | rfl | rfl | rfl | rfl : s = 0 ∨ s = 1 ∨ s = 2 ∨ s = 3 ∨ s = 4 ∨ s = 5 := by omega
    · rw [f2I 73 j rfl, f1I 73 j rfl]
    · rw [f2I 74 j rfl, f1I 74 j rfl]
    · rw [f2I 75 j rfl, f1I 75 j rfl]
    · rw [f2I 76 j rfl, f1I 76 j rfl]
    · rw [f2I 77 j rfl, f1I 77 j rfl]
    · rw [f2I 78 j rfl, f1I 78 j rfl]
  · rw [q188]; exact h.e1 k hk
  · rw [q188]; exact h.e2 k hk
  · rw [f2J 88 k rfl, b6 k hk, b4]
    simp only [true_and]
  · rw [f2J 89 k rfl, b7 k hk, b4]
    simp only [true_and]
  · rw [f2J 90 k rfl, b8 k hk, b4]
    simp only [true_and]
  · rw [f2I 71 7 rfl, b3]
  · rw [b4] at e
    exact absurd e n01
  · rw [b4]
    exact ⟨1, by decide, by decide, rfl⟩
  · rcases b5 with e | e
    · rw [e]
      exact ⟨0, by decide, by decide, rfl⟩
    · rw [e]
      exact ⟨1, by decide, by decide, rfl⟩
