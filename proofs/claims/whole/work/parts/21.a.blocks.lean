/-! ===== the law's blocks ===== -/
theorem B_344 {q18 : (Shp) → (Nat → Nat → Int32) → (Nat → Nat → Int64) → (Nat → Nat → UInt64) → (Nat → Nat → Option Nat) → (Option Nat) → (Option Nat) → (Int32) → (Option (Unit))} {xs : Nat → Int32} {Lg i : Nat} {n : Nat} {σ : Shp} {I : Nat → Nat → Int32} {J : Nat → Nat → Int64} {D : Nat → Nat → UInt64} {R : Nat → Nat → Option Nat} (h : Rel n σ I J D R) (hn : n < 512) (hi : i + 7 ≤ Lg) (hL : Lg ≤ 3584) : ∃ σ9 I9 J9 D9 R9, Rel (n + 1) σ9 I9 J9 D9 R9 ∧ fL_law_b344 q18 xs Lg σ I J D R (some 4) (some 114) (Int32.ofInt (i : Int)) = q18 σ9 I9 J9 D9 R9 (some 4) (some 114) (Int32.ofInt ((i + 7 : Nat) : Int)) := by
  have x_1 : Int32.ofInt (i : Int) + (1 : Int32) = Int32.ofInt ((i + 1 : Nat) : Int) := by rw [i_addl]; rfl
  have n_1 : Int32.toNatClampNeg (Int32.ofInt ((i + 1 : Nat) : Int)) = i + 1 := by rw [i_tn (by omega), Int.toNat_natCast]
  have G_1 : ¬ (Int32.ofInt ((i + 1 : Nat) : Int) < 0 ∨ Lg ≤ i + 1) := by have q : (Int32.ofInt ((i + 1 : Nat) : Int) < 0 ∨ Lg ≤ Int32.toNatClampNeg (Int32.ofInt ((i + 1 : Nat) : Int))) = False := i_gd (by omega); rw [n_1] at q; rw [q]; exact id
  have x_2 : Int32.ofInt (i : Int) + (2 : Int32) = Int32.ofInt ((i + 2 : Nat) : Int) := by rw [i_addl]; rfl
  have n_2 : Int32.toNatClampNeg (Int32.ofInt ((i + 2 : Nat) : Int)) = i + 2 := by rw [i_tn (by omega), Int.toNat_natCast]
  have G_2 : ¬ (Int32.ofInt ((i + 2 : Nat) : Int) < 0 ∨ Lg ≤ i + 2) := by have q : (Int32.ofInt ((i + 2 : Nat) : Int) < 0 ∨ Lg ≤ Int32.toNatClampNeg (Int32.ofInt ((i + 2 : Nat) : Int))) = False := i_gd (by omega); rw [n_2] at q; rw [q]; exact id
  have x_3 : Int32.ofInt (i : Int) + (3 : Int32) = Int32.ofInt ((i + 3 : Nat) : Int) := by rw [i_addl]; rfl
  have n_3 : Int32.toNatClampNeg (Int32.ofInt ((i + 3 : Nat) : Int)) = i + 3 := by rw [i_tn (by omega), Int.toNat_natCast]
  have G_3 : ¬ (Int32.ofInt ((i + 3 : Nat) : Int) < 0 ∨ Lg ≤ i + 3) := by have q : (Int32.ofInt ((i + 3 : Nat) : Int) < 0 ∨ Lg ≤ Int32.toNatClampNeg (Int32.ofInt ((i + 3 : Nat) : Int))) = False := i_gd (by omega); rw [n_3] at q; rw [q]; exact id
  have x_7 : Int32.ofInt (i : Int) + (7 : Int32) = Int32.ofInt ((i + 7 : Nat) : Int) := by rw [i_addl]; rfl
  obtain ⟨σ1, I1, R1, i1, I2, i2, e1, e2, q0, S1, hR⟩ := s_row (x1 := (xs (i + 1))) (x2 := (xs (i + 2))) (x3 := (xs (i + 3))) h hn
  refine ⟨σ1, I2, J, D, R1, hR, ?_⟩
  have r0 := hR.rn
  have r1 := hR.rs
  have rm : nxx σ1 ≤ 600000 ∧ slx σ1 ≤ 7300000 := by omega
  unfold fL_law_b344
  simp only [x_1, n_1, if_pos G_1, x_2, n_2, if_pos G_2, x_3, n_3, if_pos G_3, x_7]
  rw [ob_some, if_pos (kq4 h.sk), eX11_row h.sk, e1, ob_some]
  dsimp only
  rw [if_pos rm]
  rw [ob_some, if_pos (kq114 S1), eX12_row S1, e2, ob_some]
  dsimp only
  rw [if_pos q0]
theorem B_387 {q18 : (Shp) → (Nat → Nat → Int32) → (Nat → Nat → Int64) → (Nat → Nat → UInt64) → (Nat → Nat → Option Nat) → (Option Nat) → (Option Nat) → (Int32) → (Option (Unit))} {xs : Nat → Int32} {Lg i : Nat} {n : Nat} {σ : Shp} {I : Nat → Nat → Int32} {J : Nat → Nat → Int64} {D : Nat → Nat → UInt64} {R : Nat → Nat → Option Nat} (h : Rel n σ I J D R) (hn : n < 512) (hi : i + 7 ≤ Lg) (hL : Lg ≤ 3584) : ∃ σ9 I9 J9 D9 R9, Rel (n + 1) σ9 I9 J9 D9 R9 ∧ fL_law_b387 q18 xs Lg σ I J D R (some 4) (some 114) (Int32.ofInt (i : Int)) = q18 σ9 I9 J9 D9 R9 (some 4) (some 114) (Int32.ofInt ((i + 7 : Nat) : Int)) := by
  have x_1 : Int32.ofInt (i : Int) + (1 : Int32) = Int32.ofInt ((i + 1 : Nat) : Int) := by rw [i_addl]; rfl
  have n_1 : Int32.toNatClampNeg (Int32.ofInt ((i + 1 : Nat) : Int)) = i + 1 := by rw [i_tn (by omega), Int.toNat_natCast]
  have G_1 : ¬ (Int32.ofInt ((i + 1 : Nat) : Int) < 0 ∨ Lg ≤ i + 1) := by have q : (Int32.ofInt ((i + 1 : Nat) : Int) < 0 ∨ Lg ≤ Int32.toNatClampNeg (Int32.ofInt ((i + 1 : Nat) : Int))) = False := i_gd (by omega); rw [n_1] at q; rw [q]; exact id
  have x_2 : Int32.ofInt (i : Int) + (2 : Int32) = Int32.ofInt ((i + 2 : Nat) : Int) := by rw [i_addl]; rfl
  have n_2 : Int32.toNatClampNeg (Int32.ofInt ((i + 2 : Nat) : Int)) = i + 2 := by rw [i_tn (by omega), Int.toNat_natCast]
  have G_2 : ¬ (Int32.ofInt ((i + 2 : Nat) : Int) < 0 ∨ Lg ≤ i + 2) := by have q : (Int32.ofInt ((i + 2 : Nat) : Int) < 0 ∨ Lg ≤ Int32.toNatClampNeg (Int32.ofInt ((i + 2 : Nat) : Int))) = False := i_gd (by omega); rw [n_2] at q; rw [q]; exact id
  have x_3 : Int32.ofInt (i : Int) + (3 : Int32) = Int32.ofInt ((i + 3 : Nat) : Int) := by rw [i_addl]; rfl
  have n_3 : Int32.toNatClampNeg (Int32.ofInt ((i + 3 : Nat) : Int)) = i + 3 := by rw [i_tn (by omega), Int.toNat_natCast]
  have G_3 : ¬ (Int32.ofInt ((i + 3 : Nat) : Int) < 0 ∨ Lg ≤ i + 3) := by have q : (Int32.ofInt ((i + 3 : Nat) : Int) < 0 ∨ Lg ≤ Int32.toNatClampNeg (Int32.ofInt ((i + 3 : Nat) : Int))) = False := i_gd (by omega); rw [n_3] at q; rw [q]; exact id
  have x_4 : Int32.ofInt (i : Int) + (4 : Int32) = Int32.ofInt ((i + 4 : Nat) : Int) := by rw [i_addl]; rfl
  have n_4 : Int32.toNatClampNeg (Int32.ofInt ((i + 4 : Nat) : Int)) = i + 4 := by rw [i_tn (by omega), Int.toNat_natCast]
  have G_4 : ¬ (Int32.ofInt ((i + 4 : Nat) : Int) < 0 ∨ Lg ≤ i + 4) := by have q : (Int32.ofInt ((i + 4 : Nat) : Int) < 0 ∨ Lg ≤ Int32.toNatClampNeg (Int32.ofInt ((i + 4 : Nat) : Int))) = False := i_gd (by omega); rw [n_4] at q; rw [q]; exact id
  have x_5 : Int32.ofInt (i : Int) + (5 : Int32) = Int32.ofInt ((i + 5 : Nat) : Int) := by rw [i_addl]; rfl
  have n_5 : Int32.toNatClampNeg (Int32.ofInt ((i + 5 : Nat) : Int)) = i + 5 := by rw [i_tn (by omega), Int.toNat_natCast]
  have G_5 : ¬ (Int32.ofInt ((i + 5 : Nat) : Int) < 0 ∨ Lg ≤ i + 5) := by have q : (Int32.ofInt ((i + 5 : Nat) : Int) < 0 ∨ Lg ≤ Int32.toNatClampNeg (Int32.ofInt ((i + 5 : Nat) : Int))) = False := i_gd (by omega); rw [n_5] at q; rw [q]; exact id
  have x_7 : Int32.ofInt (i : Int) + (7 : Int32) = Int32.ofInt ((i + 7 : Nat) : Int) := by rw [i_addl]; rfl
  by_cases c : xs (i + 5) = 0
  · skip
    obtain ⟨σ1, I1, R1, i1, I2, i2, e1, e2, q0, S1, hR⟩ := s_grid (x1 := (xs (i + 1))) (x2 := (xs (i + 2))) (x3 := (xs (i + 3))) (x4 := (xs (i + 4))) (x5 := (0 : Int32)) h hn
    refine ⟨σ1, I2, J, D, R1, hR, ?_⟩
    have r0 := hR.rn
    have r1 := hR.rs
    have rm : nxx σ1 ≤ 600000 ∧ slx σ1 ≤ 7300000 := by omega
    unfold fL_law_b387
    simp only [x_1, n_1, if_pos G_1, x_2, n_2, if_pos G_2, x_3, n_3, if_pos G_3, x_4, n_4, if_pos G_4, x_5, n_5, if_pos G_5, x_7, if_pos c]
    rw [ob_some, if_pos (kq4 h.sk), eX11_grid h.sk, e1, ob_some]
    dsimp only
    rw [if_pos rm]
    rw [ob_some, if_pos (kq114 S1), eX12_grid S1, e2, ob_some]
    dsimp only
    rw [if_pos q0]
  · skip
    obtain ⟨σ1, I1, R1, i1, I2, i2, e1, e2, q0, S1, hR⟩ := s_grid (x1 := (xs (i + 1))) (x2 := (xs (i + 2))) (x3 := (xs (i + 3))) (x4 := (xs (i + 4))) (x5 := (1 : Int32)) h hn
    refine ⟨σ1, I2, J, D, R1, hR, ?_⟩
    have r0 := hR.rn
    have r1 := hR.rs
    have rm : nxx σ1 ≤ 600000 ∧ slx σ1 ≤ 7300000 := by omega
    unfold fL_law_b387
    simp only [x_1, n_1, if_pos G_1, x_2, n_2, if_pos G_2, x_3, n_3, if_pos G_3, x_4, n_4, if_pos G_4, x_5, n_5, if_pos G_5, x_7, if_neg c]
    rw [ob_some, if_pos (kq4 h.sk), eX11_grid h.sk, e1, ob_some]
    dsimp only
    rw [if_pos rm]
    rw [ob_some, if_pos (kq114 S1), eX12_grid S1, e2, ob_some]
    dsimp only
    rw [if_pos q0]
theorem B_466 {q18 : (Shp) → (Nat → Nat → Int32) → (Nat → Nat → Int64) → (Nat → Nat → UInt64) → (Nat → Nat → Option Nat) → (Option Nat) → (Option Nat) → (Int32) → (Option (Unit))} {xs : Nat → Int32} {Lg i : Nat} {n : Nat} {σ : Shp} {I : Nat → Nat → Int32} {J : Nat → Nat → Int64} {D : Nat → Nat → UInt64} {R : Nat → Nat → Option Nat} (h : Rel n σ I J D R) (hn : n < 512) (hi : i + 7 ≤ Lg) (hL : Lg ≤ 3584) : ∃ σ9 I9 J9 D9 R9, Rel (n + 1) σ9 I9 J9 D9 R9 ∧ fL_law_b466 q18 xs Lg σ I J D R (some 4) (some 114) (Int32.ofInt (i : Int)) = q18 σ9 I9 J9 D9 R9 (some 4) (some 114) (Int32.ofInt ((i + 7 : Nat) : Int)) := by
  have x_1 : Int32.ofInt (i : Int) + (1 : Int32) = Int32.ofInt ((i + 1 : Nat) : Int) := by rw [i_addl]; rfl
  have n_1 : Int32.toNatClampNeg (Int32.ofInt ((i + 1 : Nat) : Int)) = i + 1 := by rw [i_tn (by omega), Int.toNat_natCast]
  have G_1 : ¬ (Int32.ofInt ((i + 1 : Nat) : Int) < 0 ∨ Lg ≤ i + 1) := by have q : (Int32.ofInt ((i + 1 : Nat) : Int) < 0 ∨ Lg ≤ Int32.toNatClampNeg (Int32.ofInt ((i + 1 : Nat) : Int))) = False := i_gd (by omega); rw [n_1] at q; rw [q]; exact id
  have x_2 : Int32.ofInt (i : Int) + (2 : Int32) = Int32.ofInt ((i + 2 : Nat) : Int) := by rw [i_addl]; rfl
  have n_2 : Int32.toNatClampNeg (Int32.ofInt ((i + 2 : Nat) : Int)) = i + 2 := by rw [i_tn (by omega), Int.toNat_natCast]
  have G_2 : ¬ (Int32.ofInt ((i + 2 : Nat) : Int) < 0 ∨ Lg ≤ i + 2) := by have q : (Int32.ofInt ((i + 2 : Nat) : Int) < 0 ∨ Lg ≤ Int32.toNatClampNeg (Int32.ofInt ((i + 2 : Nat) : Int))) = False := i_gd (by omega); rw [n_2] at q; rw [q]; exact id
  have x_7 : Int32.ofInt (i : Int) + (7 : Int32) = Int32.ofInt ((i + 7 : Nat) : Int) := by rw [i_addl]; rfl
  obtain ⟨σ1, I1, R1, i1, I2, i2, e1, e2, q0, S1, hR⟩ := s_storeys (x1 := (xs (i + 1))) (x2 := (xs (i + 2))) h hn
  refine ⟨σ1, I2, J, D, R1, hR, ?_⟩
  have r0 := hR.rn
  have r1 := hR.rs
  have rm : nxx σ1 ≤ 600000 ∧ slx σ1 ≤ 7300000 := by omega
  unfold fL_law_b466
  simp only [x_1, n_1, if_pos G_1, x_2, n_2, if_pos G_2, x_7]
  rw [ob_some, if_pos (kq4 h.sk), eX11_storeys h.sk, e1, ob_some]
  dsimp only
  rw [if_pos rm]
  rw [ob_some, if_pos (kq114 S1), eX12_storeys S1, e2, ob_some]
  dsimp only
  rw [if_pos q0]
theorem B_499 {q18 : (Shp) → (Nat → Nat → Int32) → (Nat → Nat → Int64) → (Nat → Nat → UInt64) → (Nat → Nat → Option Nat) → (Option Nat) → (Option Nat) → (Int32) → (Option (Unit))} {xs : Nat → Int32} {Lg i : Nat} {n : Nat} {σ : Shp} {I : Nat → Nat → Int32} {J : Nat → Nat → Int64} {D : Nat → Nat → UInt64} {R : Nat → Nat → Option Nat} (h : Rel n σ I J D R) (hn : n < 512) (hi : i + 7 ≤ Lg) (hL : Lg ≤ 3584) : ∃ σ9 I9 J9 D9 R9, Rel (n + 1) σ9 I9 J9 D9 R9 ∧ fL_law_b499 q18 xs Lg σ I J D R (some 4) (some 114) (Int32.ofInt (i : Int)) = q18 σ9 I9 J9 D9 R9 (some 4) (some 114) (Int32.ofInt ((i + 7 : Nat) : Int)) := by
  have x_1 : Int32.ofInt (i : Int) + (1 : Int32) = Int32.ofInt ((i + 1 : Nat) : Int) := by rw [i_addl]; rfl
  have n_1 : Int32.toNatClampNeg (Int32.ofInt ((i + 1 : Nat) : Int)) = i + 1 := by rw [i_tn (by omega), Int.toNat_natCast]
  have G_1 : ¬ (Int32.ofInt ((i + 1 : Nat) : Int) < 0 ∨ Lg ≤ i + 1) := by have q : (Int32.ofInt ((i + 1 : Nat) : Int) < 0 ∨ Lg ≤ Int32.toNatClampNeg (Int32.ofInt ((i + 1 : Nat) : Int))) = False := i_gd (by omega); rw [n_1] at q; rw [q]; exact id
  have x_2 : Int32.ofInt (i : Int) + (2 : Int32) = Int32.ofInt ((i + 2 : Nat) : Int) := by rw [i_addl]; rfl
  have n_2 : Int32.toNatClampNeg (Int32.ofInt ((i + 2 : Nat) : Int)) = i + 2 := by rw [i_tn (by omega), Int.toNat_natCast]
  have G_2 : ¬ (Int32.ofInt ((i + 2 : Nat) : Int) < 0 ∨ Lg ≤ i + 2) := by have q : (Int32.ofInt ((i + 2 : Nat) : Int) < 0 ∨ Lg ≤ Int32.toNatClampNeg (Int32.ofInt ((i + 2 : Nat) : Int))) = False := i_gd (by omega); rw [n_2] at q; rw [q]; exact id
  have x_7 : Int32.ofInt (i : Int) + (7 : Int32) = Int32.ofInt ((i + 7 : Nat) : Int) := by rw [i_addl]; rfl
  obtain ⟨R1, i1, I2, i2, e1, e2, q0, S1, hR⟩ := s_share (x1 := (xs (i + 1))) (x2 := (xs (i + 2))) h hn
  refine ⟨σ, I2, J, D, R1, hR, ?_⟩
  unfold fL_law_b499
  simp only [x_1, n_1, if_pos G_1, x_2, n_2, if_pos G_2, x_7]
  rw [ob_some, if_pos (kq4 h.sk), eX11_share h.sk, e1, ob_some]
  dsimp only
  rw [ob_some, if_pos (kq114 S1), eX12_share S1, e2, ob_some]
  dsimp only
  rw [if_pos q0]
theorem B_532 {q18 : (Shp) → (Nat → Nat → Int32) → (Nat → Nat → Int64) → (Nat → Nat → UInt64) → (Nat → Nat → Option Nat) → (Option Nat) → (Option Nat) → (Int32) → (Option (Unit))} {xs : Nat → Int32} {Lg i : Nat} {n : Nat} {σ : Shp} {I : Nat → Nat → Int32} {J : Nat → Nat → Int64} {D : Nat → Nat → UInt64} {R : Nat → Nat → Option Nat} (h : Rel n σ I J D R) (hn : n < 512) (hi : i + 7 ≤ Lg) (hL : Lg ≤ 3584) : ∃ σ9 I9 J9 D9 R9, Rel (n + 1) σ9 I9 J9 D9 R9 ∧ fL_law_b532 q18 xs Lg σ I J D R (some 4) (some 114) (Int32.ofInt (i : Int)) = q18 σ9 I9 J9 D9 R9 (some 4) (some 114) (Int32.ofInt ((i + 7 : Nat) : Int)) := by
  have x_1 : Int32.ofInt (i : Int) + (1 : Int32) = Int32.ofInt ((i + 1 : Nat) : Int) := by rw [i_addl]; rfl
  have n_1 : Int32.toNatClampNeg (Int32.ofInt ((i + 1 : Nat) : Int)) = i + 1 := by rw [i_tn (by omega), Int.toNat_natCast]
  have G_1 : ¬ (Int32.ofInt ((i + 1 : Nat) : Int) < 0 ∨ Lg ≤ i + 1) := by have q : (Int32.ofInt ((i + 1 : Nat) : Int) < 0 ∨ Lg ≤ Int32.toNatClampNeg (Int32.ofInt ((i + 1 : Nat) : Int))) = False := i_gd (by omega); rw [n_1] at q; rw [q]; exact id
  have x_7 : Int32.ofInt (i : Int) + (7 : Int32) = Int32.ofInt ((i + 7 : Nat) : Int) := by rw [i_addl]; rfl
  obtain ⟨i1, i2, e1, e2, q0, S1, hR⟩ := s_form (x1 := (xs (i + 1))) h hn
  refine ⟨σ, I, J, D, R, hR, ?_⟩
  unfold fL_law_b532
  simp only [x_1, n_1, if_pos G_1, x_7]
  rw [ob_some, if_pos (kq4 h.sk), eX11_form h.sk, e1, ob_some]
  rw [ob_some, if_pos (kq114 S1), eX12_form S1, e2, ob_some]
  rw [if_pos q0]
theorem B_555 {q18 : (Shp) → (Nat → Nat → Int32) → (Nat → Nat → Int64) → (Nat → Nat → UInt64) → (Nat → Nat → Option Nat) → (Option Nat) → (Option Nat) → (Int32) → (Option (Unit))} {xs : Nat → Int32} {Lg i : Nat} {n : Nat} {σ : Shp} {I : Nat → Nat → Int32} {J : Nat → Nat → Int64} {D : Nat → Nat → UInt64} {R : Nat → Nat → Option Nat} (h : Rel n σ I J D R) (hn : n < 512) (hi : i + 7 ≤ Lg) (hL : Lg ≤ 3584) : ∃ σ9 I9 J9 D9 R9, Rel (n + 1) σ9 I9 J9 D9 R9 ∧ fL_law_b555 q18 xs Lg σ I J D R (some 4) (some 114) (Int32.ofInt (i : Int)) = q18 σ9 I9 J9 D9 R9 (some 4) (some 114) (Int32.ofInt ((i + 7 : Nat) : Int)) := by
  have x_1 : Int32.ofInt (i : Int) + (1 : Int32) = Int32.ofInt ((i + 1 : Nat) : Int) := by rw [i_addl]; rfl
  have n_1 : Int32.toNatClampNeg (Int32.ofInt ((i + 1 : Nat) : Int)) = i + 1 := by rw [i_tn (by omega), Int.toNat_natCast]
  have G_1 : ¬ (Int32.ofInt ((i + 1 : Nat) : Int) < 0 ∨ Lg ≤ i + 1) := by have q : (Int32.ofInt ((i + 1 : Nat) : Int) < 0 ∨ Lg ≤ Int32.toNatClampNeg (Int32.ofInt ((i + 1 : Nat) : Int))) = False := i_gd (by omega); rw [n_1] at q; rw [q]; exact id
  have x_2 : Int32.ofInt (i : Int) + (2 : Int32) = Int32.ofInt ((i + 2 : Nat) : Int) := by rw [i_addl]; rfl
  have n_2 : Int32.toNatClampNeg (Int32.ofInt ((i + 2 : Nat) : Int)) = i + 2 := by rw [i_tn (by omega), Int.toNat_natCast]
  have G_2 : ¬ (Int32.ofInt ((i + 2 : Nat) : Int) < 0 ∨ Lg ≤ i + 2) := by have q : (Int32.ofInt ((i + 2 : Nat) : Int) < 0 ∨ Lg ≤ Int32.toNatClampNeg (Int32.ofInt ((i + 2 : Nat) : Int))) = False := i_gd (by omega); rw [n_2] at q; rw [q]; exact id
  have x_7 : Int32.ofInt (i : Int) + (7 : Int32) = Int32.ofInt ((i + 7 : Nat) : Int) := by rw [i_addl]; rfl
  obtain ⟨i1, i2, e1, e2, q0, S1, hR⟩ := s_is (x1 := (xs (i + 1))) (x2 := (xs (i + 2))) h hn
  refine ⟨σ, I, J, D, R, hR, ?_⟩
  unfold fL_law_b555
  simp only [x_1, n_1, if_pos G_1, x_2, n_2, if_pos G_2, x_7]
  rw [ob_some, if_pos (kq4 h.sk), eX11_is h.sk, e1, ob_some]
  rw [ob_some, if_pos (kq114 S1), eX12_is S1, e2, ob_some]
  rw [if_pos q0]
theorem B_588 {q18 : (Shp) → (Nat → Nat → Int32) → (Nat → Nat → Int64) → (Nat → Nat → UInt64) → (Nat → Nat → Option Nat) → (Option Nat) → (Option Nat) → (Int32) → (Option (Unit))} {xs : Nat → Int32} {Lg i : Nat} {n : Nat} {σ : Shp} {I : Nat → Nat → Int32} {J : Nat → Nat → Int64} {D : Nat → Nat → UInt64} {R : Nat → Nat → Option Nat} (h : Rel n σ I J D R) (hn : n < 512) (hi : i + 7 ≤ Lg) (hL : Lg ≤ 3584) : ∃ σ9 I9 J9 D9 R9, Rel (n + 1) σ9 I9 J9 D9 R9 ∧ fL_law_b588 q18 xs Lg σ I J D R (some 4) (some 114) (Int32.ofInt (i : Int)) = q18 σ9 I9 J9 D9 R9 (some 4) (some 114) (Int32.ofInt ((i + 7 : Nat) : Int)) := by
  have x_1 : Int32.ofInt (i : Int) + (1 : Int32) = Int32.ofInt ((i + 1 : Nat) : Int) := by rw [i_addl]; rfl
  have n_1 : Int32.toNatClampNeg (Int32.ofInt ((i + 1 : Nat) : Int)) = i + 1 := by rw [i_tn (by omega), Int.toNat_natCast]
  have G_1 : ¬ (Int32.ofInt ((i + 1 : Nat) : Int) < 0 ∨ Lg ≤ i + 1) := by have q : (Int32.ofInt ((i + 1 : Nat) : Int) < 0 ∨ Lg ≤ Int32.toNatClampNeg (Int32.ofInt ((i + 1 : Nat) : Int))) = False := i_gd (by omega); rw [n_1] at q; rw [q]; exact id
  have x_2 : Int32.ofInt (i : Int) + (2 : Int32) = Int32.ofInt ((i + 2 : Nat) : Int) := by rw [i_addl]; rfl
  have n_2 : Int32.toNatClampNeg (Int32.ofInt ((i + 2 : Nat) : Int)) = i + 2 := by rw [i_tn (by omega), Int.toNat_natCast]
  have G_2 : ¬ (Int32.ofInt ((i + 2 : Nat) : Int) < 0 ∨ Lg ≤ i + 2) := by have q : (Int32.ofInt ((i + 2 : Nat) : Int) < 0 ∨ Lg ≤ Int32.toNatClampNeg (Int32.ofInt ((i + 2 : Nat) : Int))) = False := i_gd (by omega); rw [n_2] at q; rw [q]; exact id
  have x_3 : Int32.ofInt (i : Int) + (3 : Int32) = Int32.ofInt ((i + 3 : Nat) : Int) := by rw [i_addl]; rfl
  have n_3 : Int32.toNatClampNeg (Int32.ofInt ((i + 3 : Nat) : Int)) = i + 3 := by rw [i_tn (by omega), Int.toNat_natCast]
  have G_3 : ¬ (Int32.ofInt ((i + 3 : Nat) : Int) < 0 ∨ Lg ≤ i + 3) := by have q : (Int32.ofInt ((i + 3 : Nat) : Int) < 0 ∨ Lg ≤ Int32.toNatClampNeg (Int32.ofInt ((i + 3 : Nat) : Int))) = False := i_gd (by omega); rw [n_3] at q; rw [q]; exact id
  have x_7 : Int32.ofInt (i : Int) + (7 : Int32) = Int32.ofInt ((i + 7 : Nat) : Int) := by rw [i_addl]; rfl
  obtain ⟨I1, j1, I2, j2, e1, e2, q0, S1, hR⟩ := s_get (x1 := (xs (i + 1))) (x2 := (xs (i + 2))) (x3 := (xs (i + 3))) h hn
  refine ⟨σ, I2, J, D, R, hR, ?_⟩
  unfold fL_law_b588
  simp only [x_1, n_1, if_pos G_1, x_2, n_2, if_pos G_2, x_3, n_3, if_pos G_3, x_7]
  rw [ob_some, if_pos (kq4 h.sk), eX11_get h.sk, e1, ob_some]
  dsimp only
  rw [ob_some, if_pos (kq114 S1), eX12_get S1, e2, ob_some]
  dsimp only
  rw [if_pos q0]
theorem B_632 {q18 : (Shp) → (Nat → Nat → Int32) → (Nat → Nat → Int64) → (Nat → Nat → UInt64) → (Nat → Nat → Option Nat) → (Option Nat) → (Option Nat) → (Int32) → (Option (Unit))} {xs : Nat → Int32} {Lg i : Nat} {n : Nat} {σ : Shp} {I : Nat → Nat → Int32} {J : Nat → Nat → Int64} {D : Nat → Nat → UInt64} {R : Nat → Nat → Option Nat} (h : Rel n σ I J D R) (hn : n < 512) (hi : i + 7 ≤ Lg) (hL : Lg ≤ 3584) : ∃ σ9 I9 J9 D9 R9, Rel (n + 1) σ9 I9 J9 D9 R9 ∧ fL_law_b632 q18 xs Lg σ I J D R (some 4) (some 114) (Int32.ofInt (i : Int)) = q18 σ9 I9 J9 D9 R9 (some 4) (some 114) (Int32.ofInt ((i + 7 : Nat) : Int)) := by
  have x_1 : Int32.ofInt (i : Int) + (1 : Int32) = Int32.ofInt ((i + 1 : Nat) : Int) := by rw [i_addl]; rfl
  have n_1 : Int32.toNatClampNeg (Int32.ofInt ((i + 1 : Nat) : Int)) = i + 1 := by rw [i_tn (by omega), Int.toNat_natCast]
  have G_1 : ¬ (Int32.ofInt ((i + 1 : Nat) : Int) < 0 ∨ Lg ≤ i + 1) := by have q : (Int32.ofInt ((i + 1 : Nat) : Int) < 0 ∨ Lg ≤ Int32.toNatClampNeg (Int32.ofInt ((i + 1 : Nat) : Int))) = False := i_gd (by omega); rw [n_1] at q; rw [q]; exact id
  have x_2 : Int32.ofInt (i : Int) + (2 : Int32) = Int32.ofInt ((i + 2 : Nat) : Int) := by rw [i_addl]; rfl
  have n_2 : Int32.toNatClampNeg (Int32.ofInt ((i + 2 : Nat) : Int)) = i + 2 := by rw [i_tn (by omega), Int.toNat_natCast]
  have G_2 : ¬ (Int32.ofInt ((i + 2 : Nat) : Int) < 0 ∨ Lg ≤ i + 2) := by have q : (Int32.ofInt ((i + 2 : Nat) : Int) < 0 ∨ Lg ≤ Int32.toNatClampNeg (Int32.ofInt ((i + 2 : Nat) : Int))) = False := i_gd (by omega); rw [n_2] at q; rw [q]; exact id
  have x_3 : Int32.ofInt (i : Int) + (3 : Int32) = Int32.ofInt ((i + 3 : Nat) : Int) := by rw [i_addl]; rfl
  have n_3 : Int32.toNatClampNeg (Int32.ofInt ((i + 3 : Nat) : Int)) = i + 3 := by rw [i_tn (by omega), Int.toNat_natCast]
  have G_3 : ¬ (Int32.ofInt ((i + 3 : Nat) : Int) < 0 ∨ Lg ≤ i + 3) := by have q : (Int32.ofInt ((i + 3 : Nat) : Int) < 0 ∨ Lg ≤ Int32.toNatClampNeg (Int32.ofInt ((i + 3 : Nat) : Int))) = False := i_gd (by omega); rw [n_3] at q; rw [q]; exact id
  have x_4 : Int32.ofInt (i : Int) + (4 : Int32) = Int32.ofInt ((i + 4 : Nat) : Int) := by rw [i_addl]; rfl
  have n_4 : Int32.toNatClampNeg (Int32.ofInt ((i + 4 : Nat) : Int)) = i + 4 := by rw [i_tn (by omega), Int.toNat_natCast]
  have G_4 : ¬ (Int32.ofInt ((i + 4 : Nat) : Int) < 0 ∨ Lg ≤ i + 4) := by have q : (Int32.ofInt ((i + 4 : Nat) : Int) < 0 ∨ Lg ≤ Int32.toNatClampNeg (Int32.ofInt ((i + 4 : Nat) : Int))) = False := i_gd (by omega); rw [n_4] at q; rw [q]; exact id
  have x_5 : Int32.ofInt (i : Int) + (5 : Int32) = Int32.ofInt ((i + 5 : Nat) : Int) := by rw [i_addl]; rfl
  have n_5 : Int32.toNatClampNeg (Int32.ofInt ((i + 5 : Nat) : Int)) = i + 5 := by rw [i_tn (by omega), Int.toNat_natCast]
  have G_5 : ¬ (Int32.ofInt ((i + 5 : Nat) : Int) < 0 ∨ Lg ≤ i + 5) := by have q : (Int32.ofInt ((i + 5 : Nat) : Int) < 0 ∨ Lg ≤ Int32.toNatClampNeg (Int32.ofInt ((i + 5 : Nat) : Int))) = False := i_gd (by omega); rw [n_5] at q; rw [q]; exact id
  have x_7 : Int32.ofInt (i : Int) + (7 : Int32) = Int32.ofInt ((i + 7 : Nat) : Int) := by rw [i_addl]; rfl
  obtain ⟨I1, J1, i1, I2, J2, i2, e1, e2, q0, S1, hR⟩ := s_put (x1 := (xs (i + 1))) (x2 := (xs (i + 2))) (x3 := (xs (i + 3))) (x4 := (((Int32.toInt64 (xs (i + 4))) <<< (Int32.toInt64 (32 : Int32) &&& 63)) ||| ((Int32.toInt64 (xs (i + 5))) &&& (4294967295 : Int64)))) h hn
  refine ⟨σ, I2, J2, D, R, hR, ?_⟩
  unfold fL_law_b632
  simp only [x_1, n_1, if_pos G_1, x_2, n_2, if_pos G_2, x_3, n_3, if_pos G_3, x_4, n_4, if_pos G_4, x_5, n_5, if_pos G_5, x_7]
  rw [ob_some, if_pos (kq4 h.sk), eX11_put h.sk, e1, ob_some]
  dsimp only
  rw [ob_some, if_pos (kq114 S1), eX12_put S1, e2, ob_some]
  dsimp only
  rw [if_pos q0]
theorem B_715 {q18 : (Shp) → (Nat → Nat → Int32) → (Nat → Nat → Int64) → (Nat → Nat → UInt64) → (Nat → Nat → Option Nat) → (Option Nat) → (Option Nat) → (Int32) → (Option (Unit))} {xs : Nat → Int32} {Lg i : Nat} {n : Nat} {σ : Shp} {I : Nat → Nat → Int32} {J : Nat → Nat → Int64} {D : Nat → Nat → UInt64} {R : Nat → Nat → Option Nat} (h : Rel n σ I J D R) (hn : n < 512) (hi : i + 7 ≤ Lg) (hL : Lg ≤ 3584) : ∃ σ9 I9 J9 D9 R9, Rel (n + 1) σ9 I9 J9 D9 R9 ∧ fL_law_b715 q18 xs Lg σ I J D R (some 4) (some 114) (Int32.ofInt (i : Int)) = q18 σ9 I9 J9 D9 R9 (some 4) (some 114) (Int32.ofInt ((i + 7 : Nat) : Int)) := by
  have x_1 : Int32.ofInt (i : Int) + (1 : Int32) = Int32.ofInt ((i + 1 : Nat) : Int) := by rw [i_addl]; rfl
  have n_1 : Int32.toNatClampNeg (Int32.ofInt ((i + 1 : Nat) : Int)) = i + 1 := by rw [i_tn (by omega), Int.toNat_natCast]
  have G_1 : ¬ (Int32.ofInt ((i + 1 : Nat) : Int) < 0 ∨ Lg ≤ i + 1) := by have q : (Int32.ofInt ((i + 1 : Nat) : Int) < 0 ∨ Lg ≤ Int32.toNatClampNeg (Int32.ofInt ((i + 1 : Nat) : Int))) = False := i_gd (by omega); rw [n_1] at q; rw [q]; exact id
  have x_2 : Int32.ofInt (i : Int) + (2 : Int32) = Int32.ofInt ((i + 2 : Nat) : Int) := by rw [i_addl]; rfl
  have n_2 : Int32.toNatClampNeg (Int32.ofInt ((i + 2 : Nat) : Int)) = i + 2 := by rw [i_tn (by omega), Int.toNat_natCast]
  have G_2 : ¬ (Int32.ofInt ((i + 2 : Nat) : Int) < 0 ∨ Lg ≤ i + 2) := by have q : (Int32.ofInt ((i + 2 : Nat) : Int) < 0 ∨ Lg ≤ Int32.toNatClampNeg (Int32.ofInt ((i + 2 : Nat) : Int))) = False := i_gd (by omega); rw [n_2] at q; rw [q]; exact id
  have x_3 : Int32.ofInt (i : Int) + (3 : Int32) = Int32.ofInt ((i + 3 : Nat) : Int) := by rw [i_addl]; rfl
  have n_3 : Int32.toNatClampNeg (Int32.ofInt ((i + 3 : Nat) : Int)) = i + 3 := by rw [i_tn (by omega), Int.toNat_natCast]
  have G_3 : ¬ (Int32.ofInt ((i + 3 : Nat) : Int) < 0 ∨ Lg ≤ i + 3) := by have q : (Int32.ofInt ((i + 3 : Nat) : Int) < 0 ∨ Lg ≤ Int32.toNatClampNeg (Int32.ofInt ((i + 3 : Nat) : Int))) = False := i_gd (by omega); rw [n_3] at q; rw [q]; exact id
  have x_4 : Int32.ofInt (i : Int) + (4 : Int32) = Int32.ofInt ((i + 4 : Nat) : Int) := by rw [i_addl]; rfl
  have n_4 : Int32.toNatClampNeg (Int32.ofInt ((i + 4 : Nat) : Int)) = i + 4 := by rw [i_tn (by omega), Int.toNat_natCast]
  have G_4 : ¬ (Int32.ofInt ((i + 4 : Nat) : Int) < 0 ∨ Lg ≤ i + 4) := by have q : (Int32.ofInt ((i + 4 : Nat) : Int) < 0 ∨ Lg ≤ Int32.toNatClampNeg (Int32.ofInt ((i + 4 : Nat) : Int))) = False := i_gd (by omega); rw [n_4] at q; rw [q]; exact id
  have x_7 : Int32.ofInt (i : Int) + (7 : Int32) = Int32.ofInt ((i + 7 : Nat) : Int) := by rw [i_addl]; rfl
  obtain ⟨I1, j1, I2, j2, e1, e2, q0, S1, hR⟩ := s_bed (x1 := (xs (i + 1))) (x2 := (xs (i + 2))) (x3 := (xs (i + 3))) (x4 := (xs (i + 4))) h hn
  refine ⟨σ, I2, J, D, R, hR, ?_⟩
  unfold fL_law_b715
  simp only [x_1, n_1, if_pos G_1, x_2, n_2, if_pos G_2, x_3, n_3, if_pos G_3, x_4, n_4, if_pos G_4, x_7]
  rw [ob_some, if_pos (kq4 h.sk), eX11_bed h.sk, e1, ob_some]
  dsimp only
  rw [ob_some, if_pos (kq114 S1), eX12_bed S1, e2, ob_some]
  dsimp only
  rw [if_pos q0]
theorem B_769 {q18 : (Shp) → (Nat → Nat → Int32) → (Nat → Nat → Int64) → (Nat → Nat → UInt64) → (Nat → Nat → Option Nat) → (Option Nat) → (Option Nat) → (Int32) → (Option (Unit))} {xs : Nat → Int32} {Lg i : Nat} {n : Nat} {σ : Shp} {I : Nat → Nat → Int32} {J : Nat → Nat → Int64} {D : Nat → Nat → UInt64} {R : Nat → Nat → Option Nat} (h : Rel n σ I J D R) (hn : n < 512) (hi : i + 7 ≤ Lg) (hL : Lg ≤ 3584) : ∃ σ9 I9 J9 D9 R9, Rel (n + 1) σ9 I9 J9 D9 R9 ∧ fL_law_b769 q18 xs Lg σ I J D R (some 4) (some 114) (Int32.ofInt (i : Int)) = q18 σ9 I9 J9 D9 R9 (some 4) (some 114) (Int32.ofInt ((i + 7 : Nat) : Int)) := by
  have x_1 : Int32.ofInt (i : Int) + (1 : Int32) = Int32.ofInt ((i + 1 : Nat) : Int) := by rw [i_addl]; rfl
  have n_1 : Int32.toNatClampNeg (Int32.ofInt ((i + 1 : Nat) : Int)) = i + 1 := by rw [i_tn (by omega), Int.toNat_natCast]
  have G_1 : ¬ (Int32.ofInt ((i + 1 : Nat) : Int) < 0 ∨ Lg ≤ i + 1) := by have q : (Int32.ofInt ((i + 1 : Nat) : Int) < 0 ∨ Lg ≤ Int32.toNatClampNeg (Int32.ofInt ((i + 1 : Nat) : Int))) = False := i_gd (by omega); rw [n_1] at q; rw [q]; exact id
  have x_2 : Int32.ofInt (i : Int) + (2 : Int32) = Int32.ofInt ((i + 2 : Nat) : Int) := by rw [i_addl]; rfl
  have n_2 : Int32.toNatClampNeg (Int32.ofInt ((i + 2 : Nat) : Int)) = i + 2 := by rw [i_tn (by omega), Int.toNat_natCast]
  have G_2 : ¬ (Int32.ofInt ((i + 2 : Nat) : Int) < 0 ∨ Lg ≤ i + 2) := by have q : (Int32.ofInt ((i + 2 : Nat) : Int) < 0 ∨ Lg ≤ Int32.toNatClampNeg (Int32.ofInt ((i + 2 : Nat) : Int))) = False := i_gd (by omega); rw [n_2] at q; rw [q]; exact id
  have x_3 : Int32.ofInt (i : Int) + (3 : Int32) = Int32.ofInt ((i + 3 : Nat) : Int) := by rw [i_addl]; rfl
  have n_3 : Int32.toNatClampNeg (Int32.ofInt ((i + 3 : Nat) : Int)) = i + 3 := by rw [i_tn (by omega), Int.toNat_natCast]
  have G_3 : ¬ (Int32.ofInt ((i + 3 : Nat) : Int) < 0 ∨ Lg ≤ i + 3) := by have q : (Int32.ofInt ((i + 3 : Nat) : Int) < 0 ∨ Lg ≤ Int32.toNatClampNeg (Int32.ofInt ((i + 3 : Nat) : Int))) = False := i_gd (by omega); rw [n_3] at q; rw [q]; exact id
  have x_4 : Int32.ofInt (i : Int) + (4 : Int32) = Int32.ofInt ((i + 4 : Nat) : Int) := by rw [i_addl]; rfl
  have n_4 : Int32.toNatClampNeg (Int32.ofInt ((i + 4 : Nat) : Int)) = i + 4 := by rw [i_tn (by omega), Int.toNat_natCast]
  have G_4 : ¬ (Int32.ofInt ((i + 4 : Nat) : Int) < 0 ∨ Lg ≤ i + 4) := by have q : (Int32.ofInt ((i + 4 : Nat) : Int) < 0 ∨ Lg ≤ Int32.toNatClampNeg (Int32.ofInt ((i + 4 : Nat) : Int))) = False := i_gd (by omega); rw [n_4] at q; rw [q]; exact id
  have x_5 : Int32.ofInt (i : Int) + (5 : Int32) = Int32.ofInt ((i + 5 : Nat) : Int) := by rw [i_addl]; rfl
  have n_5 : Int32.toNatClampNeg (Int32.ofInt ((i + 5 : Nat) : Int)) = i + 5 := by rw [i_tn (by omega), Int.toNat_natCast]
  have G_5 : ¬ (Int32.ofInt ((i + 5 : Nat) : Int) < 0 ∨ Lg ≤ i + 5) := by have q : (Int32.ofInt ((i + 5 : Nat) : Int) < 0 ∨ Lg ≤ Int32.toNatClampNeg (Int32.ofInt ((i + 5 : Nat) : Int))) = False := i_gd (by omega); rw [n_5] at q; rw [q]; exact id
  have x_6 : Int32.ofInt (i : Int) + (6 : Int32) = Int32.ofInt ((i + 6 : Nat) : Int) := by rw [i_addl]; rfl
  have n_6 : Int32.toNatClampNeg (Int32.ofInt ((i + 6 : Nat) : Int)) = i + 6 := by rw [i_tn (by omega), Int.toNat_natCast]
  have G_6 : ¬ (Int32.ofInt ((i + 6 : Nat) : Int) < 0 ∨ Lg ≤ i + 6) := by have q : (Int32.ofInt ((i + 6 : Nat) : Int) < 0 ∨ Lg ≤ Int32.toNatClampNeg (Int32.ofInt ((i + 6 : Nat) : Int))) = False := i_gd (by omega); rw [n_6] at q; rw [q]; exact id
  have x_7 : Int32.ofInt (i : Int) + (7 : Int32) = Int32.ofInt ((i + 7 : Nat) : Int) := by rw [i_addl]; rfl
  obtain ⟨I1, J1, i1, I2, J2, i2, e1, e2, q0, S1, hR⟩ := s_setBed (x1 := (xs (i + 1))) (x2 := (xs (i + 2))) (x3 := (xs (i + 3))) (x4 := (xs (i + 4))) (x5 := (((Int32.toInt64 (xs (i + 5))) <<< (Int32.toInt64 (32 : Int32) &&& 63)) ||| ((Int32.toInt64 (xs (i + 6))) &&& (4294967295 : Int64)))) h hn
  refine ⟨σ, I2, J2, D, R, hR, ?_⟩
  unfold fL_law_b769
  simp only [x_1, n_1, if_pos G_1, x_2, n_2, if_pos G_2, x_3, n_3, if_pos G_3, x_4, n_4, if_pos G_4, x_5, n_5, if_pos G_5, x_6, n_6, if_pos G_6, x_7]
  rw [ob_some, if_pos (kq4 h.sk), eX11_setBed h.sk, e1, ob_some]
  dsimp only
  rw [ob_some, if_pos (kq114 S1), eX12_setBed S1, e2, ob_some]
  dsimp only
  rw [if_pos q0]
theorem B_864 {q18 : (Shp) → (Nat → Nat → Int32) → (Nat → Nat → Int64) → (Nat → Nat → UInt64) → (Nat → Nat → Option Nat) → (Option Nat) → (Option Nat) → (Int32) → (Option (Unit))} {xs : Nat → Int32} {Lg i : Nat} {n : Nat} {σ : Shp} {I : Nat → Nat → Int32} {J : Nat → Nat → Int64} {D : Nat → Nat → UInt64} {R : Nat → Nat → Option Nat} (h : Rel n σ I J D R) (hn : n < 512) (hi : i + 7 ≤ Lg) (hL : Lg ≤ 3584) : ∃ σ9 I9 J9 D9 R9, Rel (n + 1) σ9 I9 J9 D9 R9 ∧ fL_law_b864 q18 xs Lg σ I J D R (some 4) (some 114) (Int32.ofInt (i : Int)) = q18 σ9 I9 J9 D9 R9 (some 4) (some 114) (Int32.ofInt ((i + 7 : Nat) : Int)) := by
  have x_1 : Int32.ofInt (i : Int) + (1 : Int32) = Int32.ofInt ((i + 1 : Nat) : Int) := by rw [i_addl]; rfl
  have n_1 : Int32.toNatClampNeg (Int32.ofInt ((i + 1 : Nat) : Int)) = i + 1 := by rw [i_tn (by omega), Int.toNat_natCast]
  have G_1 : ¬ (Int32.ofInt ((i + 1 : Nat) : Int) < 0 ∨ Lg ≤ i + 1) := by have q : (Int32.ofInt ((i + 1 : Nat) : Int) < 0 ∨ Lg ≤ Int32.toNatClampNeg (Int32.ofInt ((i + 1 : Nat) : Int))) = False := i_gd (by omega); rw [n_1] at q; rw [q]; exact id
  have x_2 : Int32.ofInt (i : Int) + (2 : Int32) = Int32.ofInt ((i + 2 : Nat) : Int) := by rw [i_addl]; rfl
  have n_2 : Int32.toNatClampNeg (Int32.ofInt ((i + 2 : Nat) : Int)) = i + 2 := by rw [i_tn (by omega), Int.toNat_natCast]
  have G_2 : ¬ (Int32.ofInt ((i + 2 : Nat) : Int) < 0 ∨ Lg ≤ i + 2) := by have q : (Int32.ofInt ((i + 2 : Nat) : Int) < 0 ∨ Lg ≤ Int32.toNatClampNeg (Int32.ofInt ((i + 2 : Nat) : Int))) = False := i_gd (by omega); rw [n_2] at q; rw [q]; exact id
  have x_3 : Int32.ofInt (i : Int) + (3 : Int32) = Int32.ofInt ((i + 3 : Nat) : Int) := by rw [i_addl]; rfl
  have n_3 : Int32.toNatClampNeg (Int32.ofInt ((i + 3 : Nat) : Int)) = i + 3 := by rw [i_tn (by omega), Int.toNat_natCast]
  have G_3 : ¬ (Int32.ofInt ((i + 3 : Nat) : Int) < 0 ∨ Lg ≤ i + 3) := by have q : (Int32.ofInt ((i + 3 : Nat) : Int) < 0 ∨ Lg ≤ Int32.toNatClampNeg (Int32.ofInt ((i + 3 : Nat) : Int))) = False := i_gd (by omega); rw [n_3] at q; rw [q]; exact id
  have x_4 : Int32.ofInt (i : Int) + (4 : Int32) = Int32.ofInt ((i + 4 : Nat) : Int) := by rw [i_addl]; rfl
  have n_4 : Int32.toNatClampNeg (Int32.ofInt ((i + 4 : Nat) : Int)) = i + 4 := by rw [i_tn (by omega), Int.toNat_natCast]
  have G_4 : ¬ (Int32.ofInt ((i + 4 : Nat) : Int) < 0 ∨ Lg ≤ i + 4) := by have q : (Int32.ofInt ((i + 4 : Nat) : Int) < 0 ∨ Lg ≤ Int32.toNatClampNeg (Int32.ofInt ((i + 4 : Nat) : Int))) = False := i_gd (by omega); rw [n_4] at q; rw [q]; exact id
  have x_5 : Int32.ofInt (i : Int) + (5 : Int32) = Int32.ofInt ((i + 5 : Nat) : Int) := by rw [i_addl]; rfl
  have n_5 : Int32.toNatClampNeg (Int32.ofInt ((i + 5 : Nat) : Int)) = i + 5 := by rw [i_tn (by omega), Int.toNat_natCast]
  have G_5 : ¬ (Int32.ofInt ((i + 5 : Nat) : Int) < 0 ∨ Lg ≤ i + 5) := by have q : (Int32.ofInt ((i + 5 : Nat) : Int) < 0 ∨ Lg ≤ Int32.toNatClampNeg (Int32.ofInt ((i + 5 : Nat) : Int))) = False := i_gd (by omega); rw [n_5] at q; rw [q]; exact id
  have x_7 : Int32.ofInt (i : Int) + (7 : Int32) = Int32.ofInt ((i + 7 : Nat) : Int) := by rw [i_addl]; rfl
  by_cases c : xs (i + 5) = 0
  · skip
    obtain ⟨I1, J1, i1, I2, J2, i2, e1, e2, q0, S1, hR⟩ := s_countUp (x1 := (xs (i + 1))) (x2 := (xs (i + 2))) (x3 := (xs (i + 3))) (x4 := (xs (i + 4))) (x5 := (0 : Int32)) h hn
    refine ⟨σ, I2, J2, D, R, hR, ?_⟩
    unfold fL_law_b864
    unfold fL_law_b898
    simp only [x_1, n_1, if_pos G_1, x_2, n_2, if_pos G_2, x_3, n_3, if_pos G_3, x_4, n_4, if_pos G_4, x_5, n_5, if_pos G_5, x_7, if_pos c]
    rw [ob_some, if_pos (kq4 h.sk), eX11_countUp h.sk, e1, ob_some]
    dsimp only
    rw [ob_some, if_pos (kq114 S1), eX12_countUp S1, e2, ob_some]
    dsimp only
    rw [if_pos q0]
  · skip
    obtain ⟨I1, J1, i1, I2, J2, i2, e1, e2, q0, S1, hR⟩ := s_countUp (x1 := (xs (i + 1))) (x2 := (xs (i + 2))) (x3 := (xs (i + 3))) (x4 := (xs (i + 4))) (x5 := (1 : Int32)) h hn
    refine ⟨σ, I2, J2, D, R, hR, ?_⟩
    unfold fL_law_b864
    unfold fL_law_b898
    simp only [x_1, n_1, if_pos G_1, x_2, n_2, if_pos G_2, x_3, n_3, if_pos G_3, x_4, n_4, if_pos G_4, x_5, n_5, if_pos G_5, x_7, if_neg c]
    rw [ob_some, if_pos (kq4 h.sk), eX11_countUp h.sk, e1, ob_some]
    dsimp only
    rw [ob_some, if_pos (kq114 S1), eX12_countUp S1, e2, ob_some]
    dsimp only
    rw [if_pos q0]
theorem B_943 {q18 : (Shp) → (Nat → Nat → Int32) → (Nat → Nat → Int64) → (Nat → Nat → UInt64) → (Nat → Nat → Option Nat) → (Option Nat) → (Option Nat) → (Int32) → (Option (Unit))} {xs : Nat → Int32} {Lg i : Nat} {n : Nat} {σ : Shp} {I : Nat → Nat → Int32} {J : Nat → Nat → Int64} {D : Nat → Nat → UInt64} {R : Nat → Nat → Option Nat} (h : Rel n σ I J D R) (hn : n < 512) (hi : i + 7 ≤ Lg) (hL : Lg ≤ 3584) : ∃ σ9 I9 J9 D9 R9, Rel (n + 1) σ9 I9 J9 D9 R9 ∧ fL_law_b943 q18 xs Lg σ I J D R (some 4) (some 114) (Int32.ofInt (i : Int)) = q18 σ9 I9 J9 D9 R9 (some 4) (some 114) (Int32.ofInt ((i + 7 : Nat) : Int)) := by
  have x_1 : Int32.ofInt (i : Int) + (1 : Int32) = Int32.ofInt ((i + 1 : Nat) : Int) := by rw [i_addl]; rfl
  have n_1 : Int32.toNatClampNeg (Int32.ofInt ((i + 1 : Nat) : Int)) = i + 1 := by rw [i_tn (by omega), Int.toNat_natCast]
  have G_1 : ¬ (Int32.ofInt ((i + 1 : Nat) : Int) < 0 ∨ Lg ≤ i + 1) := by have q : (Int32.ofInt ((i + 1 : Nat) : Int) < 0 ∨ Lg ≤ Int32.toNatClampNeg (Int32.ofInt ((i + 1 : Nat) : Int))) = False := i_gd (by omega); rw [n_1] at q; rw [q]; exact id
  have x_2 : Int32.ofInt (i : Int) + (2 : Int32) = Int32.ofInt ((i + 2 : Nat) : Int) := by rw [i_addl]; rfl
  have n_2 : Int32.toNatClampNeg (Int32.ofInt ((i + 2 : Nat) : Int)) = i + 2 := by rw [i_tn (by omega), Int.toNat_natCast]
  have G_2 : ¬ (Int32.ofInt ((i + 2 : Nat) : Int) < 0 ∨ Lg ≤ i + 2) := by have q : (Int32.ofInt ((i + 2 : Nat) : Int) < 0 ∨ Lg ≤ Int32.toNatClampNeg (Int32.ofInt ((i + 2 : Nat) : Int))) = False := i_gd (by omega); rw [n_2] at q; rw [q]; exact id
  have x_3 : Int32.ofInt (i : Int) + (3 : Int32) = Int32.ofInt ((i + 3 : Nat) : Int) := by rw [i_addl]; rfl
  have n_3 : Int32.toNatClampNeg (Int32.ofInt ((i + 3 : Nat) : Int)) = i + 3 := by rw [i_tn (by omega), Int.toNat_natCast]
  have G_3 : ¬ (Int32.ofInt ((i + 3 : Nat) : Int) < 0 ∨ Lg ≤ i + 3) := by have q : (Int32.ofInt ((i + 3 : Nat) : Int) < 0 ∨ Lg ≤ Int32.toNatClampNeg (Int32.ofInt ((i + 3 : Nat) : Int))) = False := i_gd (by omega); rw [n_3] at q; rw [q]; exact id
  have x_7 : Int32.ofInt (i : Int) + (7 : Int32) = Int32.ofInt ((i + 7 : Nat) : Int) := by rw [i_addl]; rfl
  obtain ⟨I1, R1, i1, I2, i2, e1, e2, q0, S1, hR⟩ := s_set (x1 := (xs (i + 1))) (x2 := (xs (i + 2))) (x3 := (xs (i + 3))) h hn
  refine ⟨σ, I2, J, D, R1, hR, ?_⟩
  unfold fL_law_b943
  simp only [x_1, n_1, if_pos G_1, x_2, n_2, if_pos G_2, x_3, n_3, if_pos G_3, x_7]
  rw [ob_some, if_pos (kq4 h.sk), eX11_set h.sk, e1, ob_some]
  dsimp only
  rw [ob_some, if_pos (kq114 S1), eX12_set S1, e2, ob_some]
  dsimp only
  rw [if_pos q0]
theorem B_986 {q18 : (Shp) → (Nat → Nat → Int32) → (Nat → Nat → Int64) → (Nat → Nat → UInt64) → (Nat → Nat → Option Nat) → (Option Nat) → (Option Nat) → (Int32) → (Option (Unit))} {xs : Nat → Int32} {Lg i : Nat} {n : Nat} {σ : Shp} {I : Nat → Nat → Int32} {J : Nat → Nat → Int64} {D : Nat → Nat → UInt64} {R : Nat → Nat → Option Nat} (h : Rel n σ I J D R) (hn : n < 512) (hi : i + 7 ≤ Lg) (hL : Lg ≤ 3584) : ∃ σ9 I9 J9 D9 R9, Rel (n + 1) σ9 I9 J9 D9 R9 ∧ fL_law_b986 q18 xs Lg σ I J D R (some 4) (some 114) (Int32.ofInt (i : Int)) = q18 σ9 I9 J9 D9 R9 (some 4) (some 114) (Int32.ofInt ((i + 7 : Nat) : Int)) := by
  have x_1 : Int32.ofInt (i : Int) + (1 : Int32) = Int32.ofInt ((i + 1 : Nat) : Int) := by rw [i_addl]; rfl
  have n_1 : Int32.toNatClampNeg (Int32.ofInt ((i + 1 : Nat) : Int)) = i + 1 := by rw [i_tn (by omega), Int.toNat_natCast]
  have G_1 : ¬ (Int32.ofInt ((i + 1 : Nat) : Int) < 0 ∨ Lg ≤ i + 1) := by have q : (Int32.ofInt ((i + 1 : Nat) : Int) < 0 ∨ Lg ≤ Int32.toNatClampNeg (Int32.ofInt ((i + 1 : Nat) : Int))) = False := i_gd (by omega); rw [n_1] at q; rw [q]; exact id
  have x_2 : Int32.ofInt (i : Int) + (2 : Int32) = Int32.ofInt ((i + 2 : Nat) : Int) := by rw [i_addl]; rfl
  have n_2 : Int32.toNatClampNeg (Int32.ofInt ((i + 2 : Nat) : Int)) = i + 2 := by rw [i_tn (by omega), Int.toNat_natCast]
  have G_2 : ¬ (Int32.ofInt ((i + 2 : Nat) : Int) < 0 ∨ Lg ≤ i + 2) := by have q : (Int32.ofInt ((i + 2 : Nat) : Int) < 0 ∨ Lg ≤ Int32.toNatClampNeg (Int32.ofInt ((i + 2 : Nat) : Int))) = False := i_gd (by omega); rw [n_2] at q; rw [q]; exact id
  have x_3 : Int32.ofInt (i : Int) + (3 : Int32) = Int32.ofInt ((i + 3 : Nat) : Int) := by rw [i_addl]; rfl
  have n_3 : Int32.toNatClampNeg (Int32.ofInt ((i + 3 : Nat) : Int)) = i + 3 := by rw [i_tn (by omega), Int.toNat_natCast]
  have G_3 : ¬ (Int32.ofInt ((i + 3 : Nat) : Int) < 0 ∨ Lg ≤ i + 3) := by have q : (Int32.ofInt ((i + 3 : Nat) : Int) < 0 ∨ Lg ≤ Int32.toNatClampNeg (Int32.ofInt ((i + 3 : Nat) : Int))) = False := i_gd (by omega); rw [n_3] at q; rw [q]; exact id
  have x_7 : Int32.ofInt (i : Int) + (7 : Int32) = Int32.ofInt ((i + 7 : Nat) : Int) := by rw [i_addl]; rfl
  obtain ⟨I1, R1, i1, I2, i2, e1, e2, q0, S1, hR⟩ := s_lift (x1 := (xs (i + 1))) (x2 := (xs (i + 2))) (x3 := (xs (i + 3))) h hn
  refine ⟨σ, I2, J, D, R1, hR, ?_⟩
  unfold fL_law_b986
  simp only [x_1, n_1, if_pos G_1, x_2, n_2, if_pos G_2, x_3, n_3, if_pos G_3, x_7]
  rw [ob_some, if_pos (kq4 h.sk), eX11_lift h.sk, e1, ob_some]
  dsimp only
  rw [ob_some, if_pos (kq114 S1), eX12_lift S1, e2, ob_some]
  dsimp only
  rw [if_pos q0]
theorem B_1029 {q18 : (Shp) → (Nat → Nat → Int32) → (Nat → Nat → Int64) → (Nat → Nat → UInt64) → (Nat → Nat → Option Nat) → (Option Nat) → (Option Nat) → (Int32) → (Option (Unit))} {xs : Nat → Int32} {Lg i : Nat} {n : Nat} {σ : Shp} {I : Nat → Nat → Int32} {J : Nat → Nat → Int64} {D : Nat → Nat → UInt64} {R : Nat → Nat → Option Nat} (h : Rel n σ I J D R) (hn : n < 512) (hi : i + 7 ≤ Lg) (hL : Lg ≤ 3584) : ∃ σ9 I9 J9 D9 R9, Rel (n + 1) σ9 I9 J9 D9 R9 ∧ fL_law_b1029 q18 xs Lg σ I J D R (some 4) (some 114) (Int32.ofInt (i : Int)) = q18 σ9 I9 J9 D9 R9 (some 4) (some 114) (Int32.ofInt ((i + 7 : Nat) : Int)) := by
  have x_1 : Int32.ofInt (i : Int) + (1 : Int32) = Int32.ofInt ((i + 1 : Nat) : Int) := by rw [i_addl]; rfl
  have n_1 : Int32.toNatClampNeg (Int32.ofInt ((i + 1 : Nat) : Int)) = i + 1 := by rw [i_tn (by omega), Int.toNat_natCast]
  have G_1 : ¬ (Int32.ofInt ((i + 1 : Nat) : Int) < 0 ∨ Lg ≤ i + 1) := by have q : (Int32.ofInt ((i + 1 : Nat) : Int) < 0 ∨ Lg ≤ Int32.toNatClampNeg (Int32.ofInt ((i + 1 : Nat) : Int))) = False := i_gd (by omega); rw [n_1] at q; rw [q]; exact id
  have x_2 : Int32.ofInt (i : Int) + (2 : Int32) = Int32.ofInt ((i + 2 : Nat) : Int) := by rw [i_addl]; rfl
  have n_2 : Int32.toNatClampNeg (Int32.ofInt ((i + 2 : Nat) : Int)) = i + 2 := by rw [i_tn (by omega), Int.toNat_natCast]
  have G_2 : ¬ (Int32.ofInt ((i + 2 : Nat) : Int) < 0 ∨ Lg ≤ i + 2) := by have q : (Int32.ofInt ((i + 2 : Nat) : Int) < 0 ∨ Lg ≤ Int32.toNatClampNeg (Int32.ofInt ((i + 2 : Nat) : Int))) = False := i_gd (by omega); rw [n_2] at q; rw [q]; exact id
  have x_3 : Int32.ofInt (i : Int) + (3 : Int32) = Int32.ofInt ((i + 3 : Nat) : Int) := by rw [i_addl]; rfl
  have n_3 : Int32.toNatClampNeg (Int32.ofInt ((i + 3 : Nat) : Int)) = i + 3 := by rw [i_tn (by omega), Int.toNat_natCast]
  have G_3 : ¬ (Int32.ofInt ((i + 3 : Nat) : Int) < 0 ∨ Lg ≤ i + 3) := by have q : (Int32.ofInt ((i + 3 : Nat) : Int) < 0 ∨ Lg ≤ Int32.toNatClampNeg (Int32.ofInt ((i + 3 : Nat) : Int))) = False := i_gd (by omega); rw [n_3] at q; rw [q]; exact id
  have x_4 : Int32.ofInt (i : Int) + (4 : Int32) = Int32.ofInt ((i + 4 : Nat) : Int) := by rw [i_addl]; rfl
  have n_4 : Int32.toNatClampNeg (Int32.ofInt ((i + 4 : Nat) : Int)) = i + 4 := by rw [i_tn (by omega), Int.toNat_natCast]
  have G_4 : ¬ (Int32.ofInt ((i + 4 : Nat) : Int) < 0 ∨ Lg ≤ i + 4) := by have q : (Int32.ofInt ((i + 4 : Nat) : Int) < 0 ∨ Lg ≤ Int32.toNatClampNeg (Int32.ofInt ((i + 4 : Nat) : Int))) = False := i_gd (by omega); rw [n_4] at q; rw [q]; exact id
  have x_7 : Int32.ofInt (i : Int) + (7 : Int32) = Int32.ofInt ((i + 7 : Nat) : Int) := by rw [i_addl]; rfl
  obtain ⟨I1, R1, i1, I2, i2, e1, e2, q0, S1, hR⟩ := s_liftAs (x1 := (xs (i + 1))) (x2 := (xs (i + 2))) (x3 := (xs (i + 3))) (x4 := (xs (i + 4))) h hn
  refine ⟨σ, I2, J, D, R1, hR, ?_⟩
  unfold fL_law_b1029
  simp only [x_1, n_1, if_pos G_1, x_2, n_2, if_pos G_2, x_3, n_3, if_pos G_3, x_4, n_4, if_pos G_4, x_7]
  rw [ob_some, if_pos (kq4 h.sk), eX11_liftAs h.sk, e1, ob_some]
  dsimp only
  rw [ob_some, if_pos (kq114 S1), eX12_liftAs S1, e2, ob_some]
  dsimp only
  rw [if_pos q0]
theorem B_1082 {q18 : (Shp) → (Nat → Nat → Int32) → (Nat → Nat → Int64) → (Nat → Nat → UInt64) → (Nat → Nat → Option Nat) → (Option Nat) → (Option Nat) → (Int32) → (Option (Unit))} {xs : Nat → Int32} {Lg i : Nat} {n : Nat} {σ : Shp} {I : Nat → Nat → Int32} {J : Nat → Nat → Int64} {D : Nat → Nat → UInt64} {R : Nat → Nat → Option Nat} (h : Rel n σ I J D R) (hn : n < 512) (hi : i + 7 ≤ Lg) (hL : Lg ≤ 3584) : ∃ σ9 I9 J9 D9 R9, Rel (n + 1) σ9 I9 J9 D9 R9 ∧ fL_law_b1082 q18 xs Lg σ I J D R (some 4) (some 114) (Int32.ofInt (i : Int)) = q18 σ9 I9 J9 D9 R9 (some 4) (some 114) (Int32.ofInt ((i + 7 : Nat) : Int)) := by
  have x_1 : Int32.ofInt (i : Int) + (1 : Int32) = Int32.ofInt ((i + 1 : Nat) : Int) := by rw [i_addl]; rfl
  have n_1 : Int32.toNatClampNeg (Int32.ofInt ((i + 1 : Nat) : Int)) = i + 1 := by rw [i_tn (by omega), Int.toNat_natCast]
  have G_1 : ¬ (Int32.ofInt ((i + 1 : Nat) : Int) < 0 ∨ Lg ≤ i + 1) := by have q : (Int32.ofInt ((i + 1 : Nat) : Int) < 0 ∨ Lg ≤ Int32.toNatClampNeg (Int32.ofInt ((i + 1 : Nat) : Int))) = False := i_gd (by omega); rw [n_1] at q; rw [q]; exact id
  have x_2 : Int32.ofInt (i : Int) + (2 : Int32) = Int32.ofInt ((i + 2 : Nat) : Int) := by rw [i_addl]; rfl
  have n_2 : Int32.toNatClampNeg (Int32.ofInt ((i + 2 : Nat) : Int)) = i + 2 := by rw [i_tn (by omega), Int.toNat_natCast]
  have G_2 : ¬ (Int32.ofInt ((i + 2 : Nat) : Int) < 0 ∨ Lg ≤ i + 2) := by have q : (Int32.ofInt ((i + 2 : Nat) : Int) < 0 ∨ Lg ≤ Int32.toNatClampNeg (Int32.ofInt ((i + 2 : Nat) : Int))) = False := i_gd (by omega); rw [n_2] at q; rw [q]; exact id
  have x_3 : Int32.ofInt (i : Int) + (3 : Int32) = Int32.ofInt ((i + 3 : Nat) : Int) := by rw [i_addl]; rfl
  have n_3 : Int32.toNatClampNeg (Int32.ofInt ((i + 3 : Nat) : Int)) = i + 3 := by rw [i_tn (by omega), Int.toNat_natCast]
  have G_3 : ¬ (Int32.ofInt ((i + 3 : Nat) : Int) < 0 ∨ Lg ≤ i + 3) := by have q : (Int32.ofInt ((i + 3 : Nat) : Int) < 0 ∨ Lg ≤ Int32.toNatClampNeg (Int32.ofInt ((i + 3 : Nat) : Int))) = False := i_gd (by omega); rw [n_3] at q; rw [q]; exact id
  have x_4 : Int32.ofInt (i : Int) + (4 : Int32) = Int32.ofInt ((i + 4 : Nat) : Int) := by rw [i_addl]; rfl
  have n_4 : Int32.toNatClampNeg (Int32.ofInt ((i + 4 : Nat) : Int)) = i + 4 := by rw [i_tn (by omega), Int.toNat_natCast]
  have G_4 : ¬ (Int32.ofInt ((i + 4 : Nat) : Int) < 0 ∨ Lg ≤ i + 4) := by have q : (Int32.ofInt ((i + 4 : Nat) : Int) < 0 ∨ Lg ≤ Int32.toNatClampNeg (Int32.ofInt ((i + 4 : Nat) : Int))) = False := i_gd (by omega); rw [n_4] at q; rw [q]; exact id
  have x_5 : Int32.ofInt (i : Int) + (5 : Int32) = Int32.ofInt ((i + 5 : Nat) : Int) := by rw [i_addl]; rfl
  have n_5 : Int32.toNatClampNeg (Int32.ofInt ((i + 5 : Nat) : Int)) = i + 5 := by rw [i_tn (by omega), Int.toNat_natCast]
  have G_5 : ¬ (Int32.ofInt ((i + 5 : Nat) : Int) < 0 ∨ Lg ≤ i + 5) := by have q : (Int32.ofInt ((i + 5 : Nat) : Int) < 0 ∨ Lg ≤ Int32.toNatClampNeg (Int32.ofInt ((i + 5 : Nat) : Int))) = False := i_gd (by omega); rw [n_5] at q; rw [q]; exact id
  have x_7 : Int32.ofInt (i : Int) + (7 : Int32) = Int32.ofInt ((i + 7 : Nat) : Int) := by rw [i_addl]; rfl
  obtain ⟨I1, J1, R1, i1, I2, J2, i2, e1, e2, q0, S1, hR⟩ := s_shift (x1 := (xs (i + 1))) (x2 := (xs (i + 2))) (x3 := (xs (i + 3))) (x4 := (xs (i + 4))) (x5 := (xs (i + 5))) h hn
  refine ⟨σ, I2, J2, D, R1, hR, ?_⟩
  unfold fL_law_b1082
  simp only [x_1, n_1, if_pos G_1, x_2, n_2, if_pos G_2, x_3, n_3, if_pos G_3, x_4, n_4, if_pos G_4, x_5, n_5, if_pos G_5, x_7]
  rw [ob_some, if_pos (kq4 h.sk), eX11_shift h.sk, e1, ob_some]
  dsimp only
  rw [ob_some, if_pos (kq114 S1), eX12_shift S1, e2, ob_some]
  dsimp only
  rw [if_pos q0]
theorem B_1145 {q18 : (Shp) → (Nat → Nat → Int32) → (Nat → Nat → Int64) → (Nat → Nat → UInt64) → (Nat → Nat → Option Nat) → (Option Nat) → (Option Nat) → (Int32) → (Option (Unit))} {xs : Nat → Int32} {Lg i : Nat} {n : Nat} {σ : Shp} {I : Nat → Nat → Int32} {J : Nat → Nat → Int64} {D : Nat → Nat → UInt64} {R : Nat → Nat → Option Nat} (h : Rel n σ I J D R) (hn : n < 512) (hi : i + 7 ≤ Lg) (hL : Lg ≤ 3584) : ∃ σ9 I9 J9 D9 R9, Rel (n + 1) σ9 I9 J9 D9 R9 ∧ fL_law_b1145 q18 xs Lg σ I J D R (some 4) (some 114) (Int32.ofInt (i : Int)) = q18 σ9 I9 J9 D9 R9 (some 4) (some 114) (Int32.ofInt ((i + 7 : Nat) : Int)) := by
  have x_7 : Int32.ofInt (i : Int) + (7 : Int32) = Int32.ofInt ((i + 7 : Nat) : Int) := by rw [i_addl]; rfl
  obtain ⟨i1, i2, e1, e2, q0, S1, hR⟩ := s_came  h hn
  refine ⟨σ, I, J, D, R, hR, ?_⟩
  unfold fL_law_b1145
  simp only [x_7]
  rw [ob_some, if_pos (kq4 h.sk), eX11_came h.sk, e1, ob_some]
  rw [ob_some, if_pos (kq114 S1), eX12_came S1, e2, ob_some]
  rw [if_pos q0]
theorem B_1158 {q18 : (Shp) → (Nat → Nat → Int32) → (Nat → Nat → Int64) → (Nat → Nat → UInt64) → (Nat → Nat → Option Nat) → (Option Nat) → (Option Nat) → (Int32) → (Option (Unit))} {xs : Nat → Int32} {Lg i : Nat} {n : Nat} {σ : Shp} {I : Nat → Nat → Int32} {J : Nat → Nat → Int64} {D : Nat → Nat → UInt64} {R : Nat → Nat → Option Nat} (h : Rel n σ I J D R) (hn : n < 512) (hi : i + 7 ≤ Lg) (hL : Lg ≤ 3584) : ∃ σ9 I9 J9 D9 R9, Rel (n + 1) σ9 I9 J9 D9 R9 ∧ fL_law_b1158 q18 xs Lg σ I J D R (some 4) (some 114) (Int32.ofInt (i : Int)) = q18 σ9 I9 J9 D9 R9 (some 4) (some 114) (Int32.ofInt ((i + 7 : Nat) : Int)) := by
  have x_1 : Int32.ofInt (i : Int) + (1 : Int32) = Int32.ofInt ((i + 1 : Nat) : Int) := by rw [i_addl]; rfl
  have n_1 : Int32.toNatClampNeg (Int32.ofInt ((i + 1 : Nat) : Int)) = i + 1 := by rw [i_tn (by omega), Int.toNat_natCast]
  have G_1 : ¬ (Int32.ofInt ((i + 1 : Nat) : Int) < 0 ∨ Lg ≤ i + 1) := by have q : (Int32.ofInt ((i + 1 : Nat) : Int) < 0 ∨ Lg ≤ Int32.toNatClampNeg (Int32.ofInt ((i + 1 : Nat) : Int))) = False := i_gd (by omega); rw [n_1] at q; rw [q]; exact id
  have x_2 : Int32.ofInt (i : Int) + (2 : Int32) = Int32.ofInt ((i + 2 : Nat) : Int) := by rw [i_addl]; rfl
  have n_2 : Int32.toNatClampNeg (Int32.ofInt ((i + 2 : Nat) : Int)) = i + 2 := by rw [i_tn (by omega), Int.toNat_natCast]
  have G_2 : ¬ (Int32.ofInt ((i + 2 : Nat) : Int) < 0 ∨ Lg ≤ i + 2) := by have q : (Int32.ofInt ((i + 2 : Nat) : Int) < 0 ∨ Lg ≤ Int32.toNatClampNeg (Int32.ofInt ((i + 2 : Nat) : Int))) = False := i_gd (by omega); rw [n_2] at q; rw [q]; exact id
  have x_3 : Int32.ofInt (i : Int) + (3 : Int32) = Int32.ofInt ((i + 3 : Nat) : Int) := by rw [i_addl]; rfl
  have n_3 : Int32.toNatClampNeg (Int32.ofInt ((i + 3 : Nat) : Int)) = i + 3 := by rw [i_tn (by omega), Int.toNat_natCast]
  have G_3 : ¬ (Int32.ofInt ((i + 3 : Nat) : Int) < 0 ∨ Lg ≤ i + 3) := by have q : (Int32.ofInt ((i + 3 : Nat) : Int) < 0 ∨ Lg ≤ Int32.toNatClampNeg (Int32.ofInt ((i + 3 : Nat) : Int))) = False := i_gd (by omega); rw [n_3] at q; rw [q]; exact id
  have x_7 : Int32.ofInt (i : Int) + (7 : Int32) = Int32.ofInt ((i + 7 : Nat) : Int) := by rw [i_addl]; rfl
  by_cases c : xs (i + 3) = 0
  · skip
    obtain ⟨σ1, I1, J1, R1, i1, I2, J2, i2, e1, e2, q0, S1, hR⟩ := s_copy (x1 := (xs (i + 1))) (x2 := (xs (i + 2))) (x3 := (0 : Int32)) h hn
    refine ⟨σ1, I2, J2, D, R1, hR, ?_⟩
    have r0 := hR.rn
    have r1 := hR.rs
    have rm : nxx σ1 ≤ 600000 ∧ slx σ1 ≤ 7300000 := by omega
    unfold fL_law_b1158
    simp only [x_1, n_1, if_pos G_1, x_2, n_2, if_pos G_2, x_3, n_3, if_pos G_3, x_7, if_pos c]
    rw [ob_some, if_pos (kq4 h.sk), eX11_copy h.sk, e1, ob_some]
    dsimp only
    rw [if_pos rm]
    rw [ob_some, if_pos (kq114 S1), eX12_copy S1, e2, ob_some]
    dsimp only
    rw [if_pos q0]
  · skip
    obtain ⟨σ1, I1, J1, R1, i1, I2, J2, i2, e1, e2, q0, S1, hR⟩ := s_copy (x1 := (xs (i + 1))) (x2 := (xs (i + 2))) (x3 := (1 : Int32)) h hn
    refine ⟨σ1, I2, J2, D, R1, hR, ?_⟩
    have r0 := hR.rn
    have r1 := hR.rs
    have rm : nxx σ1 ≤ 600000 ∧ slx σ1 ≤ 7300000 := by omega
    unfold fL_law_b1158
    simp only [x_1, n_1, if_pos G_1, x_2, n_2, if_pos G_2, x_3, n_3, if_pos G_3, x_7, if_neg c]
    rw [ob_some, if_pos (kq4 h.sk), eX11_copy h.sk, e1, ob_some]
    dsimp only
    rw [if_pos rm]
    rw [ob_some, if_pos (kq114 S1), eX12_copy S1, e2, ob_some]
    dsimp only
    rw [if_pos q0]
theorem B_1217 {q18 : (Shp) → (Nat → Nat → Int32) → (Nat → Nat → Int64) → (Nat → Nat → UInt64) → (Nat → Nat → Option Nat) → (Option Nat) → (Option Nat) → (Int32) → (Option (Unit))} {xs : Nat → Int32} {Lg i : Nat} {n : Nat} {σ : Shp} {I : Nat → Nat → Int32} {J : Nat → Nat → Int64} {D : Nat → Nat → UInt64} {R : Nat → Nat → Option Nat} (h : Rel n σ I J D R) (hn : n < 512) (hi : i + 7 ≤ Lg) (hL : Lg ≤ 3584) : ∃ σ9 I9 J9 D9 R9, Rel (n + 1) σ9 I9 J9 D9 R9 ∧ fL_law_b1217 q18 xs Lg σ I J D R (some 4) (some 114) (Int32.ofInt (i : Int)) = q18 σ9 I9 J9 D9 R9 (some 4) (some 114) (Int32.ofInt ((i + 7 : Nat) : Int)) := by
  have x_1 : Int32.ofInt (i : Int) + (1 : Int32) = Int32.ofInt ((i + 1 : Nat) : Int) := by rw [i_addl]; rfl
  have n_1 : Int32.toNatClampNeg (Int32.ofInt ((i + 1 : Nat) : Int)) = i + 1 := by rw [i_tn (by omega), Int.toNat_natCast]
  have G_1 : ¬ (Int32.ofInt ((i + 1 : Nat) : Int) < 0 ∨ Lg ≤ i + 1) := by have q : (Int32.ofInt ((i + 1 : Nat) : Int) < 0 ∨ Lg ≤ Int32.toNatClampNeg (Int32.ofInt ((i + 1 : Nat) : Int))) = False := i_gd (by omega); rw [n_1] at q; rw [q]; exact id
  have x_2 : Int32.ofInt (i : Int) + (2 : Int32) = Int32.ofInt ((i + 2 : Nat) : Int) := by rw [i_addl]; rfl
  have n_2 : Int32.toNatClampNeg (Int32.ofInt ((i + 2 : Nat) : Int)) = i + 2 := by rw [i_tn (by omega), Int.toNat_natCast]
  have G_2 : ¬ (Int32.ofInt ((i + 2 : Nat) : Int) < 0 ∨ Lg ≤ i + 2) := by have q : (Int32.ofInt ((i + 2 : Nat) : Int) < 0 ∨ Lg ≤ Int32.toNatClampNeg (Int32.ofInt ((i + 2 : Nat) : Int))) = False := i_gd (by omega); rw [n_2] at q; rw [q]; exact id
  have x_7 : Int32.ofInt (i : Int) + (7 : Int32) = Int32.ofInt ((i + 7 : Nat) : Int) := by rw [i_addl]; rfl
  obtain ⟨i1, i2, e1, e2, q0, S1, hR⟩ := s_alike (x1 := (xs (i + 1))) (x2 := (xs (i + 2))) h hn
  refine ⟨σ, I, J, D, R, hR, ?_⟩
  unfold fL_law_b1217
  simp only [x_1, n_1, if_pos G_1, x_2, n_2, if_pos G_2, x_7]
  rw [ob_some, if_pos (kq4 h.sk), eX11_alike h.sk, e1, ob_some]
  rw [ob_some, if_pos (kq114 S1), eX12_alike S1, e2, ob_some]
  rw [if_pos q0]
theorem B_1250 {q18 : (Shp) → (Nat → Nat → Int32) → (Nat → Nat → Int64) → (Nat → Nat → UInt64) → (Nat → Nat → Option Nat) → (Option Nat) → (Option Nat) → (Int32) → (Option (Unit))} {xs : Nat → Int32} {Lg i : Nat} {n : Nat} {σ : Shp} {I : Nat → Nat → Int32} {J : Nat → Nat → Int64} {D : Nat → Nat → UInt64} {R : Nat → Nat → Option Nat} (h : Rel n σ I J D R) (hn : n < 512) (hi : i + 7 ≤ Lg) (hL : Lg ≤ 3584) : ∃ σ9 I9 J9 D9 R9, Rel (n + 1) σ9 I9 J9 D9 R9 ∧ fL_law_b1250 q18 xs Lg σ I J D R (some 4) (some 114) (Int32.ofInt (i : Int)) = q18 σ9 I9 J9 D9 R9 (some 4) (some 114) (Int32.ofInt ((i + 7 : Nat) : Int)) := by
  have x_1 : Int32.ofInt (i : Int) + (1 : Int32) = Int32.ofInt ((i + 1 : Nat) : Int) := by rw [i_addl]; rfl
  have n_1 : Int32.toNatClampNeg (Int32.ofInt ((i + 1 : Nat) : Int)) = i + 1 := by rw [i_tn (by omega), Int.toNat_natCast]
  have G_1 : ¬ (Int32.ofInt ((i + 1 : Nat) : Int) < 0 ∨ Lg ≤ i + 1) := by have q : (Int32.ofInt ((i + 1 : Nat) : Int) < 0 ∨ Lg ≤ Int32.toNatClampNeg (Int32.ofInt ((i + 1 : Nat) : Int))) = False := i_gd (by omega); rw [n_1] at q; rw [q]; exact id
  have x_2 : Int32.ofInt (i : Int) + (2 : Int32) = Int32.ofInt ((i + 2 : Nat) : Int) := by rw [i_addl]; rfl
  have n_2 : Int32.toNatClampNeg (Int32.ofInt ((i + 2 : Nat) : Int)) = i + 2 := by rw [i_tn (by omega), Int.toNat_natCast]
  have G_2 : ¬ (Int32.ofInt ((i + 2 : Nat) : Int) < 0 ∨ Lg ≤ i + 2) := by have q : (Int32.ofInt ((i + 2 : Nat) : Int) < 0 ∨ Lg ≤ Int32.toNatClampNeg (Int32.ofInt ((i + 2 : Nat) : Int))) = False := i_gd (by omega); rw [n_2] at q; rw [q]; exact id
  have x_7 : Int32.ofInt (i : Int) + (7 : Int32) = Int32.ofInt ((i + 7 : Nat) : Int) := by rw [i_addl]; rfl
  obtain ⟨I1, i1, I2, i2, e1, e2, q0, S1, hR⟩ := s_size (x1 := (xs (i + 1))) (x2 := (xs (i + 2))) h hn
  refine ⟨σ, I2, J, D, R, hR, ?_⟩
  unfold fL_law_b1250
  simp only [x_1, n_1, if_pos G_1, x_2, n_2, if_pos G_2, x_7]
  rw [ob_some, if_pos (kq4 h.sk), eX11_size h.sk, e1, ob_some]
  dsimp only
  rw [ob_some, if_pos (kq114 S1), eX12_size S1, e2, ob_some]
  dsimp only
  rw [if_pos q0]
