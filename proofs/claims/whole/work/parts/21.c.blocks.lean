/-! ===== the law's blocks ===== -/
theorem B_1994 {q18 : (Shp) → (Nat → Nat → Int32) → (Nat → Nat → Int64) → (Nat → Nat → UInt64) → (Nat → Nat → Option Nat) → (Option Nat) → (Option Nat) → (Int32) → (Option (Unit))} {xs : Nat → Int32} {Lg i : Nat} {n : Nat} {σ : Shp} {I : Nat → Nat → Int32} {J : Nat → Nat → Int64} {D : Nat → Nat → UInt64} {R : Nat → Nat → Option Nat} (h : Rel n σ I J D R) (hn : n < 512) (hi : i + 7 ≤ Lg) (hL : Lg ≤ 3584) : ∃ σ9 I9 J9 D9 R9, Rel (n + 1) σ9 I9 J9 D9 R9 ∧ fL_law_b1994 q18 xs Lg σ I J D R (some 4) (some 114) (Int32.ofInt (i : Int)) = q18 σ9 I9 J9 D9 R9 (some 4) (some 114) (Int32.ofInt ((i + 7 : Nat) : Int)) := by
  have x_1 : Int32.ofInt (i : Int) + (1 : Int32) = Int32.ofInt ((i + 1 : Nat) : Int) := by rw [i_addl]; rfl
  have n_1 : Int32.toNatClampNeg (Int32.ofInt ((i + 1 : Nat) : Int)) = i + 1 := by rw [i_tn (by omega), Int.toNat_natCast]
  have G_1 : ¬ (Int32.ofInt ((i + 1 : Nat) : Int) < 0 ∨ Lg ≤ i + 1) := by have q : (Int32.ofInt ((i + 1 : Nat) : Int) < 0 ∨ Lg ≤ Int32.toNatClampNeg (Int32.ofInt ((i + 1 : Nat) : Int))) = False := i_gd (by omega); rw [n_1] at q; rw [q]; exact id
  have x_2 : Int32.ofInt (i : Int) + (2 : Int32) = Int32.ofInt ((i + 2 : Nat) : Int) := by rw [i_addl]; rfl
  have n_2 : Int32.toNatClampNeg (Int32.ofInt ((i + 2 : Nat) : Int)) = i + 2 := by rw [i_tn (by omega), Int.toNat_natCast]
  have G_2 : ¬ (Int32.ofInt ((i + 2 : Nat) : Int) < 0 ∨ Lg ≤ i + 2) := by have q : (Int32.ofInt ((i + 2 : Nat) : Int) < 0 ∨ Lg ≤ Int32.toNatClampNeg (Int32.ofInt ((i + 2 : Nat) : Int))) = False := i_gd (by omega); rw [n_2] at q; rw [q]; exact id
  have x_3 : Int32.ofInt (i : Int) + (3 : Int32) = Int32.ofInt ((i + 3 : Nat) : Int) := by rw [i_addl]; rfl
  have n_3 : Int32.toNatClampNeg (Int32.ofInt ((i + 3 : Nat) : Int)) = i + 3 := by rw [i_tn (by omega), Int.toNat_natCast]
  have G_3 : ¬ (Int32.ofInt ((i + 3 : Nat) : Int) < 0 ∨ Lg ≤ i + 3) := by have q : (Int32.ofInt ((i + 3 : Nat) : Int) < 0 ∨ Lg ≤ Int32.toNatClampNeg (Int32.ofInt ((i + 3 : Nat) : Int))) = False := i_gd (by omega); rw [n_3] at q; rw [q]; exact id
  have x_7 : Int32.ofInt (i : Int) + (7 : Int32) = Int32.ofInt ((i + 7 : Nat) : Int) := by rw [i_addl]; rfl
  obtain ⟨I1, i1, I2, i2, e1, e2, q0, S1, hR⟩ := s_line (x1 := (xs (i + 1))) (x2 := (xs (i + 2))) (x3 := (xs (i + 3))) h hn
  refine ⟨σ, I2, J, D, R, hR, ?_⟩
  unfold fL_law_b1994
  simp only [x_1, n_1, if_pos G_1, x_2, n_2, if_pos G_2, x_3, n_3, if_pos G_3, x_7]
  rw [ob_some, if_pos (kq4 h.sk), eX11_line h.sk, e1, ob_some]
  dsimp only
  rw [ob_some, if_pos (kq114 S1), eX12_line S1, e2, ob_some]
  dsimp only
  rw [if_pos q0]
theorem B_2037 {q18 : (Shp) → (Nat → Nat → Int32) → (Nat → Nat → Int64) → (Nat → Nat → UInt64) → (Nat → Nat → Option Nat) → (Option Nat) → (Option Nat) → (Int32) → (Option (Unit))} {xs : Nat → Int32} {Lg i : Nat} {n : Nat} {σ : Shp} {I : Nat → Nat → Int32} {J : Nat → Nat → Int64} {D : Nat → Nat → UInt64} {R : Nat → Nat → Option Nat} (h : Rel n σ I J D R) (hn : n < 512) (hi : i + 7 ≤ Lg) (hL : Lg ≤ 3584) : ∃ σ9 I9 J9 D9 R9, Rel (n + 1) σ9 I9 J9 D9 R9 ∧ fL_law_b2037 q18 xs Lg σ I J D R (some 4) (some 114) (Int32.ofInt (i : Int)) = q18 σ9 I9 J9 D9 R9 (some 4) (some 114) (Int32.ofInt ((i + 7 : Nat) : Int)) := by
  have x_1 : Int32.ofInt (i : Int) + (1 : Int32) = Int32.ofInt ((i + 1 : Nat) : Int) := by rw [i_addl]; rfl
  have n_1 : Int32.toNatClampNeg (Int32.ofInt ((i + 1 : Nat) : Int)) = i + 1 := by rw [i_tn (by omega), Int.toNat_natCast]
  have G_1 : ¬ (Int32.ofInt ((i + 1 : Nat) : Int) < 0 ∨ Lg ≤ i + 1) := by have q : (Int32.ofInt ((i + 1 : Nat) : Int) < 0 ∨ Lg ≤ Int32.toNatClampNeg (Int32.ofInt ((i + 1 : Nat) : Int))) = False := i_gd (by omega); rw [n_1] at q; rw [q]; exact id
  have x_2 : Int32.ofInt (i : Int) + (2 : Int32) = Int32.ofInt ((i + 2 : Nat) : Int) := by rw [i_addl]; rfl
  have n_2 : Int32.toNatClampNeg (Int32.ofInt ((i + 2 : Nat) : Int)) = i + 2 := by rw [i_tn (by omega), Int.toNat_natCast]
  have G_2 : ¬ (Int32.ofInt ((i + 2 : Nat) : Int) < 0 ∨ Lg ≤ i + 2) := by have q : (Int32.ofInt ((i + 2 : Nat) : Int) < 0 ∨ Lg ≤ Int32.toNatClampNeg (Int32.ofInt ((i + 2 : Nat) : Int))) = False := i_gd (by omega); rw [n_2] at q; rw [q]; exact id
  have x_7 : Int32.ofInt (i : Int) + (7 : Int32) = Int32.ofInt ((i + 7 : Nat) : Int) := by rw [i_addl]; rfl
  obtain ⟨I1, i1, I2, i2, e1, e2, q0, S1, hR⟩ := s_rest (x1 := (xs (i + 1))) (x2 := (xs (i + 2))) h hn
  refine ⟨σ, I2, J, D, R, hR, ?_⟩
  unfold fL_law_b2037
  simp only [x_1, n_1, if_pos G_1, x_2, n_2, if_pos G_2, x_7]
  rw [ob_some, if_pos (kq4 h.sk), eX11_rest h.sk, e1, ob_some]
  dsimp only
  rw [ob_some, if_pos (kq114 S1), eX12_rest S1, e2, ob_some]
  dsimp only
  rw [if_pos q0]
theorem B_2070 {q18 : (Shp) → (Nat → Nat → Int32) → (Nat → Nat → Int64) → (Nat → Nat → UInt64) → (Nat → Nat → Option Nat) → (Option Nat) → (Option Nat) → (Int32) → (Option (Unit))} {xs : Nat → Int32} {Lg i : Nat} {n : Nat} {σ : Shp} {I : Nat → Nat → Int32} {J : Nat → Nat → Int64} {D : Nat → Nat → UInt64} {R : Nat → Nat → Option Nat} (h : Rel n σ I J D R) (hn : n < 512) (hi : i + 7 ≤ Lg) (hL : Lg ≤ 3584) : ∃ σ9 I9 J9 D9 R9, Rel (n + 1) σ9 I9 J9 D9 R9 ∧ fL_law_b2070 q18 xs Lg σ I J D R (some 4) (some 114) (Int32.ofInt (i : Int)) = q18 σ9 I9 J9 D9 R9 (some 4) (some 114) (Int32.ofInt ((i + 7 : Nat) : Int)) := by
  have x_1 : Int32.ofInt (i : Int) + (1 : Int32) = Int32.ofInt ((i + 1 : Nat) : Int) := by rw [i_addl]; rfl
  have n_1 : Int32.toNatClampNeg (Int32.ofInt ((i + 1 : Nat) : Int)) = i + 1 := by rw [i_tn (by omega), Int.toNat_natCast]
  have G_1 : ¬ (Int32.ofInt ((i + 1 : Nat) : Int) < 0 ∨ Lg ≤ i + 1) := by have q : (Int32.ofInt ((i + 1 : Nat) : Int) < 0 ∨ Lg ≤ Int32.toNatClampNeg (Int32.ofInt ((i + 1 : Nat) : Int))) = False := i_gd (by omega); rw [n_1] at q; rw [q]; exact id
  have x_2 : Int32.ofInt (i : Int) + (2 : Int32) = Int32.ofInt ((i + 2 : Nat) : Int) := by rw [i_addl]; rfl
  have n_2 : Int32.toNatClampNeg (Int32.ofInt ((i + 2 : Nat) : Int)) = i + 2 := by rw [i_tn (by omega), Int.toNat_natCast]
  have G_2 : ¬ (Int32.ofInt ((i + 2 : Nat) : Int) < 0 ∨ Lg ≤ i + 2) := by have q : (Int32.ofInt ((i + 2 : Nat) : Int) < 0 ∨ Lg ≤ Int32.toNatClampNeg (Int32.ofInt ((i + 2 : Nat) : Int))) = False := i_gd (by omega); rw [n_2] at q; rw [q]; exact id
  have x_7 : Int32.ofInt (i : Int) + (7 : Int32) = Int32.ofInt ((i + 7 : Nat) : Int) := by rw [i_addl]; rfl
  obtain ⟨I1, i1, I2, i2, e1, e2, q0, S1, hR⟩ := s_value (x1 := (xs (i + 1))) (x2 := (xs (i + 2))) h hn
  refine ⟨σ, I2, J, D, R, hR, ?_⟩
  unfold fL_law_b2070
  simp only [x_1, n_1, if_pos G_1, x_2, n_2, if_pos G_2, x_7]
  rw [ob_some, if_pos (kq4 h.sk), eX11_value h.sk, e1, ob_some]
  dsimp only
  rw [ob_some, if_pos (kq114 S1), eX12_value S1, e2, ob_some]
  dsimp only
  rw [if_pos q0]
theorem B_2103 {q18 : (Shp) → (Nat → Nat → Int32) → (Nat → Nat → Int64) → (Nat → Nat → UInt64) → (Nat → Nat → Option Nat) → (Option Nat) → (Option Nat) → (Int32) → (Option (Unit))} {xs : Nat → Int32} {Lg i : Nat} {n : Nat} {σ : Shp} {I : Nat → Nat → Int32} {J : Nat → Nat → Int64} {D : Nat → Nat → UInt64} {R : Nat → Nat → Option Nat} (h : Rel n σ I J D R) (hn : n < 512) (hi : i + 7 ≤ Lg) (hL : Lg ≤ 3584) : ∃ σ9 I9 J9 D9 R9, Rel (n + 1) σ9 I9 J9 D9 R9 ∧ fL_law_b2103 q18 xs Lg σ I J D R (some 4) (some 114) (Int32.ofInt (i : Int)) = q18 σ9 I9 J9 D9 R9 (some 4) (some 114) (Int32.ofInt ((i + 7 : Nat) : Int)) := by
  have x_1 : Int32.ofInt (i : Int) + (1 : Int32) = Int32.ofInt ((i + 1 : Nat) : Int) := by rw [i_addl]; rfl
  have n_1 : Int32.toNatClampNeg (Int32.ofInt ((i + 1 : Nat) : Int)) = i + 1 := by rw [i_tn (by omega), Int.toNat_natCast]
  have G_1 : ¬ (Int32.ofInt ((i + 1 : Nat) : Int) < 0 ∨ Lg ≤ i + 1) := by have q : (Int32.ofInt ((i + 1 : Nat) : Int) < 0 ∨ Lg ≤ Int32.toNatClampNeg (Int32.ofInt ((i + 1 : Nat) : Int))) = False := i_gd (by omega); rw [n_1] at q; rw [q]; exact id
  have x_7 : Int32.ofInt (i : Int) + (7 : Int32) = Int32.ofInt ((i + 7 : Nat) : Int) := by rw [i_addl]; rfl
  obtain ⟨i1, i2, e1, e2, q0, S1, hR⟩ := s_laid (x1 := (xs (i + 1))) h hn
  refine ⟨σ, I, J, D, R, hR, ?_⟩
  unfold fL_law_b2103
  simp only [x_1, n_1, if_pos G_1, x_7]
  rw [ob_some, if_pos (kq4 h.sk), eX11_laid h.sk, e1, ob_some]
  rw [ob_some, if_pos (kq114 S1), eX12_laid S1, e2, ob_some]
  rw [if_pos q0]
theorem B_2126 {q18 : (Shp) → (Nat → Nat → Int32) → (Nat → Nat → Int64) → (Nat → Nat → UInt64) → (Nat → Nat → Option Nat) → (Option Nat) → (Option Nat) → (Int32) → (Option (Unit))} {xs : Nat → Int32} {Lg i : Nat} {n : Nat} {σ : Shp} {I : Nat → Nat → Int32} {J : Nat → Nat → Int64} {D : Nat → Nat → UInt64} {R : Nat → Nat → Option Nat} (h : Rel n σ I J D R) (hn : n < 512) (hi : i + 7 ≤ Lg) (hL : Lg ≤ 3584) : ∃ σ9 I9 J9 D9 R9, Rel (n + 1) σ9 I9 J9 D9 R9 ∧ fL_law_b2126 q18 xs Lg σ I J D R (some 4) (some 114) (Int32.ofInt (i : Int)) = q18 σ9 I9 J9 D9 R9 (some 4) (some 114) (Int32.ofInt ((i + 7 : Nat) : Int)) := by
  have x_1 : Int32.ofInt (i : Int) + (1 : Int32) = Int32.ofInt ((i + 1 : Nat) : Int) := by rw [i_addl]; rfl
  have n_1 : Int32.toNatClampNeg (Int32.ofInt ((i + 1 : Nat) : Int)) = i + 1 := by rw [i_tn (by omega), Int.toNat_natCast]
  have G_1 : ¬ (Int32.ofInt ((i + 1 : Nat) : Int) < 0 ∨ Lg ≤ i + 1) := by have q : (Int32.ofInt ((i + 1 : Nat) : Int) < 0 ∨ Lg ≤ Int32.toNatClampNeg (Int32.ofInt ((i + 1 : Nat) : Int))) = False := i_gd (by omega); rw [n_1] at q; rw [q]; exact id
  have x_2 : Int32.ofInt (i : Int) + (2 : Int32) = Int32.ofInt ((i + 2 : Nat) : Int) := by rw [i_addl]; rfl
  have n_2 : Int32.toNatClampNeg (Int32.ofInt ((i + 2 : Nat) : Int)) = i + 2 := by rw [i_tn (by omega), Int.toNat_natCast]
  have G_2 : ¬ (Int32.ofInt ((i + 2 : Nat) : Int) < 0 ∨ Lg ≤ i + 2) := by have q : (Int32.ofInt ((i + 2 : Nat) : Int) < 0 ∨ Lg ≤ Int32.toNatClampNeg (Int32.ofInt ((i + 2 : Nat) : Int))) = False := i_gd (by omega); rw [n_2] at q; rw [q]; exact id
  have x_3 : Int32.ofInt (i : Int) + (3 : Int32) = Int32.ofInt ((i + 3 : Nat) : Int) := by rw [i_addl]; rfl
  have n_3 : Int32.toNatClampNeg (Int32.ofInt ((i + 3 : Nat) : Int)) = i + 3 := by rw [i_tn (by omega), Int.toNat_natCast]
  have G_3 : ¬ (Int32.ofInt ((i + 3 : Nat) : Int) < 0 ∨ Lg ≤ i + 3) := by have q : (Int32.ofInt ((i + 3 : Nat) : Int) < 0 ∨ Lg ≤ Int32.toNatClampNeg (Int32.ofInt ((i + 3 : Nat) : Int))) = False := i_gd (by omega); rw [n_3] at q; rw [q]; exact id
  have x_7 : Int32.ofInt (i : Int) + (7 : Int32) = Int32.ofInt ((i + 7 : Nat) : Int) := by rw [i_addl]; rfl
  obtain ⟨J1, D1, i1, J2, i2, e1, e2, q0, S1, hR⟩ := s_read (x1 := (xs (i + 1))) (x2 := (((Int32.toInt64 (xs (i + 2))) <<< (Int32.toInt64 (32 : Int32) &&& 63)) ||| ((Int32.toInt64 (xs (i + 3))) &&& (4294967295 : Int64)))) h hn
  refine ⟨σ, I, J2, D1, R, hR, ?_⟩
  unfold fL_law_b2126
  simp only [x_1, n_1, if_pos G_1, x_2, n_2, if_pos G_2, x_3, n_3, if_pos G_3, x_7]
  rw [ob_some, if_pos (kq4 h.sk), eX11_read h.sk, e1, ob_some]
  dsimp only
  rw [ob_some, if_pos (kq114 S1), eX12_read S1, e2, ob_some]
  dsimp only
  rw [if_pos q0]
theorem B_2189 {q18 : (Shp) → (Nat → Nat → Int32) → (Nat → Nat → Int64) → (Nat → Nat → UInt64) → (Nat → Nat → Option Nat) → (Option Nat) → (Option Nat) → (Int32) → (Option (Unit))} {xs : Nat → Int32} {Lg i : Nat} {n : Nat} {σ : Shp} {I : Nat → Nat → Int32} {J : Nat → Nat → Int64} {D : Nat → Nat → UInt64} {R : Nat → Nat → Option Nat} (h : Rel n σ I J D R) (hn : n < 512) (hi : i + 7 ≤ Lg) (hL : Lg ≤ 3584) : ∃ σ9 I9 J9 D9 R9, Rel (n + 1) σ9 I9 J9 D9 R9 ∧ fL_law_b2189 q18 xs Lg σ I J D R (some 4) (some 114) (Int32.ofInt (i : Int)) = q18 σ9 I9 J9 D9 R9 (some 4) (some 114) (Int32.ofInt ((i + 7 : Nat) : Int)) := by
  have x_1 : Int32.ofInt (i : Int) + (1 : Int32) = Int32.ofInt ((i + 1 : Nat) : Int) := by rw [i_addl]; rfl
  have n_1 : Int32.toNatClampNeg (Int32.ofInt ((i + 1 : Nat) : Int)) = i + 1 := by rw [i_tn (by omega), Int.toNat_natCast]
  have G_1 : ¬ (Int32.ofInt ((i + 1 : Nat) : Int) < 0 ∨ Lg ≤ i + 1) := by have q : (Int32.ofInt ((i + 1 : Nat) : Int) < 0 ∨ Lg ≤ Int32.toNatClampNeg (Int32.ofInt ((i + 1 : Nat) : Int))) = False := i_gd (by omega); rw [n_1] at q; rw [q]; exact id
  have x_2 : Int32.ofInt (i : Int) + (2 : Int32) = Int32.ofInt ((i + 2 : Nat) : Int) := by rw [i_addl]; rfl
  have n_2 : Int32.toNatClampNeg (Int32.ofInt ((i + 2 : Nat) : Int)) = i + 2 := by rw [i_tn (by omega), Int.toNat_natCast]
  have G_2 : ¬ (Int32.ofInt ((i + 2 : Nat) : Int) < 0 ∨ Lg ≤ i + 2) := by have q : (Int32.ofInt ((i + 2 : Nat) : Int) < 0 ∨ Lg ≤ Int32.toNatClampNeg (Int32.ofInt ((i + 2 : Nat) : Int))) = False := i_gd (by omega); rw [n_2] at q; rw [q]; exact id
  have x_7 : Int32.ofInt (i : Int) + (7 : Int32) = Int32.ofInt ((i + 7 : Nat) : Int) := by rw [i_addl]; rfl
  obtain ⟨D1, i1, D2, i2, e1, e2, q0, S1, hR⟩ := s_part (x1 := (((Int32.toInt64 (xs (i + 1))) <<< (Int32.toInt64 (32 : Int32) &&& 63)) ||| ((Int32.toInt64 (xs (i + 2))) &&& (4294967295 : Int64)))) h hn
  refine ⟨σ, I, J, D2, R, hR, ?_⟩
  unfold fL_law_b2189
  simp only [x_1, n_1, if_pos G_1, x_2, n_2, if_pos G_2, x_7]
  rw [ob_some, if_pos (kq4 h.sk), eX11_part h.sk, e1, ob_some]
  dsimp only
  rw [ob_some, if_pos (kq114 S1), eX12_part S1, e2, ob_some]
  dsimp only
  rw [if_pos q0]
theorem B_2242 {q18 : (Shp) → (Nat → Nat → Int32) → (Nat → Nat → Int64) → (Nat → Nat → UInt64) → (Nat → Nat → Option Nat) → (Option Nat) → (Option Nat) → (Int32) → (Option (Unit))} {xs : Nat → Int32} {Lg i : Nat} {n : Nat} {σ : Shp} {I : Nat → Nat → Int32} {J : Nat → Nat → Int64} {D : Nat → Nat → UInt64} {R : Nat → Nat → Option Nat} (h : Rel n σ I J D R) (hn : n < 512) (hi : i + 7 ≤ Lg) (hL : Lg ≤ 3584) : ∃ σ9 I9 J9 D9 R9, Rel (n + 1) σ9 I9 J9 D9 R9 ∧ fL_law_b2242 q18 xs Lg σ I J D R (some 4) (some 114) (Int32.ofInt (i : Int)) = q18 σ9 I9 J9 D9 R9 (some 4) (some 114) (Int32.ofInt ((i + 7 : Nat) : Int)) := by
  have x_1 : Int32.ofInt (i : Int) + (1 : Int32) = Int32.ofInt ((i + 1 : Nat) : Int) := by rw [i_addl]; rfl
  have n_1 : Int32.toNatClampNeg (Int32.ofInt ((i + 1 : Nat) : Int)) = i + 1 := by rw [i_tn (by omega), Int.toNat_natCast]
  have G_1 : ¬ (Int32.ofInt ((i + 1 : Nat) : Int) < 0 ∨ Lg ≤ i + 1) := by have q : (Int32.ofInt ((i + 1 : Nat) : Int) < 0 ∨ Lg ≤ Int32.toNatClampNeg (Int32.ofInt ((i + 1 : Nat) : Int))) = False := i_gd (by omega); rw [n_1] at q; rw [q]; exact id
  have x_2 : Int32.ofInt (i : Int) + (2 : Int32) = Int32.ofInt ((i + 2 : Nat) : Int) := by rw [i_addl]; rfl
  have n_2 : Int32.toNatClampNeg (Int32.ofInt ((i + 2 : Nat) : Int)) = i + 2 := by rw [i_tn (by omega), Int.toNat_natCast]
  have G_2 : ¬ (Int32.ofInt ((i + 2 : Nat) : Int) < 0 ∨ Lg ≤ i + 2) := by have q : (Int32.ofInt ((i + 2 : Nat) : Int) < 0 ∨ Lg ≤ Int32.toNatClampNeg (Int32.ofInt ((i + 2 : Nat) : Int))) = False := i_gd (by omega); rw [n_2] at q; rw [q]; exact id
  have x_7 : Int32.ofInt (i : Int) + (7 : Int32) = Int32.ofInt ((i + 7 : Nat) : Int) := by rw [i_addl]; rfl
  obtain ⟨i1, i2, e1, e2, q0, S1, hR⟩ := s_probe (x1 := (xs (i + 1))) (x2 := (xs (i + 2))) h hn
  refine ⟨σ, I, J, D, R, hR, ?_⟩
  unfold fL_law_b2242
  simp only [x_1, n_1, if_pos G_1, x_2, n_2, if_pos G_2, x_7]
  rw [ob_some, if_pos (kq4 h.sk), eX11_probe h.sk, e1, ob_some]
  rw [ob_some, if_pos (kq114 S1), eX12_probe S1, e2, ob_some]
  rw [if_pos q0]
theorem B_2275 {q18 : (Shp) → (Nat → Nat → Int32) → (Nat → Nat → Int64) → (Nat → Nat → UInt64) → (Nat → Nat → Option Nat) → (Option Nat) → (Option Nat) → (Int32) → (Option (Unit))} {xs : Nat → Int32} {Lg i : Nat} {n : Nat} {σ : Shp} {I : Nat → Nat → Int32} {J : Nat → Nat → Int64} {D : Nat → Nat → UInt64} {R : Nat → Nat → Option Nat} (h : Rel n σ I J D R) (hn : n < 512) (hi : i + 7 ≤ Lg) (hL : Lg ≤ 3584) : ∃ σ9 I9 J9 D9 R9, Rel (n + 1) σ9 I9 J9 D9 R9 ∧ fL_law_b2275 q18 xs Lg σ I J D R (some 4) (some 114) (Int32.ofInt (i : Int)) = q18 σ9 I9 J9 D9 R9 (some 4) (some 114) (Int32.ofInt ((i + 7 : Nat) : Int)) := by
  have x_1 : Int32.ofInt (i : Int) + (1 : Int32) = Int32.ofInt ((i + 1 : Nat) : Int) := by rw [i_addl]; rfl
  have n_1 : Int32.toNatClampNeg (Int32.ofInt ((i + 1 : Nat) : Int)) = i + 1 := by rw [i_tn (by omega), Int.toNat_natCast]
  have G_1 : ¬ (Int32.ofInt ((i + 1 : Nat) : Int) < 0 ∨ Lg ≤ i + 1) := by have q : (Int32.ofInt ((i + 1 : Nat) : Int) < 0 ∨ Lg ≤ Int32.toNatClampNeg (Int32.ofInt ((i + 1 : Nat) : Int))) = False := i_gd (by omega); rw [n_1] at q; rw [q]; exact id
  have x_7 : Int32.ofInt (i : Int) + (7 : Int32) = Int32.ofInt ((i + 7 : Nat) : Int) := by rw [i_addl]; rfl
  obtain ⟨j1, j2, e1, e2, q0, S1, hR⟩ := s_voted (x1 := (xs (i + 1))) h hn
  refine ⟨σ, I, J, D, R, hR, ?_⟩
  unfold fL_law_b2275
  simp only [x_1, n_1, if_pos G_1, x_7]
  rw [ob_some, if_pos (kq4 h.sk), eX11_voted h.sk, e1, ob_some]
  rw [ob_some, if_pos (kq114 S1), eX12_voted S1, e2, ob_some]
  rw [if_pos q0]
theorem B_2299 {q18 : (Shp) → (Nat → Nat → Int32) → (Nat → Nat → Int64) → (Nat → Nat → UInt64) → (Nat → Nat → Option Nat) → (Option Nat) → (Option Nat) → (Int32) → (Option (Unit))} {xs : Nat → Int32} {Lg i : Nat} {n : Nat} {σ : Shp} {I : Nat → Nat → Int32} {J : Nat → Nat → Int64} {D : Nat → Nat → UInt64} {R : Nat → Nat → Option Nat} (h : Rel n σ I J D R) (hn : n < 512) (hi : i + 7 ≤ Lg) (hL : Lg ≤ 3584) : ∃ σ9 I9 J9 D9 R9, Rel (n + 1) σ9 I9 J9 D9 R9 ∧ fL_law_b2299 q18 xs Lg σ I J D R (some 4) (some 114) (Int32.ofInt (i : Int)) = q18 σ9 I9 J9 D9 R9 (some 4) (some 114) (Int32.ofInt ((i + 7 : Nat) : Int)) := by
  have x_1 : Int32.ofInt (i : Int) + (1 : Int32) = Int32.ofInt ((i + 1 : Nat) : Int) := by rw [i_addl]; rfl
  have n_1 : Int32.toNatClampNeg (Int32.ofInt ((i + 1 : Nat) : Int)) = i + 1 := by rw [i_tn (by omega), Int.toNat_natCast]
  have G_1 : ¬ (Int32.ofInt ((i + 1 : Nat) : Int) < 0 ∨ Lg ≤ i + 1) := by have q : (Int32.ofInt ((i + 1 : Nat) : Int) < 0 ∨ Lg ≤ Int32.toNatClampNeg (Int32.ofInt ((i + 1 : Nat) : Int))) = False := i_gd (by omega); rw [n_1] at q; rw [q]; exact id
  have x_2 : Int32.ofInt (i : Int) + (2 : Int32) = Int32.ofInt ((i + 2 : Nat) : Int) := by rw [i_addl]; rfl
  have n_2 : Int32.toNatClampNeg (Int32.ofInt ((i + 2 : Nat) : Int)) = i + 2 := by rw [i_tn (by omega), Int.toNat_natCast]
  have G_2 : ¬ (Int32.ofInt ((i + 2 : Nat) : Int) < 0 ∨ Lg ≤ i + 2) := by have q : (Int32.ofInt ((i + 2 : Nat) : Int) < 0 ∨ Lg ≤ Int32.toNatClampNeg (Int32.ofInt ((i + 2 : Nat) : Int))) = False := i_gd (by omega); rw [n_2] at q; rw [q]; exact id
  have x_7 : Int32.ofInt (i : Int) + (7 : Int32) = Int32.ofInt ((i + 7 : Nat) : Int) := by rw [i_addl]; rfl
  obtain ⟨I1, i1, I2, i2, e1, e2, q0, S1, hR⟩ := s_weather (x1 := (xs (i + 1))) (x2 := (xs (i + 2))) h hn
  refine ⟨σ, I2, J, D, R, hR, ?_⟩
  unfold fL_law_b2299
  simp only [x_1, n_1, if_pos G_1, x_2, n_2, if_pos G_2, x_7]
  rw [ob_some, if_pos (kq4 h.sk), eX11_weather h.sk, e1, ob_some]
  dsimp only
  rw [ob_some, if_pos (kq114 S1), eX12_weather S1, e2, ob_some]
  dsimp only
  rw [if_pos q0]
theorem B_2332 {q18 : (Shp) → (Nat → Nat → Int32) → (Nat → Nat → Int64) → (Nat → Nat → UInt64) → (Nat → Nat → Option Nat) → (Option Nat) → (Option Nat) → (Int32) → (Option (Unit))} {xs : Nat → Int32} {Lg i : Nat} {n : Nat} {σ : Shp} {I : Nat → Nat → Int32} {J : Nat → Nat → Int64} {D : Nat → Nat → UInt64} {R : Nat → Nat → Option Nat} (h : Rel n σ I J D R) (hn : n < 512) (hi : i + 7 ≤ Lg) (hL : Lg ≤ 3584) : ∃ σ9 I9 J9 D9 R9, Rel (n + 1) σ9 I9 J9 D9 R9 ∧ fL_law_b2332 q18 xs Lg σ I J D R (some 4) (some 114) (Int32.ofInt (i : Int)) = q18 σ9 I9 J9 D9 R9 (some 4) (some 114) (Int32.ofInt ((i + 7 : Nat) : Int)) := by
  have x_1 : Int32.ofInt (i : Int) + (1 : Int32) = Int32.ofInt ((i + 1 : Nat) : Int) := by rw [i_addl]; rfl
  have n_1 : Int32.toNatClampNeg (Int32.ofInt ((i + 1 : Nat) : Int)) = i + 1 := by rw [i_tn (by omega), Int.toNat_natCast]
  have G_1 : ¬ (Int32.ofInt ((i + 1 : Nat) : Int) < 0 ∨ Lg ≤ i + 1) := by have q : (Int32.ofInt ((i + 1 : Nat) : Int) < 0 ∨ Lg ≤ Int32.toNatClampNeg (Int32.ofInt ((i + 1 : Nat) : Int))) = False := i_gd (by omega); rw [n_1] at q; rw [q]; exact id
  have x_2 : Int32.ofInt (i : Int) + (2 : Int32) = Int32.ofInt ((i + 2 : Nat) : Int) := by rw [i_addl]; rfl
  have n_2 : Int32.toNatClampNeg (Int32.ofInt ((i + 2 : Nat) : Int)) = i + 2 := by rw [i_tn (by omega), Int.toNat_natCast]
  have G_2 : ¬ (Int32.ofInt ((i + 2 : Nat) : Int) < 0 ∨ Lg ≤ i + 2) := by have q : (Int32.ofInt ((i + 2 : Nat) : Int) < 0 ∨ Lg ≤ Int32.toNatClampNeg (Int32.ofInt ((i + 2 : Nat) : Int))) = False := i_gd (by omega); rw [n_2] at q; rw [q]; exact id
  have x_3 : Int32.ofInt (i : Int) + (3 : Int32) = Int32.ofInt ((i + 3 : Nat) : Int) := by rw [i_addl]; rfl
  have n_3 : Int32.toNatClampNeg (Int32.ofInt ((i + 3 : Nat) : Int)) = i + 3 := by rw [i_tn (by omega), Int.toNat_natCast]
  have G_3 : ¬ (Int32.ofInt ((i + 3 : Nat) : Int) < 0 ∨ Lg ≤ i + 3) := by have q : (Int32.ofInt ((i + 3 : Nat) : Int) < 0 ∨ Lg ≤ Int32.toNatClampNeg (Int32.ofInt ((i + 3 : Nat) : Int))) = False := i_gd (by omega); rw [n_3] at q; rw [q]; exact id
  have x_7 : Int32.ofInt (i : Int) + (7 : Int32) = Int32.ofInt ((i + 7 : Nat) : Int) := by rw [i_addl]; rfl
  obtain ⟨I1, i1, I2, i2, e1, e2, q0, S1, hR⟩ := s_mark (x1 := (xs (i + 1))) (x2 := (xs (i + 2))) (x3 := (xs (i + 3))) h hn
  refine ⟨σ, I2, J, D, R, hR, ?_⟩
  unfold fL_law_b2332
  simp only [x_1, n_1, if_pos G_1, x_2, n_2, if_pos G_2, x_3, n_3, if_pos G_3, x_7]
  rw [ob_some, if_pos (kq4 h.sk), eX11_mark h.sk, e1, ob_some]
  dsimp only
  rw [ob_some, if_pos (kq114 S1), eX12_mark S1, e2, ob_some]
  dsimp only
  rw [if_pos q0]
theorem B_2375 {q18 : (Shp) → (Nat → Nat → Int32) → (Nat → Nat → Int64) → (Nat → Nat → UInt64) → (Nat → Nat → Option Nat) → (Option Nat) → (Option Nat) → (Int32) → (Option (Unit))} {xs : Nat → Int32} {Lg i : Nat} {n : Nat} {σ : Shp} {I : Nat → Nat → Int32} {J : Nat → Nat → Int64} {D : Nat → Nat → UInt64} {R : Nat → Nat → Option Nat} (h : Rel n σ I J D R) (hn : n < 512) (hi : i + 7 ≤ Lg) (hL : Lg ≤ 3584) : ∃ σ9 I9 J9 D9 R9, Rel (n + 1) σ9 I9 J9 D9 R9 ∧ fL_law_b2375 q18 xs Lg σ I J D R (some 4) (some 114) (Int32.ofInt (i : Int)) = q18 σ9 I9 J9 D9 R9 (some 4) (some 114) (Int32.ofInt ((i + 7 : Nat) : Int)) := by
  have x_1 : Int32.ofInt (i : Int) + (1 : Int32) = Int32.ofInt ((i + 1 : Nat) : Int) := by rw [i_addl]; rfl
  have n_1 : Int32.toNatClampNeg (Int32.ofInt ((i + 1 : Nat) : Int)) = i + 1 := by rw [i_tn (by omega), Int.toNat_natCast]
  have G_1 : ¬ (Int32.ofInt ((i + 1 : Nat) : Int) < 0 ∨ Lg ≤ i + 1) := by have q : (Int32.ofInt ((i + 1 : Nat) : Int) < 0 ∨ Lg ≤ Int32.toNatClampNeg (Int32.ofInt ((i + 1 : Nat) : Int))) = False := i_gd (by omega); rw [n_1] at q; rw [q]; exact id
  have x_7 : Int32.ofInt (i : Int) + (7 : Int32) = Int32.ofInt ((i + 7 : Nat) : Int) := by rw [i_addl]; rfl
  obtain ⟨I1, i1, I2, i2, e1, e2, q0, S1, hR⟩ := s_unmark (x1 := (xs (i + 1))) h hn
  refine ⟨σ, I2, J, D, R, hR, ?_⟩
  unfold fL_law_b2375
  simp only [x_1, n_1, if_pos G_1, x_7]
  rw [ob_some, if_pos (kq4 h.sk), eX11_unmark h.sk, e1, ob_some]
  dsimp only
  rw [ob_some, if_pos (kq114 S1), eX12_unmark S1, e2, ob_some]
  dsimp only
  rw [if_pos q0]
theorem B_2398 {q18 : (Shp) → (Nat → Nat → Int32) → (Nat → Nat → Int64) → (Nat → Nat → UInt64) → (Nat → Nat → Option Nat) → (Option Nat) → (Option Nat) → (Int32) → (Option (Unit))} {xs : Nat → Int32} {Lg i : Nat} {n : Nat} {σ : Shp} {I : Nat → Nat → Int32} {J : Nat → Nat → Int64} {D : Nat → Nat → UInt64} {R : Nat → Nat → Option Nat} (h : Rel n σ I J D R) (hn : n < 512) (hi : i + 7 ≤ Lg) (hL : Lg ≤ 3584) : ∃ σ9 I9 J9 D9 R9, Rel (n + 1) σ9 I9 J9 D9 R9 ∧ fL_law_b2398 q18 xs Lg σ I J D R (some 4) (some 114) (Int32.ofInt (i : Int)) = q18 σ9 I9 J9 D9 R9 (some 4) (some 114) (Int32.ofInt ((i + 7 : Nat) : Int)) := by
  have x_1 : Int32.ofInt (i : Int) + (1 : Int32) = Int32.ofInt ((i + 1 : Nat) : Int) := by rw [i_addl]; rfl
  have n_1 : Int32.toNatClampNeg (Int32.ofInt ((i + 1 : Nat) : Int)) = i + 1 := by rw [i_tn (by omega), Int.toNat_natCast]
  have G_1 : ¬ (Int32.ofInt ((i + 1 : Nat) : Int) < 0 ∨ Lg ≤ i + 1) := by have q : (Int32.ofInt ((i + 1 : Nat) : Int) < 0 ∨ Lg ≤ Int32.toNatClampNeg (Int32.ofInt ((i + 1 : Nat) : Int))) = False := i_gd (by omega); rw [n_1] at q; rw [q]; exact id
  have x_2 : Int32.ofInt (i : Int) + (2 : Int32) = Int32.ofInt ((i + 2 : Nat) : Int) := by rw [i_addl]; rfl
  have n_2 : Int32.toNatClampNeg (Int32.ofInt ((i + 2 : Nat) : Int)) = i + 2 := by rw [i_tn (by omega), Int.toNat_natCast]
  have G_2 : ¬ (Int32.ofInt ((i + 2 : Nat) : Int) < 0 ∨ Lg ≤ i + 2) := by have q : (Int32.ofInt ((i + 2 : Nat) : Int) < 0 ∨ Lg ≤ Int32.toNatClampNeg (Int32.ofInt ((i + 2 : Nat) : Int))) = False := i_gd (by omega); rw [n_2] at q; rw [q]; exact id
  have x_7 : Int32.ofInt (i : Int) + (7 : Int32) = Int32.ofInt ((i + 7 : Nat) : Int) := by rw [i_addl]; rfl
  obtain ⟨i1, i2, e1, e2, q0, S1, hR⟩ := s_wish (x1 := (xs (i + 1))) (x2 := (xs (i + 2))) h hn
  refine ⟨σ, I, J, D, R, hR, ?_⟩
  unfold fL_law_b2398
  simp only [x_1, n_1, if_pos G_1, x_2, n_2, if_pos G_2, x_7]
  rw [ob_some, if_pos (kq4 h.sk), eX11_wish h.sk, e1, ob_some]
  rw [ob_some, if_pos (kq114 S1), eX12_wish S1, e2, ob_some]
  rw [if_pos q0]
theorem B_2431 {q18 : (Shp) → (Nat → Nat → Int32) → (Nat → Nat → Int64) → (Nat → Nat → UInt64) → (Nat → Nat → Option Nat) → (Option Nat) → (Option Nat) → (Int32) → (Option (Unit))} {xs : Nat → Int32} {Lg i : Nat} {n : Nat} {σ : Shp} {I : Nat → Nat → Int32} {J : Nat → Nat → Int64} {D : Nat → Nat → UInt64} {R : Nat → Nat → Option Nat} (h : Rel n σ I J D R) (hn : n < 512) (hi : i + 7 ≤ Lg) (hL : Lg ≤ 3584) : ∃ σ9 I9 J9 D9 R9, Rel (n + 1) σ9 I9 J9 D9 R9 ∧ fL_law_b2431 q18 xs Lg σ I J D R (some 4) (some 114) (Int32.ofInt (i : Int)) = q18 σ9 I9 J9 D9 R9 (some 4) (some 114) (Int32.ofInt ((i + 7 : Nat) : Int)) := by
  have x_1 : Int32.ofInt (i : Int) + (1 : Int32) = Int32.ofInt ((i + 1 : Nat) : Int) := by rw [i_addl]; rfl
  have n_1 : Int32.toNatClampNeg (Int32.ofInt ((i + 1 : Nat) : Int)) = i + 1 := by rw [i_tn (by omega), Int.toNat_natCast]
  have G_1 : ¬ (Int32.ofInt ((i + 1 : Nat) : Int) < 0 ∨ Lg ≤ i + 1) := by have q : (Int32.ofInt ((i + 1 : Nat) : Int) < 0 ∨ Lg ≤ Int32.toNatClampNeg (Int32.ofInt ((i + 1 : Nat) : Int))) = False := i_gd (by omega); rw [n_1] at q; rw [q]; exact id
  have x_7 : Int32.ofInt (i : Int) + (7 : Int32) = Int32.ofInt ((i + 7 : Nat) : Int) := by rw [i_addl]; rfl
  obtain ⟨I1, J1, i1, I2, J2, i2, e1, e2, q0, S1, hR⟩ := s_minute (x1 := (xs (i + 1))) h hn
  refine ⟨σ, I2, J2, D, R, hR, ?_⟩
  unfold fL_law_b2431
  simp only [x_1, n_1, if_pos G_1, x_7]
  rw [ob_some, if_pos (kq4 h.sk), eX11_minute h.sk, e1, ob_some]
  dsimp only
  rw [ob_some, if_pos (kq114 S1), eX12_minute S1, e2, ob_some]
  dsimp only
  rw [if_pos q0]
theorem B_2454 {q18 : (Shp) → (Nat → Nat → Int32) → (Nat → Nat → Int64) → (Nat → Nat → UInt64) → (Nat → Nat → Option Nat) → (Option Nat) → (Option Nat) → (Int32) → (Option (Unit))} {xs : Nat → Int32} {Lg i : Nat} {n : Nat} {σ : Shp} {I : Nat → Nat → Int32} {J : Nat → Nat → Int64} {D : Nat → Nat → UInt64} {R : Nat → Nat → Option Nat} (h : Rel n σ I J D R) (hn : n < 512) (hi : i + 7 ≤ Lg) (hL : Lg ≤ 3584) : ∃ σ9 I9 J9 D9 R9, Rel (n + 1) σ9 I9 J9 D9 R9 ∧ fL_law_b2454 q18 xs Lg σ I J D R (some 4) (some 114) (Int32.ofInt (i : Int)) = q18 σ9 I9 J9 D9 R9 (some 4) (some 114) (Int32.ofInt ((i + 7 : Nat) : Int)) := by
  have x_1 : Int32.ofInt (i : Int) + (1 : Int32) = Int32.ofInt ((i + 1 : Nat) : Int) := by rw [i_addl]; rfl
  have n_1 : Int32.toNatClampNeg (Int32.ofInt ((i + 1 : Nat) : Int)) = i + 1 := by rw [i_tn (by omega), Int.toNat_natCast]
  have G_1 : ¬ (Int32.ofInt ((i + 1 : Nat) : Int) < 0 ∨ Lg ≤ i + 1) := by have q : (Int32.ofInt ((i + 1 : Nat) : Int) < 0 ∨ Lg ≤ Int32.toNatClampNeg (Int32.ofInt ((i + 1 : Nat) : Int))) = False := i_gd (by omega); rw [n_1] at q; rw [q]; exact id
  have x_2 : Int32.ofInt (i : Int) + (2 : Int32) = Int32.ofInt ((i + 2 : Nat) : Int) := by rw [i_addl]; rfl
  have n_2 : Int32.toNatClampNeg (Int32.ofInt ((i + 2 : Nat) : Int)) = i + 2 := by rw [i_tn (by omega), Int.toNat_natCast]
  have G_2 : ¬ (Int32.ofInt ((i + 2 : Nat) : Int) < 0 ∨ Lg ≤ i + 2) := by have q : (Int32.ofInt ((i + 2 : Nat) : Int) < 0 ∨ Lg ≤ Int32.toNatClampNeg (Int32.ofInt ((i + 2 : Nat) : Int))) = False := i_gd (by omega); rw [n_2] at q; rw [q]; exact id
  have x_7 : Int32.ofInt (i : Int) + (7 : Int32) = Int32.ofInt ((i + 7 : Nat) : Int) := by rw [i_addl]; rfl
  obtain ⟨j1, j2, e1, e2, q0, S1, hR⟩ := s_air (x1 := (xs (i + 1))) (x2 := (xs (i + 2))) h hn
  refine ⟨σ, I, J, D, R, hR, ?_⟩
  unfold fL_law_b2454
  simp only [x_1, n_1, if_pos G_1, x_2, n_2, if_pos G_2, x_7]
  rw [ob_some, if_pos (kq4 h.sk), eX11_air h.sk, e1, ob_some]
  rw [ob_some, if_pos (kq114 S1), eX12_air S1, e2, ob_some]
  rw [if_pos q0]
theorem B_2488 {q18 : (Shp) → (Nat → Nat → Int32) → (Nat → Nat → Int64) → (Nat → Nat → UInt64) → (Nat → Nat → Option Nat) → (Option Nat) → (Option Nat) → (Int32) → (Option (Unit))} {xs : Nat → Int32} {Lg i : Nat} {n : Nat} {σ : Shp} {I : Nat → Nat → Int32} {J : Nat → Nat → Int64} {D : Nat → Nat → UInt64} {R : Nat → Nat → Option Nat} (h : Rel n σ I J D R) (hn : n < 512) (hi : i + 7 ≤ Lg) (hL : Lg ≤ 3584) : ∃ σ9 I9 J9 D9 R9, Rel (n + 1) σ9 I9 J9 D9 R9 ∧ fL_law_b2488 q18 xs Lg σ I J D R (some 4) (some 114) (Int32.ofInt (i : Int)) = q18 σ9 I9 J9 D9 R9 (some 4) (some 114) (Int32.ofInt ((i + 7 : Nat) : Int)) := by
  have x_1 : Int32.ofInt (i : Int) + (1 : Int32) = Int32.ofInt ((i + 1 : Nat) : Int) := by rw [i_addl]; rfl
  have n_1 : Int32.toNatClampNeg (Int32.ofInt ((i + 1 : Nat) : Int)) = i + 1 := by rw [i_tn (by omega), Int.toNat_natCast]
  have G_1 : ¬ (Int32.ofInt ((i + 1 : Nat) : Int) < 0 ∨ Lg ≤ i + 1) := by have q : (Int32.ofInt ((i + 1 : Nat) : Int) < 0 ∨ Lg ≤ Int32.toNatClampNeg (Int32.ofInt ((i + 1 : Nat) : Int))) = False := i_gd (by omega); rw [n_1] at q; rw [q]; exact id
  have x_2 : Int32.ofInt (i : Int) + (2 : Int32) = Int32.ofInt ((i + 2 : Nat) : Int) := by rw [i_addl]; rfl
  have n_2 : Int32.toNatClampNeg (Int32.ofInt ((i + 2 : Nat) : Int)) = i + 2 := by rw [i_tn (by omega), Int.toNat_natCast]
  have G_2 : ¬ (Int32.ofInt ((i + 2 : Nat) : Int) < 0 ∨ Lg ≤ i + 2) := by have q : (Int32.ofInt ((i + 2 : Nat) : Int) < 0 ∨ Lg ≤ Int32.toNatClampNeg (Int32.ofInt ((i + 2 : Nat) : Int))) = False := i_gd (by omega); rw [n_2] at q; rw [q]; exact id
  have x_3 : Int32.ofInt (i : Int) + (3 : Int32) = Int32.ofInt ((i + 3 : Nat) : Int) := by rw [i_addl]; rfl
  have n_3 : Int32.toNatClampNeg (Int32.ofInt ((i + 3 : Nat) : Int)) = i + 3 := by rw [i_tn (by omega), Int.toNat_natCast]
  have G_3 : ¬ (Int32.ofInt ((i + 3 : Nat) : Int) < 0 ∨ Lg ≤ i + 3) := by have q : (Int32.ofInt ((i + 3 : Nat) : Int) < 0 ∨ Lg ≤ Int32.toNatClampNeg (Int32.ofInt ((i + 3 : Nat) : Int))) = False := i_gd (by omega); rw [n_3] at q; rw [q]; exact id
  have x_7 : Int32.ofInt (i : Int) + (7 : Int32) = Int32.ofInt ((i + 7 : Nat) : Int) := by rw [i_addl]; rfl
  obtain ⟨σ1, I1, J1, R1, i1, I2, J2, i2, e1, e2, q0, S1, hR⟩ := s_shares (x1 := (xs (i + 1))) (x2 := (xs (i + 2))) (x3 := (xs (i + 3))) h hn
  refine ⟨σ1, I2, J2, D, R1, hR, ?_⟩
  have r0 := hR.rn
  have r1 := hR.rs
  have rm : nxx σ1 ≤ 600000 ∧ slx σ1 ≤ 7300000 := by omega
  unfold fL_law_b2488
  simp only [x_1, n_1, if_pos G_1, x_2, n_2, if_pos G_2, x_3, n_3, if_pos G_3, x_7]
  rw [ob_some, if_pos (kq4 h.sk), eX11_shares h.sk, e1, ob_some]
  dsimp only
  rw [if_pos rm]
  rw [ob_some, if_pos (kq114 S1), eX12_shares S1, e2, ob_some]
  dsimp only
  rw [if_pos q0]
theorem B_2531 {q18 : (Shp) → (Nat → Nat → Int32) → (Nat → Nat → Int64) → (Nat → Nat → UInt64) → (Nat → Nat → Option Nat) → (Option Nat) → (Option Nat) → (Int32) → (Option (Unit))} {xs : Nat → Int32} {Lg i : Nat} {n : Nat} {σ : Shp} {I : Nat → Nat → Int32} {J : Nat → Nat → Int64} {D : Nat → Nat → UInt64} {R : Nat → Nat → Option Nat} (h : Rel n σ I J D R) (hn : n < 512) (hi : i + 7 ≤ Lg) (hL : Lg ≤ 3584) : ∃ σ9 I9 J9 D9 R9, Rel (n + 1) σ9 I9 J9 D9 R9 ∧ fL_law_b2531 q18 xs Lg σ I J D R (some 4) (some 114) (Int32.ofInt (i : Int)) = q18 σ9 I9 J9 D9 R9 (some 4) (some 114) (Int32.ofInt ((i + 7 : Nat) : Int)) := by
  have x_1 : Int32.ofInt (i : Int) + (1 : Int32) = Int32.ofInt ((i + 1 : Nat) : Int) := by rw [i_addl]; rfl
  have n_1 : Int32.toNatClampNeg (Int32.ofInt ((i + 1 : Nat) : Int)) = i + 1 := by rw [i_tn (by omega), Int.toNat_natCast]
  have G_1 : ¬ (Int32.ofInt ((i + 1 : Nat) : Int) < 0 ∨ Lg ≤ i + 1) := by have q : (Int32.ofInt ((i + 1 : Nat) : Int) < 0 ∨ Lg ≤ Int32.toNatClampNeg (Int32.ofInt ((i + 1 : Nat) : Int))) = False := i_gd (by omega); rw [n_1] at q; rw [q]; exact id
  have x_2 : Int32.ofInt (i : Int) + (2 : Int32) = Int32.ofInt ((i + 2 : Nat) : Int) := by rw [i_addl]; rfl
  have n_2 : Int32.toNatClampNeg (Int32.ofInt ((i + 2 : Nat) : Int)) = i + 2 := by rw [i_tn (by omega), Int.toNat_natCast]
  have G_2 : ¬ (Int32.ofInt ((i + 2 : Nat) : Int) < 0 ∨ Lg ≤ i + 2) := by have q : (Int32.ofInt ((i + 2 : Nat) : Int) < 0 ∨ Lg ≤ Int32.toNatClampNeg (Int32.ofInt ((i + 2 : Nat) : Int))) = False := i_gd (by omega); rw [n_2] at q; rw [q]; exact id
  have x_3 : Int32.ofInt (i : Int) + (3 : Int32) = Int32.ofInt ((i + 3 : Nat) : Int) := by rw [i_addl]; rfl
  have n_3 : Int32.toNatClampNeg (Int32.ofInt ((i + 3 : Nat) : Int)) = i + 3 := by rw [i_tn (by omega), Int.toNat_natCast]
  have G_3 : ¬ (Int32.ofInt ((i + 3 : Nat) : Int) < 0 ∨ Lg ≤ i + 3) := by have q : (Int32.ofInt ((i + 3 : Nat) : Int) < 0 ∨ Lg ≤ Int32.toNatClampNeg (Int32.ofInt ((i + 3 : Nat) : Int))) = False := i_gd (by omega); rw [n_3] at q; rw [q]; exact id
  have x_4 : Int32.ofInt (i : Int) + (4 : Int32) = Int32.ofInt ((i + 4 : Nat) : Int) := by rw [i_addl]; rfl
  have n_4 : Int32.toNatClampNeg (Int32.ofInt ((i + 4 : Nat) : Int)) = i + 4 := by rw [i_tn (by omega), Int.toNat_natCast]
  have G_4 : ¬ (Int32.ofInt ((i + 4 : Nat) : Int) < 0 ∨ Lg ≤ i + 4) := by have q : (Int32.ofInt ((i + 4 : Nat) : Int) < 0 ∨ Lg ≤ Int32.toNatClampNeg (Int32.ofInt ((i + 4 : Nat) : Int))) = False := i_gd (by omega); rw [n_4] at q; rw [q]; exact id
  have x_5 : Int32.ofInt (i : Int) + (5 : Int32) = Int32.ofInt ((i + 5 : Nat) : Int) := by rw [i_addl]; rfl
  have n_5 : Int32.toNatClampNeg (Int32.ofInt ((i + 5 : Nat) : Int)) = i + 5 := by rw [i_tn (by omega), Int.toNat_natCast]
  have G_5 : ¬ (Int32.ofInt ((i + 5 : Nat) : Int) < 0 ∨ Lg ≤ i + 5) := by have q : (Int32.ofInt ((i + 5 : Nat) : Int) < 0 ∨ Lg ≤ Int32.toNatClampNeg (Int32.ofInt ((i + 5 : Nat) : Int))) = False := i_gd (by omega); rw [n_5] at q; rw [q]; exact id
  have x_6 : Int32.ofInt (i : Int) + (6 : Int32) = Int32.ofInt ((i + 6 : Nat) : Int) := by rw [i_addl]; rfl
  have n_6 : Int32.toNatClampNeg (Int32.ofInt ((i + 6 : Nat) : Int)) = i + 6 := by rw [i_tn (by omega), Int.toNat_natCast]
  have G_6 : ¬ (Int32.ofInt ((i + 6 : Nat) : Int) < 0 ∨ Lg ≤ i + 6) := by have q : (Int32.ofInt ((i + 6 : Nat) : Int) < 0 ∨ Lg ≤ Int32.toNatClampNeg (Int32.ofInt ((i + 6 : Nat) : Int))) = False := i_gd (by omega); rw [n_6] at q; rw [q]; exact id
  have x_7 : Int32.ofInt (i : Int) + (7 : Int32) = Int32.ofInt ((i + 7 : Nat) : Int) := by rw [i_addl]; rfl
  obtain ⟨I1, j1, I2, j2, e1, e2, q0, S1, hR⟩ := s_quotient (x1 := (xs (i + 1))) (x2 := (((Int32.toInt64 (xs (i + 2))) <<< (Int32.toInt64 (32 : Int32) &&& 63)) ||| ((Int32.toInt64 (xs (i + 3))) &&& (4294967295 : Int64)))) (x4 := (((Int32.toInt64 (xs (i + 4))) <<< (Int32.toInt64 (32 : Int32) &&& 63)) ||| ((Int32.toInt64 (xs (i + 5))) &&& (4294967295 : Int64)))) (x6 := (xs (i + 6))) h hn
  refine ⟨σ, I2, J, D, R, hR, ?_⟩
  unfold fL_law_b2531
  simp only [x_1, n_1, if_pos G_1, x_2, n_2, if_pos G_2, x_3, n_3, if_pos G_3, x_4, n_4, if_pos G_4, x_5, n_5, if_pos G_5, x_6, n_6, if_pos G_6, x_7]
  rw [ob_some, if_pos (kq4 h.sk), eX11_quotient h.sk, e1, ob_some]
  dsimp only
  rw [ob_some, if_pos (kq114 S1), eX12_quotient S1, e2, ob_some]
  dsimp only
  rw [if_pos q0]
theorem B_2647 {q18 : (Shp) → (Nat → Nat → Int32) → (Nat → Nat → Int64) → (Nat → Nat → UInt64) → (Nat → Nat → Option Nat) → (Option Nat) → (Option Nat) → (Int32) → (Option (Unit))} {xs : Nat → Int32} {Lg i : Nat} {n : Nat} {σ : Shp} {I : Nat → Nat → Int32} {J : Nat → Nat → Int64} {D : Nat → Nat → UInt64} {R : Nat → Nat → Option Nat} (h : Rel n σ I J D R) (hn : n < 512) (hi : i + 7 ≤ Lg) (hL : Lg ≤ 3584) : ∃ σ9 I9 J9 D9 R9, Rel (n + 1) σ9 I9 J9 D9 R9 ∧ fL_law_b2647 q18 xs Lg σ I J D R (some 4) (some 114) (Int32.ofInt (i : Int)) = q18 σ9 I9 J9 D9 R9 (some 4) (some 114) (Int32.ofInt ((i + 7 : Nat) : Int)) := by
  have x_1 : Int32.ofInt (i : Int) + (1 : Int32) = Int32.ofInt ((i + 1 : Nat) : Int) := by rw [i_addl]; rfl
  have n_1 : Int32.toNatClampNeg (Int32.ofInt ((i + 1 : Nat) : Int)) = i + 1 := by rw [i_tn (by omega), Int.toNat_natCast]
  have G_1 : ¬ (Int32.ofInt ((i + 1 : Nat) : Int) < 0 ∨ Lg ≤ i + 1) := by have q : (Int32.ofInt ((i + 1 : Nat) : Int) < 0 ∨ Lg ≤ Int32.toNatClampNeg (Int32.ofInt ((i + 1 : Nat) : Int))) = False := i_gd (by omega); rw [n_1] at q; rw [q]; exact id
  have x_2 : Int32.ofInt (i : Int) + (2 : Int32) = Int32.ofInt ((i + 2 : Nat) : Int) := by rw [i_addl]; rfl
  have n_2 : Int32.toNatClampNeg (Int32.ofInt ((i + 2 : Nat) : Int)) = i + 2 := by rw [i_tn (by omega), Int.toNat_natCast]
  have G_2 : ¬ (Int32.ofInt ((i + 2 : Nat) : Int) < 0 ∨ Lg ≤ i + 2) := by have q : (Int32.ofInt ((i + 2 : Nat) : Int) < 0 ∨ Lg ≤ Int32.toNatClampNeg (Int32.ofInt ((i + 2 : Nat) : Int))) = False := i_gd (by omega); rw [n_2] at q; rw [q]; exact id
  have x_3 : Int32.ofInt (i : Int) + (3 : Int32) = Int32.ofInt ((i + 3 : Nat) : Int) := by rw [i_addl]; rfl
  have n_3 : Int32.toNatClampNeg (Int32.ofInt ((i + 3 : Nat) : Int)) = i + 3 := by rw [i_tn (by omega), Int.toNat_natCast]
  have G_3 : ¬ (Int32.ofInt ((i + 3 : Nat) : Int) < 0 ∨ Lg ≤ i + 3) := by have q : (Int32.ofInt ((i + 3 : Nat) : Int) < 0 ∨ Lg ≤ Int32.toNatClampNeg (Int32.ofInt ((i + 3 : Nat) : Int))) = False := i_gd (by omega); rw [n_3] at q; rw [q]; exact id
  have x_4 : Int32.ofInt (i : Int) + (4 : Int32) = Int32.ofInt ((i + 4 : Nat) : Int) := by rw [i_addl]; rfl
  have n_4 : Int32.toNatClampNeg (Int32.ofInt ((i + 4 : Nat) : Int)) = i + 4 := by rw [i_tn (by omega), Int.toNat_natCast]
  have G_4 : ¬ (Int32.ofInt ((i + 4 : Nat) : Int) < 0 ∨ Lg ≤ i + 4) := by have q : (Int32.ofInt ((i + 4 : Nat) : Int) < 0 ∨ Lg ≤ Int32.toNatClampNeg (Int32.ofInt ((i + 4 : Nat) : Int))) = False := i_gd (by omega); rw [n_4] at q; rw [q]; exact id
  have x_5 : Int32.ofInt (i : Int) + (5 : Int32) = Int32.ofInt ((i + 5 : Nat) : Int) := by rw [i_addl]; rfl
  have n_5 : Int32.toNatClampNeg (Int32.ofInt ((i + 5 : Nat) : Int)) = i + 5 := by rw [i_tn (by omega), Int.toNat_natCast]
  have G_5 : ¬ (Int32.ofInt ((i + 5 : Nat) : Int) < 0 ∨ Lg ≤ i + 5) := by have q : (Int32.ofInt ((i + 5 : Nat) : Int) < 0 ∨ Lg ≤ Int32.toNatClampNeg (Int32.ofInt ((i + 5 : Nat) : Int))) = False := i_gd (by omega); rw [n_5] at q; rw [q]; exact id
  have x_7 : Int32.ofInt (i : Int) + (7 : Int32) = Int32.ofInt ((i + 7 : Nat) : Int) := by rw [i_addl]; rfl
  obtain ⟨I1, i1, I2, i2, e1, e2, q0, S1, hR⟩ := s_compare (x1 := (xs (i + 1))) (x2 := (xs (i + 2))) (x3 := (xs (i + 3))) (x4 := (xs (i + 4))) (x5 := (xs (i + 5))) h hn
  refine ⟨σ, I2, J, D, R, hR, ?_⟩
  unfold fL_law_b2647
  simp only [x_1, n_1, if_pos G_1, x_2, n_2, if_pos G_2, x_3, n_3, if_pos G_3, x_4, n_4, if_pos G_4, x_5, n_5, if_pos G_5, x_7]
  rw [ob_some, if_pos (kq4 h.sk), eX11_compare h.sk, e1, ob_some]
  dsimp only
  rw [ob_some, if_pos (kq114 S1), eX12_compare S1, e2, ob_some]
  dsimp only
  rw [if_pos q0]
theorem B_2710 {q18 : (Shp) → (Nat → Nat → Int32) → (Nat → Nat → Int64) → (Nat → Nat → UInt64) → (Nat → Nat → Option Nat) → (Option Nat) → (Option Nat) → (Int32) → (Option (Unit))} {xs : Nat → Int32} {Lg i : Nat} {n : Nat} {σ : Shp} {I : Nat → Nat → Int32} {J : Nat → Nat → Int64} {D : Nat → Nat → UInt64} {R : Nat → Nat → Option Nat} (h : Rel n σ I J D R) (hn : n < 512) (hi : i + 7 ≤ Lg) (hL : Lg ≤ 3584) : ∃ σ9 I9 J9 D9 R9, Rel (n + 1) σ9 I9 J9 D9 R9 ∧ fL_law_b2710 q18 xs Lg σ I J D R (some 4) (some 114) (Int32.ofInt (i : Int)) = q18 σ9 I9 J9 D9 R9 (some 4) (some 114) (Int32.ofInt ((i + 7 : Nat) : Int)) := by
  have x_1 : Int32.ofInt (i : Int) + (1 : Int32) = Int32.ofInt ((i + 1 : Nat) : Int) := by rw [i_addl]; rfl
  have n_1 : Int32.toNatClampNeg (Int32.ofInt ((i + 1 : Nat) : Int)) = i + 1 := by rw [i_tn (by omega), Int.toNat_natCast]
  have G_1 : ¬ (Int32.ofInt ((i + 1 : Nat) : Int) < 0 ∨ Lg ≤ i + 1) := by have q : (Int32.ofInt ((i + 1 : Nat) : Int) < 0 ∨ Lg ≤ Int32.toNatClampNeg (Int32.ofInt ((i + 1 : Nat) : Int))) = False := i_gd (by omega); rw [n_1] at q; rw [q]; exact id
  have x_2 : Int32.ofInt (i : Int) + (2 : Int32) = Int32.ofInt ((i + 2 : Nat) : Int) := by rw [i_addl]; rfl
  have n_2 : Int32.toNatClampNeg (Int32.ofInt ((i + 2 : Nat) : Int)) = i + 2 := by rw [i_tn (by omega), Int.toNat_natCast]
  have G_2 : ¬ (Int32.ofInt ((i + 2 : Nat) : Int) < 0 ∨ Lg ≤ i + 2) := by have q : (Int32.ofInt ((i + 2 : Nat) : Int) < 0 ∨ Lg ≤ Int32.toNatClampNeg (Int32.ofInt ((i + 2 : Nat) : Int))) = False := i_gd (by omega); rw [n_2] at q; rw [q]; exact id
  have x_3 : Int32.ofInt (i : Int) + (3 : Int32) = Int32.ofInt ((i + 3 : Nat) : Int) := by rw [i_addl]; rfl
  have n_3 : Int32.toNatClampNeg (Int32.ofInt ((i + 3 : Nat) : Int)) = i + 3 := by rw [i_tn (by omega), Int.toNat_natCast]
  have G_3 : ¬ (Int32.ofInt ((i + 3 : Nat) : Int) < 0 ∨ Lg ≤ i + 3) := by have q : (Int32.ofInt ((i + 3 : Nat) : Int) < 0 ∨ Lg ≤ Int32.toNatClampNeg (Int32.ofInt ((i + 3 : Nat) : Int))) = False := i_gd (by omega); rw [n_3] at q; rw [q]; exact id
  have x_7 : Int32.ofInt (i : Int) + (7 : Int32) = Int32.ofInt ((i + 7 : Nat) : Int) := by rw [i_addl]; rfl
  obtain ⟨I1, J1, j1, I2, J2, D2, j2, e1, e2, q0, S1, hR⟩ := s_real (x1 := (xs (i + 1))) (x2 := (xs (i + 2))) (x3 := (xs (i + 3))) h hn
  refine ⟨σ, I2, J2, D2, R, hR, ?_⟩
  unfold fL_law_b2710
  simp only [x_1, n_1, if_pos G_1, x_2, n_2, if_pos G_2, x_3, n_3, if_pos G_3, x_7]
  rw [ob_some, if_pos (kq4 h.sk), eX11_real h.sk, e1, ob_some]
  dsimp only
  rw [ob_some, if_pos (kq114 S1), eX12_real S1, e2, ob_some]
  dsimp only
  rw [if_pos q0]
theorem B_2754 {q18 : (Shp) → (Nat → Nat → Int32) → (Nat → Nat → Int64) → (Nat → Nat → UInt64) → (Nat → Nat → Option Nat) → (Option Nat) → (Option Nat) → (Int32) → (Option (Unit))} {xs : Nat → Int32} {Lg i : Nat} {n : Nat} {σ : Shp} {I : Nat → Nat → Int32} {J : Nat → Nat → Int64} {D : Nat → Nat → UInt64} {R : Nat → Nat → Option Nat} (h : Rel n σ I J D R) (hn : n < 512) (hi : i + 7 ≤ Lg) (hL : Lg ≤ 3584) : ∃ σ9 I9 J9 D9 R9, Rel (n + 1) σ9 I9 J9 D9 R9 ∧ fL_law_b2754 q18 xs Lg σ I J D R (some 4) (some 114) (Int32.ofInt (i : Int)) = q18 σ9 I9 J9 D9 R9 (some 4) (some 114) (Int32.ofInt ((i + 7 : Nat) : Int)) := by
  have x_1 : Int32.ofInt (i : Int) + (1 : Int32) = Int32.ofInt ((i + 1 : Nat) : Int) := by rw [i_addl]; rfl
  have n_1 : Int32.toNatClampNeg (Int32.ofInt ((i + 1 : Nat) : Int)) = i + 1 := by rw [i_tn (by omega), Int.toNat_natCast]
  have G_1 : ¬ (Int32.ofInt ((i + 1 : Nat) : Int) < 0 ∨ Lg ≤ i + 1) := by have q : (Int32.ofInt ((i + 1 : Nat) : Int) < 0 ∨ Lg ≤ Int32.toNatClampNeg (Int32.ofInt ((i + 1 : Nat) : Int))) = False := i_gd (by omega); rw [n_1] at q; rw [q]; exact id
  have x_7 : Int32.ofInt (i : Int) + (7 : Int32) = Int32.ofInt ((i + 7 : Nat) : Int) := by rw [i_addl]; rfl
  obtain ⟨I1, i1, I2, i2, e1, e2, q0, S1, hR⟩ := s_wholeMean (x1 := (xs (i + 1))) h hn
  refine ⟨σ, I2, J, D, R, hR, ?_⟩
  unfold fL_law_b2754
  simp only [x_1, n_1, if_pos G_1, x_7]
  rw [ob_some, if_pos (kq4 h.sk), eX11_wholeMean h.sk, e1, ob_some]
  dsimp only
  rw [ob_some, if_pos (kq114 S1), eX12_wholeMean S1, e2, ob_some]
  dsimp only
  rw [if_pos q0]
