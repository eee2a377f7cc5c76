/-! ===== the law's blocks ===== -/
theorem B_2777 {q18 : (Shp) → (Nat → Nat → Int32) → (Nat → Nat → Int64) → (Nat → Nat → UInt64) → (Nat → Nat → Option Nat) → (Option Nat) → (Option Nat) → (Int32) → (Option (Unit))} {xs : Nat → Int32} {Lg i : Nat} {n : Nat} {σ : Shp} {I : Nat → Nat → Int32} {J : Nat → Nat → Int64} {D : Nat → Nat → UInt64} {R : Nat → Nat → Option Nat} (h : Rel n σ I J D R) (hn : n < 512) (hi : i + 7 ≤ Lg) (hL : Lg ≤ 3584) : ∃ σ9 I9 J9 D9 R9, Rel (n + 1) σ9 I9 J9 D9 R9 ∧ fL_law_b2777 q18 xs Lg σ I J D R (some 4) (some 114) (Int32.ofInt (i : Int)) = q18 σ9 I9 J9 D9 R9 (some 4) (some 114) (Int32.ofInt ((i + 7 : Nat) : Int)) := by
  have x_1 : Int32.ofInt (i : Int) + (1 : Int32) = Int32.ofInt ((i + 1 : Nat) : Int) := by rw [i_addl]; rfl
  have n_1 : Int32.toNatClampNeg (Int32.ofInt ((i + 1 : Nat) : Int)) = i + 1 := by rw [i_tn (by omega), Int.toNat_natCast]
  have G_1 : ¬ (Int32.ofInt ((i + 1 : Nat) : Int) < 0 ∨ Lg ≤ i + 1) := by have q : (Int32.ofInt ((i + 1 : Nat) : Int) < 0 ∨ Lg ≤ Int32.toNatClampNeg (Int32.ofInt ((i + 1 : Nat) : Int))) = False := i_gd (by omega); rw [n_1] at q; rw [q]; exact id
  have x_2 : Int32.ofInt (i : Int) + (2 : Int32) = Int32.ofInt ((i + 2 : Nat) : Int) := by rw [i_addl]; rfl
  have n_2 : Int32.toNatClampNeg (Int32.ofInt ((i + 2 : Nat) : Int)) = i + 2 := by rw [i_tn (by omega), Int.toNat_natCast]
  have G_2 : ¬ (Int32.ofInt ((i + 2 : Nat) : Int) < 0 ∨ Lg ≤ i + 2) := by have q : (Int32.ofInt ((i + 2 : Nat) : Int) < 0 ∨ Lg ≤ Int32.toNatClampNeg (Int32.ofInt ((i + 2 : Nat) : Int))) = False := i_gd (by omega); rw [n_2] at q; rw [q]; exact id
  have x_3 : Int32.ofInt (i : Int) + (3 : Int32) = Int32.ofInt ((i + 3 : Nat) : Int) := by rw [i_addl]; rfl
  have n_3 : Int32.toNatClampNeg (Int32.ofInt ((i + 3 : Nat) : Int)) = i + 3 := by rw [i_tn (by omega), Int.toNat_natCast]
  have G_3 : ¬ (Int32.ofInt ((i + 3 : Nat) : Int) < 0 ∨ Lg ≤ i + 3) := by have q : (Int32.ofInt ((i + 3 : Nat) : Int) < 0 ∨ Lg ≤ Int32.toNatClampNeg (Int32.ofInt ((i + 3 : Nat) : Int))) = False := i_gd (by omega); rw [n_3] at q; rw [q]; exact id
  have x_7 : Int32.ofInt (i : Int) + (7 : Int32) = Int32.ofInt ((i + 7 : Nat) : Int) := by rw [i_addl]; rfl
  obtain ⟨I1, i1, I2, i2, e1, e2, q0, S1, hR⟩ := s_salt (x1 := (xs (i + 1))) (x2 := (xs (i + 2))) (x3 := (xs (i + 3))) h hn
  refine ⟨σ, I2, J, D, R, hR, ?_⟩
  unfold fL_law_b2777
  simp only [x_1, n_1, if_pos G_1, x_2, n_2, if_pos G_2, x_3, n_3, if_pos G_3, x_7]
  rw [ob_some, if_pos (kq4 h.sk), eX11_salt h.sk, e1, ob_some]
  dsimp only
  rw [ob_some, if_pos (kq114 S1), eX12_salt S1, e2, ob_some]
  dsimp only
  rw [if_pos q0]
theorem B_2820 {q18 : (Shp) → (Nat → Nat → Int32) → (Nat → Nat → Int64) → (Nat → Nat → UInt64) → (Nat → Nat → Option Nat) → (Option Nat) → (Option Nat) → (Int32) → (Option (Unit))} {xs : Nat → Int32} {Lg i : Nat} {n : Nat} {σ : Shp} {I : Nat → Nat → Int32} {J : Nat → Nat → Int64} {D : Nat → Nat → UInt64} {R : Nat → Nat → Option Nat} (h : Rel n σ I J D R) (hn : n < 512) (hi : i + 7 ≤ Lg) (hL : Lg ≤ 3584) : ∃ σ9 I9 J9 D9 R9, Rel (n + 1) σ9 I9 J9 D9 R9 ∧ fL_law_b2820 q18 xs Lg σ I J D R (some 4) (some 114) (Int32.ofInt (i : Int)) = q18 σ9 I9 J9 D9 R9 (some 4) (some 114) (Int32.ofInt ((i + 7 : Nat) : Int)) := by
  have x_7 : Int32.ofInt (i : Int) + (7 : Int32) = Int32.ofInt ((i + 7 : Nat) : Int) := by rw [i_addl]; rfl
  obtain ⟨I1, J1, i1, I2, J2, i2, e1, e2, q0, S1, hR⟩ := s_work  h hn
  refine ⟨σ, I2, J2, D, R, hR, ?_⟩
  unfold fL_law_b2820
  simp only [x_7]
  rw [ob_some, if_pos (kq4 h.sk), eX11_work h.sk, e1, ob_some]
  dsimp only
  rw [ob_some, if_pos (kq114 S1), eX12_work S1, e2, ob_some]
  dsimp only
  rw [if_pos q0]
theorem B_2833 {q18 : (Shp) → (Nat → Nat → Int32) → (Nat → Nat → Int64) → (Nat → Nat → UInt64) → (Nat → Nat → Option Nat) → (Option Nat) → (Option Nat) → (Int32) → (Option (Unit))} {xs : Nat → Int32} {Lg i : Nat} {n : Nat} {σ : Shp} {I : Nat → Nat → Int32} {J : Nat → Nat → Int64} {D : Nat → Nat → UInt64} {R : Nat → Nat → Option Nat} (h : Rel n σ I J D R) (hn : n < 512) (hi : i + 7 ≤ Lg) (hL : Lg ≤ 3584) : ∃ σ9 I9 J9 D9 R9, Rel (n + 1) σ9 I9 J9 D9 R9 ∧ fL_law_b2833 q18 xs Lg σ I J D R (some 4) (some 114) (Int32.ofInt (i : Int)) = q18 σ9 I9 J9 D9 R9 (some 4) (some 114) (Int32.ofInt ((i + 7 : Nat) : Int)) := by
  have x_1 : Int32.ofInt (i : Int) + (1 : Int32) = Int32.ofInt ((i + 1 : Nat) : Int) := by rw [i_addl]; rfl
  have n_1 : Int32.toNatClampNeg (Int32.ofInt ((i + 1 : Nat) : Int)) = i + 1 := by rw [i_tn (by omega), Int.toNat_natCast]
  have G_1 : ¬ (Int32.ofInt ((i + 1 : Nat) : Int) < 0 ∨ Lg ≤ i + 1) := by have q : (Int32.ofInt ((i + 1 : Nat) : Int) < 0 ∨ Lg ≤ Int32.toNatClampNeg (Int32.ofInt ((i + 1 : Nat) : Int))) = False := i_gd (by omega); rw [n_1] at q; rw [q]; exact id
  have x_2 : Int32.ofInt (i : Int) + (2 : Int32) = Int32.ofInt ((i + 2 : Nat) : Int) := by rw [i_addl]; rfl
  have n_2 : Int32.toNatClampNeg (Int32.ofInt ((i + 2 : Nat) : Int)) = i + 2 := by rw [i_tn (by omega), Int.toNat_natCast]
  have G_2 : ¬ (Int32.ofInt ((i + 2 : Nat) : Int) < 0 ∨ Lg ≤ i + 2) := by have q : (Int32.ofInt ((i + 2 : Nat) : Int) < 0 ∨ Lg ≤ Int32.toNatClampNeg (Int32.ofInt ((i + 2 : Nat) : Int))) = False := i_gd (by omega); rw [n_2] at q; rw [q]; exact id
  have x_7 : Int32.ofInt (i : Int) + (7 : Int32) = Int32.ofInt ((i + 7 : Nat) : Int) := by rw [i_addl]; rfl
  obtain ⟨j1, j2, e1, e2, q0, S1, hR⟩ := s_worked (x1 := (xs (i + 1))) (x2 := (xs (i + 2))) h hn
  refine ⟨σ, I, J, D, R, hR, ?_⟩
  unfold fL_law_b2833
  simp only [x_1, n_1, if_pos G_1, x_2, n_2, if_pos G_2, x_7]
  rw [ob_some, if_pos (kq4 h.sk), eX11_worked h.sk, e1, ob_some]
  rw [ob_some, if_pos (kq114 S1), eX12_worked S1, e2, ob_some]
  rw [if_pos q0]
theorem B_2867 {q18 : (Shp) → (Nat → Nat → Int32) → (Nat → Nat → Int64) → (Nat → Nat → UInt64) → (Nat → Nat → Option Nat) → (Option Nat) → (Option Nat) → (Int32) → (Option (Unit))} {xs : Nat → Int32} {Lg i : Nat} {n : Nat} {σ : Shp} {I : Nat → Nat → Int32} {J : Nat → Nat → Int64} {D : Nat → Nat → UInt64} {R : Nat → Nat → Option Nat} (h : Rel n σ I J D R) (hn : n < 512) (hi : i + 7 ≤ Lg) (hL : Lg ≤ 3584) : ∃ σ9 I9 J9 D9 R9, Rel (n + 1) σ9 I9 J9 D9 R9 ∧ fL_law_b2867 q18 xs Lg σ I J D R (some 4) (some 114) (Int32.ofInt (i : Int)) = q18 σ9 I9 J9 D9 R9 (some 4) (some 114) (Int32.ofInt ((i + 7 : Nat) : Int)) := by
  have x_1 : Int32.ofInt (i : Int) + (1 : Int32) = Int32.ofInt ((i + 1 : Nat) : Int) := by rw [i_addl]; rfl
  have n_1 : Int32.toNatClampNeg (Int32.ofInt ((i + 1 : Nat) : Int)) = i + 1 := by rw [i_tn (by omega), Int.toNat_natCast]
  have G_1 : ¬ (Int32.ofInt ((i + 1 : Nat) : Int) < 0 ∨ Lg ≤ i + 1) := by have q : (Int32.ofInt ((i + 1 : Nat) : Int) < 0 ∨ Lg ≤ Int32.toNatClampNeg (Int32.ofInt ((i + 1 : Nat) : Int))) = False := i_gd (by omega); rw [n_1] at q; rw [q]; exact id
  have x_2 : Int32.ofInt (i : Int) + (2 : Int32) = Int32.ofInt ((i + 2 : Nat) : Int) := by rw [i_addl]; rfl
  have n_2 : Int32.toNatClampNeg (Int32.ofInt ((i + 2 : Nat) : Int)) = i + 2 := by rw [i_tn (by omega), Int.toNat_natCast]
  have G_2 : ¬ (Int32.ofInt ((i + 2 : Nat) : Int) < 0 ∨ Lg ≤ i + 2) := by have q : (Int32.ofInt ((i + 2 : Nat) : Int) < 0 ∨ Lg ≤ Int32.toNatClampNeg (Int32.ofInt ((i + 2 : Nat) : Int))) = False := i_gd (by omega); rw [n_2] at q; rw [q]; exact id
  have x_3 : Int32.ofInt (i : Int) + (3 : Int32) = Int32.ofInt ((i + 3 : Nat) : Int) := by rw [i_addl]; rfl
  have n_3 : Int32.toNatClampNeg (Int32.ofInt ((i + 3 : Nat) : Int)) = i + 3 := by rw [i_tn (by omega), Int.toNat_natCast]
  have G_3 : ¬ (Int32.ofInt ((i + 3 : Nat) : Int) < 0 ∨ Lg ≤ i + 3) := by have q : (Int32.ofInt ((i + 3 : Nat) : Int) < 0 ∨ Lg ≤ Int32.toNatClampNeg (Int32.ofInt ((i + 3 : Nat) : Int))) = False := i_gd (by omega); rw [n_3] at q; rw [q]; exact id
  have x_7 : Int32.ofInt (i : Int) + (7 : Int32) = Int32.ofInt ((i + 7 : Nat) : Int) := by rw [i_addl]; rfl
  obtain ⟨J1, i1, J2, i2, e1, e2, q0, S1, hR⟩ := s_count (x1 := (xs (i + 1))) (x2 := (xs (i + 2))) (x3 := (xs (i + 3))) h hn
  refine ⟨σ, I, J2, D, R, hR, ?_⟩
  unfold fL_law_b2867
  simp only [x_1, n_1, if_pos G_1, x_2, n_2, if_pos G_2, x_3, n_3, if_pos G_3, x_7]
  rw [ob_some, if_pos (kq4 h.sk), eX11_count h.sk, e1, ob_some]
  dsimp only
  rw [ob_some, if_pos (kq114 S1), eX12_count S1, e2, ob_some]
  dsimp only
  rw [if_pos q0]
theorem B_2910 {q18 : (Shp) → (Nat → Nat → Int32) → (Nat → Nat → Int64) → (Nat → Nat → UInt64) → (Nat → Nat → Option Nat) → (Option Nat) → (Option Nat) → (Int32) → (Option (Unit))} {xs : Nat → Int32} {Lg i : Nat} {n : Nat} {σ : Shp} {I : Nat → Nat → Int32} {J : Nat → Nat → Int64} {D : Nat → Nat → UInt64} {R : Nat → Nat → Option Nat} (h : Rel n σ I J D R) (hn : n < 512) (hi : i + 7 ≤ Lg) (hL : Lg ≤ 3584) : ∃ σ9 I9 J9 D9 R9, Rel (n + 1) σ9 I9 J9 D9 R9 ∧ fL_law_b2910 q18 xs Lg σ I J D R (some 4) (some 114) (Int32.ofInt (i : Int)) = q18 σ9 I9 J9 D9 R9 (some 4) (some 114) (Int32.ofInt ((i + 7 : Nat) : Int)) := by
  have x_1 : Int32.ofInt (i : Int) + (1 : Int32) = Int32.ofInt ((i + 1 : Nat) : Int) := by rw [i_addl]; rfl
  have n_1 : Int32.toNatClampNeg (Int32.ofInt ((i + 1 : Nat) : Int)) = i + 1 := by rw [i_tn (by omega), Int.toNat_natCast]
  have G_1 : ¬ (Int32.ofInt ((i + 1 : Nat) : Int) < 0 ∨ Lg ≤ i + 1) := by have q : (Int32.ofInt ((i + 1 : Nat) : Int) < 0 ∨ Lg ≤ Int32.toNatClampNeg (Int32.ofInt ((i + 1 : Nat) : Int))) = False := i_gd (by omega); rw [n_1] at q; rw [q]; exact id
  have x_2 : Int32.ofInt (i : Int) + (2 : Int32) = Int32.ofInt ((i + 2 : Nat) : Int) := by rw [i_addl]; rfl
  have n_2 : Int32.toNatClampNeg (Int32.ofInt ((i + 2 : Nat) : Int)) = i + 2 := by rw [i_tn (by omega), Int.toNat_natCast]
  have G_2 : ¬ (Int32.ofInt ((i + 2 : Nat) : Int) < 0 ∨ Lg ≤ i + 2) := by have q : (Int32.ofInt ((i + 2 : Nat) : Int) < 0 ∨ Lg ≤ Int32.toNatClampNeg (Int32.ofInt ((i + 2 : Nat) : Int))) = False := i_gd (by omega); rw [n_2] at q; rw [q]; exact id
  have x_3 : Int32.ofInt (i : Int) + (3 : Int32) = Int32.ofInt ((i + 3 : Nat) : Int) := by rw [i_addl]; rfl
  have n_3 : Int32.toNatClampNeg (Int32.ofInt ((i + 3 : Nat) : Int)) = i + 3 := by rw [i_tn (by omega), Int.toNat_natCast]
  have G_3 : ¬ (Int32.ofInt ((i + 3 : Nat) : Int) < 0 ∨ Lg ≤ i + 3) := by have q : (Int32.ofInt ((i + 3 : Nat) : Int) < 0 ∨ Lg ≤ Int32.toNatClampNeg (Int32.ofInt ((i + 3 : Nat) : Int))) = False := i_gd (by omega); rw [n_3] at q; rw [q]; exact id
  have x_4 : Int32.ofInt (i : Int) + (4 : Int32) = Int32.ofInt ((i + 4 : Nat) : Int) := by rw [i_addl]; rfl
  have n_4 : Int32.toNatClampNeg (Int32.ofInt ((i + 4 : Nat) : Int)) = i + 4 := by rw [i_tn (by omega), Int.toNat_natCast]
  have G_4 : ¬ (Int32.ofInt ((i + 4 : Nat) : Int) < 0 ∨ Lg ≤ i + 4) := by have q : (Int32.ofInt ((i + 4 : Nat) : Int) < 0 ∨ Lg ≤ Int32.toNatClampNeg (Int32.ofInt ((i + 4 : Nat) : Int))) = False := i_gd (by omega); rw [n_4] at q; rw [q]; exact id
  have x_5 : Int32.ofInt (i : Int) + (5 : Int32) = Int32.ofInt ((i + 5 : Nat) : Int) := by rw [i_addl]; rfl
  have n_5 : Int32.toNatClampNeg (Int32.ofInt ((i + 5 : Nat) : Int)) = i + 5 := by rw [i_tn (by omega), Int.toNat_natCast]
  have G_5 : ¬ (Int32.ofInt ((i + 5 : Nat) : Int) < 0 ∨ Lg ≤ i + 5) := by have q : (Int32.ofInt ((i + 5 : Nat) : Int) < 0 ∨ Lg ≤ Int32.toNatClampNeg (Int32.ofInt ((i + 5 : Nat) : Int))) = False := i_gd (by omega); rw [n_5] at q; rw [q]; exact id
  have x_7 : Int32.ofInt (i : Int) + (7 : Int32) = Int32.ofInt ((i + 7 : Nat) : Int) := by rw [i_addl]; rfl
  obtain ⟨I1, i1, I2, i2, e1, e2, q0, S1, hR⟩ := s_parts (x1 := (xs (i + 1))) (x2 := (xs (i + 2))) (x3 := (xs (i + 3))) (x4 := (xs (i + 4))) (x5 := (xs (i + 5))) h hn
  refine ⟨σ, I2, J, D, R, hR, ?_⟩
  unfold fL_law_b2910
  simp only [x_1, n_1, if_pos G_1, x_2, n_2, if_pos G_2, x_3, n_3, if_pos G_3, x_4, n_4, if_pos G_4, x_5, n_5, if_pos G_5, x_7]
  rw [ob_some, if_pos (kq4 h.sk), eX11_parts h.sk, e1, ob_some]
  dsimp only
  rw [ob_some, if_pos (kq114 S1), eX12_parts S1, e2, ob_some]
  dsimp only
  rw [if_pos q0]
theorem B_2973 {q18 : (Shp) → (Nat → Nat → Int32) → (Nat → Nat → Int64) → (Nat → Nat → UInt64) → (Nat → Nat → Option Nat) → (Option Nat) → (Option Nat) → (Int32) → (Option (Unit))} {xs : Nat → Int32} {Lg i : Nat} {n : Nat} {σ : Shp} {I : Nat → Nat → Int32} {J : Nat → Nat → Int64} {D : Nat → Nat → UInt64} {R : Nat → Nat → Option Nat} (h : Rel n σ I J D R) (hn : n < 512) (hi : i + 7 ≤ Lg) (hL : Lg ≤ 3584) : ∃ σ9 I9 J9 D9 R9, Rel (n + 1) σ9 I9 J9 D9 R9 ∧ fL_law_b2973 q18 xs Lg σ I J D R (some 4) (some 114) (Int32.ofInt (i : Int)) = q18 σ9 I9 J9 D9 R9 (some 4) (some 114) (Int32.ofInt ((i + 7 : Nat) : Int)) := by
  have x_1 : Int32.ofInt (i : Int) + (1 : Int32) = Int32.ofInt ((i + 1 : Nat) : Int) := by rw [i_addl]; rfl
  have n_1 : Int32.toNatClampNeg (Int32.ofInt ((i + 1 : Nat) : Int)) = i + 1 := by rw [i_tn (by omega), Int.toNat_natCast]
  have G_1 : ¬ (Int32.ofInt ((i + 1 : Nat) : Int) < 0 ∨ Lg ≤ i + 1) := by have q : (Int32.ofInt ((i + 1 : Nat) : Int) < 0 ∨ Lg ≤ Int32.toNatClampNeg (Int32.ofInt ((i + 1 : Nat) : Int))) = False := i_gd (by omega); rw [n_1] at q; rw [q]; exact id
  have x_7 : Int32.ofInt (i : Int) + (7 : Int32) = Int32.ofInt ((i + 7 : Nat) : Int) := by rw [i_addl]; rfl
  obtain ⟨I1, J1, i1, I2, J2, i2, e1, e2, q0, S1, hR⟩ := s_day (x1 := (xs (i + 1))) h hn
  refine ⟨σ, I2, J2, D, R, hR, ?_⟩
  unfold fL_law_b2973
  simp only [x_1, n_1, if_pos G_1, x_7]
  rw [ob_some, if_pos (kq4 h.sk), eX11_day h.sk, e1, ob_some]
  dsimp only
  rw [ob_some, if_pos (kq114 S1), eX12_day S1, e2, ob_some]
  dsimp only
  rw [if_pos q0]
theorem B_2996 {q18 : (Shp) → (Nat → Nat → Int32) → (Nat → Nat → Int64) → (Nat → Nat → UInt64) → (Nat → Nat → Option Nat) → (Option Nat) → (Option Nat) → (Int32) → (Option (Unit))} {xs : Nat → Int32} {Lg i : Nat} {n : Nat} {σ : Shp} {I : Nat → Nat → Int32} {J : Nat → Nat → Int64} {D : Nat → Nat → UInt64} {R : Nat → Nat → Option Nat} (h : Rel n σ I J D R) (hn : n < 512) (hi : i + 7 ≤ Lg) (hL : Lg ≤ 3584) : ∃ σ9 I9 J9 D9 R9, Rel (n + 1) σ9 I9 J9 D9 R9 ∧ fL_law_b2996 q18 xs Lg σ I J D R (some 4) (some 114) (Int32.ofInt (i : Int)) = q18 σ9 I9 J9 D9 R9 (some 4) (some 114) (Int32.ofInt ((i + 7 : Nat) : Int)) := by
  have x_1 : Int32.ofInt (i : Int) + (1 : Int32) = Int32.ofInt ((i + 1 : Nat) : Int) := by rw [i_addl]; rfl
  have n_1 : Int32.toNatClampNeg (Int32.ofInt ((i + 1 : Nat) : Int)) = i + 1 := by rw [i_tn (by omega), Int.toNat_natCast]
  have G_1 : ¬ (Int32.ofInt ((i + 1 : Nat) : Int) < 0 ∨ Lg ≤ i + 1) := by have q : (Int32.ofInt ((i + 1 : Nat) : Int) < 0 ∨ Lg ≤ Int32.toNatClampNeg (Int32.ofInt ((i + 1 : Nat) : Int))) = False := i_gd (by omega); rw [n_1] at q; rw [q]; exact id
  have x_7 : Int32.ofInt (i : Int) + (7 : Int32) = Int32.ofInt ((i + 7 : Nat) : Int) := by rw [i_addl]; rfl
  obtain ⟨I1, J1, i1, I2, J2, i2, e1, e2, q0, S1, hR⟩ := s_spray (x1 := (xs (i + 1))) h hn
  refine ⟨σ, I2, J2, D, R, hR, ?_⟩
  unfold fL_law_b2996
  simp only [x_1, n_1, if_pos G_1, x_7]
  rw [ob_some, if_pos (kq4 h.sk), eX11_spray h.sk, e1, ob_some]
  dsimp only
  rw [ob_some, if_pos (kq114 S1), eX12_spray S1, e2, ob_some]
  dsimp only
  rw [if_pos q0]
theorem B_3019 {q18 : (Shp) → (Nat → Nat → Int32) → (Nat → Nat → Int64) → (Nat → Nat → UInt64) → (Nat → Nat → Option Nat) → (Option Nat) → (Option Nat) → (Int32) → (Option (Unit))} {xs : Nat → Int32} {Lg i : Nat} {n : Nat} {σ : Shp} {I : Nat → Nat → Int32} {J : Nat → Nat → Int64} {D : Nat → Nat → UInt64} {R : Nat → Nat → Option Nat} (h : Rel n σ I J D R) (hn : n < 512) (hi : i + 7 ≤ Lg) (hL : Lg ≤ 3584) : ∃ σ9 I9 J9 D9 R9, Rel (n + 1) σ9 I9 J9 D9 R9 ∧ fL_law_b3019 q18 xs Lg σ I J D R (some 4) (some 114) (Int32.ofInt (i : Int)) = q18 σ9 I9 J9 D9 R9 (some 4) (some 114) (Int32.ofInt ((i + 7 : Nat) : Int)) := by
  have x_1 : Int32.ofInt (i : Int) + (1 : Int32) = Int32.ofInt ((i + 1 : Nat) : Int) := by rw [i_addl]; rfl
  have n_1 : Int32.toNatClampNeg (Int32.ofInt ((i + 1 : Nat) : Int)) = i + 1 := by rw [i_tn (by omega), Int.toNat_natCast]
  have G_1 : ¬ (Int32.ofInt ((i + 1 : Nat) : Int) < 0 ∨ Lg ≤ i + 1) := by have q : (Int32.ofInt ((i + 1 : Nat) : Int) < 0 ∨ Lg ≤ Int32.toNatClampNeg (Int32.ofInt ((i + 1 : Nat) : Int))) = False := i_gd (by omega); rw [n_1] at q; rw [q]; exact id
  have x_2 : Int32.ofInt (i : Int) + (2 : Int32) = Int32.ofInt ((i + 2 : Nat) : Int) := by rw [i_addl]; rfl
  have n_2 : Int32.toNatClampNeg (Int32.ofInt ((i + 2 : Nat) : Int)) = i + 2 := by rw [i_tn (by omega), Int.toNat_natCast]
  have G_2 : ¬ (Int32.ofInt ((i + 2 : Nat) : Int) < 0 ∨ Lg ≤ i + 2) := by have q : (Int32.ofInt ((i + 2 : Nat) : Int) < 0 ∨ Lg ≤ Int32.toNatClampNeg (Int32.ofInt ((i + 2 : Nat) : Int))) = False := i_gd (by omega); rw [n_2] at q; rw [q]; exact id
  have x_7 : Int32.ofInt (i : Int) + (7 : Int32) = Int32.ofInt ((i + 7 : Nat) : Int) := by rw [i_addl]; rfl
  obtain ⟨i1, i2, e1, e2, q0, S1, hR⟩ := s_pest (x1 := (xs (i + 1))) (x2 := (xs (i + 2))) h hn
  refine ⟨σ, I, J, D, R, hR, ?_⟩
  unfold fL_law_b3019
  simp only [x_1, n_1, if_pos G_1, x_2, n_2, if_pos G_2, x_7]
  rw [ob_some, if_pos (kq4 h.sk), eX11_pest h.sk, e1, ob_some]
  rw [ob_some, if_pos (kq114 S1), eX12_pest S1, e2, ob_some]
  rw [if_pos q0]
theorem B_3052 {q18 : (Shp) → (Nat → Nat → Int32) → (Nat → Nat → Int64) → (Nat → Nat → UInt64) → (Nat → Nat → Option Nat) → (Option Nat) → (Option Nat) → (Int32) → (Option (Unit))} {xs : Nat → Int32} {Lg i : Nat} {n : Nat} {σ : Shp} {I : Nat → Nat → Int32} {J : Nat → Nat → Int64} {D : Nat → Nat → UInt64} {R : Nat → Nat → Option Nat} (h : Rel n σ I J D R) (hn : n < 512) (hi : i + 7 ≤ Lg) (hL : Lg ≤ 3584) : ∃ σ9 I9 J9 D9 R9, Rel (n + 1) σ9 I9 J9 D9 R9 ∧ fL_law_b3052 q18 xs Lg σ I J D R (some 4) (some 114) (Int32.ofInt (i : Int)) = q18 σ9 I9 J9 D9 R9 (some 4) (some 114) (Int32.ofInt ((i + 7 : Nat) : Int)) := by
  have x_7 : Int32.ofInt (i : Int) + (7 : Int32) = Int32.ofInt ((i + 7 : Nat) : Int) := by rw [i_addl]; rfl
  obtain ⟨i1, i2, e1, e2, q0, S1, hR⟩ := s_wait1  h hn
  refine ⟨σ, I, J, D, R, hR, ?_⟩
  unfold fL_law_b3052
  simp only [x_7]
  rw [ob_some, if_pos (kq4 h.sk), eX11_wait1 h.sk, e1, ob_some]
  rw [ob_some, if_pos (kq114 S1), eX12_wait1 S1, e2, ob_some]
  rw [if_pos q0]
theorem B_3065 {q18 : (Shp) → (Nat → Nat → Int32) → (Nat → Nat → Int64) → (Nat → Nat → UInt64) → (Nat → Nat → Option Nat) → (Option Nat) → (Option Nat) → (Int32) → (Option (Unit))} {xs : Nat → Int32} {Lg i : Nat} {n : Nat} {σ : Shp} {I : Nat → Nat → Int32} {J : Nat → Nat → Int64} {D : Nat → Nat → UInt64} {R : Nat → Nat → Option Nat} (h : Rel n σ I J D R) (hn : n < 512) (hi : i + 7 ≤ Lg) (hL : Lg ≤ 3584) : ∃ σ9 I9 J9 D9 R9, Rel (n + 1) σ9 I9 J9 D9 R9 ∧ fL_law_b3065 q18 xs Lg σ I J D R (some 4) (some 114) (Int32.ofInt (i : Int)) = q18 σ9 I9 J9 D9 R9 (some 4) (some 114) (Int32.ofInt ((i + 7 : Nat) : Int)) := by
  have x_1 : Int32.ofInt (i : Int) + (1 : Int32) = Int32.ofInt ((i + 1 : Nat) : Int) := by rw [i_addl]; rfl
  have n_1 : Int32.toNatClampNeg (Int32.ofInt ((i + 1 : Nat) : Int)) = i + 1 := by rw [i_tn (by omega), Int.toNat_natCast]
  have G_1 : ¬ (Int32.ofInt ((i + 1 : Nat) : Int) < 0 ∨ Lg ≤ i + 1) := by have q : (Int32.ofInt ((i + 1 : Nat) : Int) < 0 ∨ Lg ≤ Int32.toNatClampNeg (Int32.ofInt ((i + 1 : Nat) : Int))) = False := i_gd (by omega); rw [n_1] at q; rw [q]; exact id
  have x_7 : Int32.ofInt (i : Int) + (7 : Int32) = Int32.ofInt ((i + 7 : Nat) : Int) := by rw [i_addl]; rfl
  obtain ⟨I1, i1, I2, i2, e1, e2, q0, S1, hR⟩ := s_write (x1 := (xs (i + 1))) h hn
  refine ⟨σ, I2, J, D, R, hR, ?_⟩
  unfold fL_law_b3065
  simp only [x_1, n_1, if_pos G_1, x_7]
  rw [ob_some, if_pos (kq4 h.sk), eX11_write h.sk, e1, ob_some]
  dsimp only
  rw [ob_some, if_pos (kq114 S1), eX12_write S1, e2, ob_some]
  dsimp only
  rw [if_pos q0]
theorem B_3088 {q18 : (Shp) → (Nat → Nat → Int32) → (Nat → Nat → Int64) → (Nat → Nat → UInt64) → (Nat → Nat → Option Nat) → (Option Nat) → (Option Nat) → (Int32) → (Option (Unit))} {xs : Nat → Int32} {Lg i : Nat} {n : Nat} {σ : Shp} {I : Nat → Nat → Int32} {J : Nat → Nat → Int64} {D : Nat → Nat → UInt64} {R : Nat → Nat → Option Nat} (h : Rel n σ I J D R) (hn : n < 512) (hi : i + 7 ≤ Lg) (hL : Lg ≤ 3584) : ∃ σ9 I9 J9 D9 R9, Rel (n + 1) σ9 I9 J9 D9 R9 ∧ fL_law_b3088 q18 xs Lg σ I J D R (some 4) (some 114) (Int32.ofInt (i : Int)) = q18 σ9 I9 J9 D9 R9 (some 4) (some 114) (Int32.ofInt ((i + 7 : Nat) : Int)) := by
  have x_1 : Int32.ofInt (i : Int) + (1 : Int32) = Int32.ofInt ((i + 1 : Nat) : Int) := by rw [i_addl]; rfl
  have n_1 : Int32.toNatClampNeg (Int32.ofInt ((i + 1 : Nat) : Int)) = i + 1 := by rw [i_tn (by omega), Int.toNat_natCast]
  have G_1 : ¬ (Int32.ofInt ((i + 1 : Nat) : Int) < 0 ∨ Lg ≤ i + 1) := by have q : (Int32.ofInt ((i + 1 : Nat) : Int) < 0 ∨ Lg ≤ Int32.toNatClampNeg (Int32.ofInt ((i + 1 : Nat) : Int))) = False := i_gd (by omega); rw [n_1] at q; rw [q]; exact id
  have x_7 : Int32.ofInt (i : Int) + (7 : Int32) = Int32.ofInt ((i + 7 : Nat) : Int) := by rw [i_addl]; rfl
  obtain ⟨I1, i1, I2, i2, e1, e2, q0, S1, hR⟩ := s_power (x1 := (xs (i + 1))) h hn
  refine ⟨σ, I2, J, D, R, hR, ?_⟩
  unfold fL_law_b3088
  simp only [x_1, n_1, if_pos G_1, x_7]
  rw [ob_some, if_pos (kq4 h.sk), eX11_power h.sk, e1, ob_some]
  dsimp only
  rw [ob_some, if_pos (kq114 S1), eX12_power S1, e2, ob_some]
  dsimp only
  rw [if_pos q0]
theorem B_3111 {q18 : (Shp) → (Nat → Nat → Int32) → (Nat → Nat → Int64) → (Nat → Nat → UInt64) → (Nat → Nat → Option Nat) → (Option Nat) → (Option Nat) → (Int32) → (Option (Unit))} {xs : Nat → Int32} {Lg i : Nat} {n : Nat} {σ : Shp} {I : Nat → Nat → Int32} {J : Nat → Nat → Int64} {D : Nat → Nat → UInt64} {R : Nat → Nat → Option Nat} (h : Rel n σ I J D R) (hn : n < 512) (hi : i + 7 ≤ Lg) (hL : Lg ≤ 3584) : ∃ σ9 I9 J9 D9 R9, Rel (n + 1) σ9 I9 J9 D9 R9 ∧ fL_law_b3111 q18 xs Lg σ I J D R (some 4) (some 114) (Int32.ofInt (i : Int)) = q18 σ9 I9 J9 D9 R9 (some 4) (some 114) (Int32.ofInt ((i + 7 : Nat) : Int)) := by
  have x_7 : Int32.ofInt (i : Int) + (7 : Int32) = Int32.ofInt ((i + 7 : Nat) : Int) := by rw [i_addl]; rfl
  obtain ⟨I1, i1, I2, i2, e1, e2, q0, S1, hR⟩ := s_open1  h hn
  refine ⟨σ, I2, J, D, R, hR, ?_⟩
  unfold fL_law_b3111
  simp only [x_7]
  rw [ob_some, if_pos (kq4 h.sk), eX11_open1 h.sk, e1, ob_some]
  dsimp only
  rw [ob_some, if_pos (kq114 S1), eX12_open1 S1, e2, ob_some]
  dsimp only
  rw [if_pos q0]
theorem B_3124 {q18 : (Shp) → (Nat → Nat → Int32) → (Nat → Nat → Int64) → (Nat → Nat → UInt64) → (Nat → Nat → Option Nat) → (Option Nat) → (Option Nat) → (Int32) → (Option (Unit))} {xs : Nat → Int32} {Lg i : Nat} {n : Nat} {σ : Shp} {I : Nat → Nat → Int32} {J : Nat → Nat → Int64} {D : Nat → Nat → UInt64} {R : Nat → Nat → Option Nat} (h : Rel n σ I J D R) (hn : n < 512) (hi : i + 7 ≤ Lg) (hL : Lg ≤ 3584) : ∃ σ9 I9 J9 D9 R9, Rel (n + 1) σ9 I9 J9 D9 R9 ∧ fL_law_b3124 q18 xs Lg σ I J D R (some 4) (some 114) (Int32.ofInt (i : Int)) = q18 σ9 I9 J9 D9 R9 (some 4) (some 114) (Int32.ofInt ((i + 7 : Nat) : Int)) := by
  have x_1 : Int32.ofInt (i : Int) + (1 : Int32) = Int32.ofInt ((i + 1 : Nat) : Int) := by rw [i_addl]; rfl
  have n_1 : Int32.toNatClampNeg (Int32.ofInt ((i + 1 : Nat) : Int)) = i + 1 := by rw [i_tn (by omega), Int.toNat_natCast]
  have G_1 : ¬ (Int32.ofInt ((i + 1 : Nat) : Int) < 0 ∨ Lg ≤ i + 1) := by have q : (Int32.ofInt ((i + 1 : Nat) : Int) < 0 ∨ Lg ≤ Int32.toNatClampNeg (Int32.ofInt ((i + 1 : Nat) : Int))) = False := i_gd (by omega); rw [n_1] at q; rw [q]; exact id
  have x_2 : Int32.ofInt (i : Int) + (2 : Int32) = Int32.ofInt ((i + 2 : Nat) : Int) := by rw [i_addl]; rfl
  have n_2 : Int32.toNatClampNeg (Int32.ofInt ((i + 2 : Nat) : Int)) = i + 2 := by rw [i_tn (by omega), Int.toNat_natCast]
  have G_2 : ¬ (Int32.ofInt ((i + 2 : Nat) : Int) < 0 ∨ Lg ≤ i + 2) := by have q : (Int32.ofInt ((i + 2 : Nat) : Int) < 0 ∨ Lg ≤ Int32.toNatClampNeg (Int32.ofInt ((i + 2 : Nat) : Int))) = False := i_gd (by omega); rw [n_2] at q; rw [q]; exact id
  have x_7 : Int32.ofInt (i : Int) + (7 : Int32) = Int32.ofInt ((i + 7 : Nat) : Int) := by rw [i_addl]; rfl
  obtain ⟨I1, j1, j2, e1, e2, q0, S1, hR⟩ := s_page (x1 := (xs (i + 1))) (x2 := (xs (i + 2))) h hn
  refine ⟨σ, I1, J, D, R, hR, ?_⟩
  unfold fL_law_b3124
  simp only [x_1, n_1, if_pos G_1, x_2, n_2, if_pos G_2, x_7]
  rw [ob_some, if_pos (kq4 h.sk), eX11_page h.sk, e1, ob_some]
  dsimp only
  rw [ob_some, if_pos (kq114 S1), eX12_page S1, e2, ob_some]
  rw [if_pos q0]
theorem B_3158 {q18 : (Shp) → (Nat → Nat → Int32) → (Nat → Nat → Int64) → (Nat → Nat → UInt64) → (Nat → Nat → Option Nat) → (Option Nat) → (Option Nat) → (Int32) → (Option (Unit))} {xs : Nat → Int32} {Lg i : Nat} {n : Nat} {σ : Shp} {I : Nat → Nat → Int32} {J : Nat → Nat → Int64} {D : Nat → Nat → UInt64} {R : Nat → Nat → Option Nat} (h : Rel n σ I J D R) (hn : n < 512) (hi : i + 7 ≤ Lg) (hL : Lg ≤ 3584) : ∃ σ9 I9 J9 D9 R9, Rel (n + 1) σ9 I9 J9 D9 R9 ∧ fL_law_b3158 q18 xs Lg σ I J D R (some 4) (some 114) (Int32.ofInt (i : Int)) = q18 σ9 I9 J9 D9 R9 (some 4) (some 114) (Int32.ofInt ((i + 7 : Nat) : Int)) := by
  have x_1 : Int32.ofInt (i : Int) + (1 : Int32) = Int32.ofInt ((i + 1 : Nat) : Int) := by rw [i_addl]; rfl
  have n_1 : Int32.toNatClampNeg (Int32.ofInt ((i + 1 : Nat) : Int)) = i + 1 := by rw [i_tn (by omega), Int.toNat_natCast]
  have G_1 : ¬ (Int32.ofInt ((i + 1 : Nat) : Int) < 0 ∨ Lg ≤ i + 1) := by have q : (Int32.ofInt ((i + 1 : Nat) : Int) < 0 ∨ Lg ≤ Int32.toNatClampNeg (Int32.ofInt ((i + 1 : Nat) : Int))) = False := i_gd (by omega); rw [n_1] at q; rw [q]; exact id
  have x_2 : Int32.ofInt (i : Int) + (2 : Int32) = Int32.ofInt ((i + 2 : Nat) : Int) := by rw [i_addl]; rfl
  have n_2 : Int32.toNatClampNeg (Int32.ofInt ((i + 2 : Nat) : Int)) = i + 2 := by rw [i_tn (by omega), Int.toNat_natCast]
  have G_2 : ¬ (Int32.ofInt ((i + 2 : Nat) : Int) < 0 ∨ Lg ≤ i + 2) := by have q : (Int32.ofInt ((i + 2 : Nat) : Int) < 0 ∨ Lg ≤ Int32.toNatClampNeg (Int32.ofInt ((i + 2 : Nat) : Int))) = False := i_gd (by omega); rw [n_2] at q; rw [q]; exact id
  have x_7 : Int32.ofInt (i : Int) + (7 : Int32) = Int32.ofInt ((i + 7 : Nat) : Int) := by rw [i_addl]; rfl
  obtain ⟨i1, i2, e1, e2, q0, S1, hR⟩ := s_octet (x1 := (xs (i + 1))) (x2 := (xs (i + 2))) h hn
  refine ⟨σ, I, J, D, R, hR, ?_⟩
  unfold fL_law_b3158
  simp only [x_1, n_1, if_pos G_1, x_2, n_2, if_pos G_2, x_7]
  rw [ob_some, if_pos (kq4 h.sk), eX11_octet h.sk, e1, ob_some]
  rw [ob_some, if_pos (kq114 S1), eX12_octet S1, e2, ob_some]
  rw [if_pos q0]
theorem B_3191 {q18 : (Shp) → (Nat → Nat → Int32) → (Nat → Nat → Int64) → (Nat → Nat → UInt64) → (Nat → Nat → Option Nat) → (Option Nat) → (Option Nat) → (Int32) → (Option (Unit))} {xs : Nat → Int32} {Lg i : Nat} {n : Nat} {σ : Shp} {I : Nat → Nat → Int32} {J : Nat → Nat → Int64} {D : Nat → Nat → UInt64} {R : Nat → Nat → Option Nat} (h : Rel n σ I J D R) (hn : n < 512) (hi : i + 7 ≤ Lg) (hL : Lg ≤ 3584) : ∃ σ9 I9 J9 D9 R9, Rel (n + 1) σ9 I9 J9 D9 R9 ∧ fL_law_b3191 q18 xs Lg σ I J D R (some 4) (some 114) (Int32.ofInt (i : Int)) = q18 σ9 I9 J9 D9 R9 (some 4) (some 114) (Int32.ofInt ((i + 7 : Nat) : Int)) := by
  have x_1 : Int32.ofInt (i : Int) + (1 : Int32) = Int32.ofInt ((i + 1 : Nat) : Int) := by rw [i_addl]; rfl
  have n_1 : Int32.toNatClampNeg (Int32.ofInt ((i + 1 : Nat) : Int)) = i + 1 := by rw [i_tn (by omega), Int.toNat_natCast]
  have G_1 : ¬ (Int32.ofInt ((i + 1 : Nat) : Int) < 0 ∨ Lg ≤ i + 1) := by have q : (Int32.ofInt ((i + 1 : Nat) : Int) < 0 ∨ Lg ≤ Int32.toNatClampNeg (Int32.ofInt ((i + 1 : Nat) : Int))) = False := i_gd (by omega); rw [n_1] at q; rw [q]; exact id
  have x_2 : Int32.ofInt (i : Int) + (2 : Int32) = Int32.ofInt ((i + 2 : Nat) : Int) := by rw [i_addl]; rfl
  have n_2 : Int32.toNatClampNeg (Int32.ofInt ((i + 2 : Nat) : Int)) = i + 2 := by rw [i_tn (by omega), Int.toNat_natCast]
  have G_2 : ¬ (Int32.ofInt ((i + 2 : Nat) : Int) < 0 ∨ Lg ≤ i + 2) := by have q : (Int32.ofInt ((i + 2 : Nat) : Int) < 0 ∨ Lg ≤ Int32.toNatClampNeg (Int32.ofInt ((i + 2 : Nat) : Int))) = False := i_gd (by omega); rw [n_2] at q; rw [q]; exact id
  have x_3 : Int32.ofInt (i : Int) + (3 : Int32) = Int32.ofInt ((i + 3 : Nat) : Int) := by rw [i_addl]; rfl
  have n_3 : Int32.toNatClampNeg (Int32.ofInt ((i + 3 : Nat) : Int)) = i + 3 := by rw [i_tn (by omega), Int.toNat_natCast]
  have G_3 : ¬ (Int32.ofInt ((i + 3 : Nat) : Int) < 0 ∨ Lg ≤ i + 3) := by have q : (Int32.ofInt ((i + 3 : Nat) : Int) < 0 ∨ Lg ≤ Int32.toNatClampNeg (Int32.ofInt ((i + 3 : Nat) : Int))) = False := i_gd (by omega); rw [n_3] at q; rw [q]; exact id
  have x_7 : Int32.ofInt (i : Int) + (7 : Int32) = Int32.ofInt ((i + 7 : Nat) : Int) := by rw [i_addl]; rfl
  obtain ⟨I1, i1, I2, i2, e1, e2, q0, S1, hR⟩ := s_damage (x1 := (xs (i + 1))) (x2 := (xs (i + 2))) (x3 := (xs (i + 3))) h hn
  refine ⟨σ, I2, J, D, R, hR, ?_⟩
  unfold fL_law_b3191
  simp only [x_1, n_1, if_pos G_1, x_2, n_2, if_pos G_2, x_3, n_3, if_pos G_3, x_7]
  rw [ob_some, if_pos (kq4 h.sk), eX11_damage h.sk, e1, ob_some]
  dsimp only
  rw [ob_some, if_pos (kq114 S1), eX12_damage S1, e2, ob_some]
  dsimp only
  rw [if_pos q0]
theorem B_3234 {q18 : (Shp) → (Nat → Nat → Int32) → (Nat → Nat → Int64) → (Nat → Nat → UInt64) → (Nat → Nat → Option Nat) → (Option Nat) → (Option Nat) → (Int32) → (Option (Unit))} {xs : Nat → Int32} {Lg i : Nat} {n : Nat} {σ : Shp} {I : Nat → Nat → Int32} {J : Nat → Nat → Int64} {D : Nat → Nat → UInt64} {R : Nat → Nat → Option Nat} (h : Rel n σ I J D R) (hn : n < 512) (hi : i + 7 ≤ Lg) (hL : Lg ≤ 3584) : ∃ σ9 I9 J9 D9 R9, Rel (n + 1) σ9 I9 J9 D9 R9 ∧ fL_law_b3234 q18 xs Lg σ I J D R (some 4) (some 114) (Int32.ofInt (i : Int)) = q18 σ9 I9 J9 D9 R9 (some 4) (some 114) (Int32.ofInt ((i + 7 : Nat) : Int)) := by
  have x_1 : Int32.ofInt (i : Int) + (1 : Int32) = Int32.ofInt ((i + 1 : Nat) : Int) := by rw [i_addl]; rfl
  have n_1 : Int32.toNatClampNeg (Int32.ofInt ((i + 1 : Nat) : Int)) = i + 1 := by rw [i_tn (by omega), Int.toNat_natCast]
  have G_1 : ¬ (Int32.ofInt ((i + 1 : Nat) : Int) < 0 ∨ Lg ≤ i + 1) := by have q : (Int32.ofInt ((i + 1 : Nat) : Int) < 0 ∨ Lg ≤ Int32.toNatClampNeg (Int32.ofInt ((i + 1 : Nat) : Int))) = False := i_gd (by omega); rw [n_1] at q; rw [q]; exact id
  have x_7 : Int32.ofInt (i : Int) + (7 : Int32) = Int32.ofInt ((i + 7 : Nat) : Int) := by rw [i_addl]; rfl
  obtain ⟨I1, i1, i2, e1, e2, q0, S1, hR⟩ := s_told (x1 := (xs (i + 1))) h hn
  refine ⟨σ, I1, J, D, R, hR, ?_⟩
  unfold fL_law_b3234
  simp only [x_1, n_1, if_pos G_1, x_7]
  rw [ob_some, if_pos (kq4 h.sk), eX11_told h.sk, e1, ob_some]
  dsimp only
  rw [ob_some, if_pos (kq114 S1), eX12_told S1, e2, ob_some]
  rw [if_pos q0]
theorem B_3257 {q18 : (Shp) → (Nat → Nat → Int32) → (Nat → Nat → Int64) → (Nat → Nat → UInt64) → (Nat → Nat → Option Nat) → (Option Nat) → (Option Nat) → (Int32) → (Option (Unit))} {xs : Nat → Int32} {Lg i : Nat} {n : Nat} {σ : Shp} {I : Nat → Nat → Int32} {J : Nat → Nat → Int64} {D : Nat → Nat → UInt64} {R : Nat → Nat → Option Nat} (h : Rel n σ I J D R) (hn : n < 512) (hi : i + 7 ≤ Lg) (hL : Lg ≤ 3584) : ∃ σ9 I9 J9 D9 R9, Rel (n + 1) σ9 I9 J9 D9 R9 ∧ fL_law_b3257 q18 xs Lg σ I J D R (some 4) (some 114) (Int32.ofInt (i : Int)) = q18 σ9 I9 J9 D9 R9 (some 4) (some 114) (Int32.ofInt ((i + 7 : Nat) : Int)) := by
  have x_7 : Int32.ofInt (i : Int) + (7 : Int32) = Int32.ofInt ((i + 7 : Nat) : Int) := by rw [i_addl]; rfl
  obtain ⟨i1, i2, e1, e2, q0, S1, hR⟩ := s_fault  h hn
  refine ⟨σ, I, J, D, R, hR, ?_⟩
  unfold fL_law_b3257
  simp only [x_7]
  rw [ob_some, if_pos (kq4 h.sk), eX11_fault h.sk, e1, ob_some]
  rw [ob_some, if_pos (kq114 S1), eX12_fault S1, e2, ob_some]
  rw [if_pos q0]
