/-! ===== the law's blocks ===== -/
theorem B_1283 {q18 : (Shp) → (Nat → Nat → Int32) → (Nat → Nat → Int64) → (Nat → Nat → UInt64) → (Nat → Nat → Option Nat) → (Option Nat) → (Option Nat) → (Int32) → (Option (Unit))} {xs : Nat → Int32} {Lg i : Nat} {n : Nat} {σ : Shp} {I : Nat → Nat → Int32} {J : Nat → Nat → Int64} {D : Nat → Nat → UInt64} {R : Nat → Nat → Option Nat} (h : Rel n σ I J D R) (hn : n < 512) (hi : i + 7 ≤ Lg) (hL : Lg ≤ 3584) : ∃ σ9 I9 J9 D9 R9, Rel (n + 1) σ9 I9 J9 D9 R9 ∧ fL_law_b1283 q18 xs Lg σ I J D R (some 4) (some 114) (Int32.ofInt (i : Int)) = q18 σ9 I9 J9 D9 R9 (some 4) (some 114) (Int32.ofInt ((i + 7 : Nat) : Int)) := by
  have x_1 : Int32.ofInt (i : Int) + (1 : Int32) = Int32.ofInt ((i + 1 : Nat) : Int) := by rw [i_addl]; rfl
  have n_1 : Int32.toNatClampNeg (Int32.ofInt ((i + 1 : Nat) : Int)) = i + 1 := by rw [i_tn (by omega), Int.toNat_natCast]
  have G_1 : ¬ (Int32.ofInt ((i + 1 : Nat) : Int) < 0 ∨ Lg ≤ i + 1) := by have q : (Int32.ofInt ((i + 1 : Nat) : Int) < 0 ∨ Lg ≤ Int32.toNatClampNeg (Int32.ofInt ((i + 1 : Nat) : Int))) = False := i_gd (by omega); rw [n_1] at q; rw [q]; exact id
  have x_2 : Int32.ofInt (i : Int) + (2 : Int32) = Int32.ofInt ((i + 2 : Nat) : Int) := by rw [i_addl]; rfl
  have n_2 : Int32.toNatClampNeg (Int32.ofInt ((i + 2 : Nat) : Int)) = i + 2 := by rw [i_tn (by omega), Int.toNat_natCast]
  have G_2 : ¬ (Int32.ofInt ((i + 2 : Nat) : Int) < 0 ∨ Lg ≤ i + 2) := by have q : (Int32.ofInt ((i + 2 : Nat) : Int) < 0 ∨ Lg ≤ Int32.toNatClampNeg (Int32.ofInt ((i + 2 : Nat) : Int))) = False := i_gd (by omega); rw [n_2] at q; rw [q]; exact id
  have x_3 : Int32.ofInt (i : Int) + (3 : Int32) = Int32.ofInt ((i + 3 : Nat) : Int) := by rw [i_addl]; rfl
  have n_3 : Int32.toNatClampNeg (Int32.ofInt ((i + 3 : Nat) : Int)) = i + 3 := by rw [i_tn (by omega), Int.toNat_natCast]
  have G_3 : ¬ (Int32.ofInt ((i + 3 : Nat) : Int) < 0 ∨ Lg ≤ i + 3) := by have q : (Int32.ofInt ((i + 3 : Nat) : Int) < 0 ∨ Lg ≤ Int32.toNatClampNeg (Int32.ofInt ((i + 3 : Nat) : Int))) = False := i_gd (by omega); rw [n_3] at q; rw [q]; exact id
  have x_4 : Int32.ofInt (i : Int) + (4 : Int32) = Int32.ofInt ((i + 4 : Nat) : Int) := by rw [i_addl]; rfl
  have n_4 : Int32.toNatClampNeg (Int32.ofInt ((i + 4 : Nat) : Int)) = i + 4 := by rw [i_tn (by omega), Int.toNat_natCast]
  have G_4 : ¬ (Int32.ofInt ((i + 4 : Nat) : Int) < 0 ∨ Lg ≤ i + 4) := by have q : (Int32.ofInt ((i + 4 : Nat) : Int) < 0 ∨ Lg ≤ Int32.toNatClampNeg (Int32.ofInt ((i + 4 : Nat) : Int))) = False := i_gd (by omega); rw [n_4] at q; rw [q]; exact id
  have x_5 : Int32.ofInt (i : Int) + (5 : Int32) = Int32.ofInt ((i + 5 : Nat) : Int) := by rw [i_addl]; rfl
  have n_5 : Int32.toNatClampNeg (Int32.ofInt ((i + 5 : Nat) : Int)) = i + 5 := by rw [i_tn (by omega), Int.toNat_natCast]
  have G_5 : ¬ (Int32.ofInt ((i + 5 : Nat) : Int) < 0 ∨ Lg ≤ i + 5) := by have q : (Int32.ofInt ((i + 5 : Nat) : Int) < 0 ∨ Lg ≤ Int32.toNatClampNeg (Int32.ofInt ((i + 5 : Nat) : Int))) = False := i_gd (by omega); rw [n_5] at q; rw [q]; exact id
  have x_6 : Int32.ofInt (i : Int) + (6 : Int32) = Int32.ofInt ((i + 6 : Nat) : Int) := by rw [i_addl]; rfl
  have n_6 : Int32.toNatClampNeg (Int32.ofInt ((i + 6 : Nat) : Int)) = i + 6 := by rw [i_tn (by omega), Int.toNat_natCast]
  have G_6 : ¬ (Int32.ofInt ((i + 6 : Nat) : Int) < 0 ∨ Lg ≤ i + 6) := by have q : (Int32.ofInt ((i + 6 : Nat) : Int) < 0 ∨ Lg ≤ Int32.toNatClampNeg (Int32.ofInt ((i + 6 : Nat) : Int))) = False := i_gd (by omega); rw [n_6] at q; rw [q]; exact id
  have x_7 : Int32.ofInt (i : Int) + (7 : Int32) = Int32.ofInt ((i + 7 : Nat) : Int) := by rw [i_addl]; rfl
  obtain ⟨σ1, I1, R1, i1, I2, i2, e1, e2, q0, S1, hR⟩ := s_plant (x1 := (xs (i + 1))) (x2 := (xs (i + 2))) (x3 := (xs (i + 3))) (x4 := (xs (i + 4))) (x5 := (xs (i + 5))) (x6 := (xs (i + 6))) h hn
  refine ⟨σ1, I2, J, D, R1, hR, ?_⟩
  have r0 := hR.rn
  have r1 := hR.rs
  have rm : nxx σ1 ≤ 600000 ∧ slx σ1 ≤ 7300000 := by omega
  unfold fL_law_b1283
  simp only [x_1, n_1, if_pos G_1, x_2, n_2, if_pos G_2, x_3, n_3, if_pos G_3, x_4, n_4, if_pos G_4, x_5, n_5, if_pos G_5, x_6, n_6, if_pos G_6, x_7]
  rw [ob_some, if_pos (kq4 h.sk), eX11_plant h.sk, e1, ob_some]
  dsimp only
  rw [if_pos rm]
  rw [ob_some, if_pos (kq114 S1), eX12_plant S1, e2, ob_some]
  dsimp only
  rw [if_pos q0]
theorem B_1358 {q18 : (Shp) → (Nat → Nat → Int32) → (Nat → Nat → Int64) → (Nat → Nat → UInt64) → (Nat → Nat → Option Nat) → (Option Nat) → (Option Nat) → (Int32) → (Option (Unit))} {xs : Nat → Int32} {Lg i : Nat} {n : Nat} {σ : Shp} {I : Nat → Nat → Int32} {J : Nat → Nat → Int64} {D : Nat → Nat → UInt64} {R : Nat → Nat → Option Nat} (h : Rel n σ I J D R) (hn : n < 512) (hi : i + 7 ≤ Lg) (hL : Lg ≤ 3584) : ∃ σ9 I9 J9 D9 R9, Rel (n + 1) σ9 I9 J9 D9 R9 ∧ fL_law_b1358 q18 xs Lg σ I J D R (some 4) (some 114) (Int32.ofInt (i : Int)) = q18 σ9 I9 J9 D9 R9 (some 4) (some 114) (Int32.ofInt ((i + 7 : Nat) : Int)) := by
  have x_1 : Int32.ofInt (i : Int) + (1 : Int32) = Int32.ofInt ((i + 1 : Nat) : Int) := by rw [i_addl]; rfl
  have n_1 : Int32.toNatClampNeg (Int32.ofInt ((i + 1 : Nat) : Int)) = i + 1 := by rw [i_tn (by omega), Int.toNat_natCast]
  have G_1 : ¬ (Int32.ofInt ((i + 1 : Nat) : Int) < 0 ∨ Lg ≤ i + 1) := by have q : (Int32.ofInt ((i + 1 : Nat) : Int) < 0 ∨ Lg ≤ Int32.toNatClampNeg (Int32.ofInt ((i + 1 : Nat) : Int))) = False := i_gd (by omega); rw [n_1] at q; rw [q]; exact id
  have x_2 : Int32.ofInt (i : Int) + (2 : Int32) = Int32.ofInt ((i + 2 : Nat) : Int) := by rw [i_addl]; rfl
  have n_2 : Int32.toNatClampNeg (Int32.ofInt ((i + 2 : Nat) : Int)) = i + 2 := by rw [i_tn (by omega), Int.toNat_natCast]
  have G_2 : ¬ (Int32.ofInt ((i + 2 : Nat) : Int) < 0 ∨ Lg ≤ i + 2) := by have q : (Int32.ofInt ((i + 2 : Nat) : Int) < 0 ∨ Lg ≤ Int32.toNatClampNeg (Int32.ofInt ((i + 2 : Nat) : Int))) = False := i_gd (by omega); rw [n_2] at q; rw [q]; exact id
  have x_3 : Int32.ofInt (i : Int) + (3 : Int32) = Int32.ofInt ((i + 3 : Nat) : Int) := by rw [i_addl]; rfl
  have n_3 : Int32.toNatClampNeg (Int32.ofInt ((i + 3 : Nat) : Int)) = i + 3 := by rw [i_tn (by omega), Int.toNat_natCast]
  have G_3 : ¬ (Int32.ofInt ((i + 3 : Nat) : Int) < 0 ∨ Lg ≤ i + 3) := by have q : (Int32.ofInt ((i + 3 : Nat) : Int) < 0 ∨ Lg ≤ Int32.toNatClampNeg (Int32.ofInt ((i + 3 : Nat) : Int))) = False := i_gd (by omega); rw [n_3] at q; rw [q]; exact id
  have x_7 : Int32.ofInt (i : Int) + (7 : Int32) = Int32.ofInt ((i + 7 : Nat) : Int) := by rw [i_addl]; rfl
  obtain ⟨σ1, I1, R1, i1, I2, i2, e1, e2, q0, S1, hR⟩ := s_tray (x1 := (xs (i + 1))) (x2 := (xs (i + 2))) (x3 := (xs (i + 3))) h hn
  refine ⟨σ1, I2, J, D, R1, hR, ?_⟩
  have r0 := hR.rn
  have r1 := hR.rs
  have rm : nxx σ1 ≤ 600000 ∧ slx σ1 ≤ 7300000 := by omega
  unfold fL_law_b1358
  simp only [x_1, n_1, if_pos G_1, x_2, n_2, if_pos G_2, x_3, n_3, if_pos G_3, x_7]
  rw [ob_some, if_pos (kq4 h.sk), eX11_tray h.sk, e1, ob_some]
  dsimp only
  rw [if_pos rm]
  rw [ob_some, if_pos (kq114 S1), eX12_tray S1, e2, ob_some]
  dsimp only
  rw [if_pos q0]
theorem B_1401 {q18 : (Shp) → (Nat → Nat → Int32) → (Nat → Nat → Int64) → (Nat → Nat → UInt64) → (Nat → Nat → Option Nat) → (Option Nat) → (Option Nat) → (Int32) → (Option (Unit))} {xs : Nat → Int32} {Lg i : Nat} {n : Nat} {σ : Shp} {I : Nat → Nat → Int32} {J : Nat → Nat → Int64} {D : Nat → Nat → UInt64} {R : Nat → Nat → Option Nat} (h : Rel n σ I J D R) (hn : n < 512) (hi : i + 7 ≤ Lg) (hL : Lg ≤ 3584) : ∃ σ9 I9 J9 D9 R9, Rel (n + 1) σ9 I9 J9 D9 R9 ∧ fL_law_b1401 q18 xs Lg σ I J D R (some 4) (some 114) (Int32.ofInt (i : Int)) = q18 σ9 I9 J9 D9 R9 (some 4) (some 114) (Int32.ofInt ((i + 7 : Nat) : Int)) := by
  have x_1 : Int32.ofInt (i : Int) + (1 : Int32) = Int32.ofInt ((i + 1 : Nat) : Int) := by rw [i_addl]; rfl
  have n_1 : Int32.toNatClampNeg (Int32.ofInt ((i + 1 : Nat) : Int)) = i + 1 := by rw [i_tn (by omega), Int.toNat_natCast]
  have G_1 : ¬ (Int32.ofInt ((i + 1 : Nat) : Int) < 0 ∨ Lg ≤ i + 1) := by have q : (Int32.ofInt ((i + 1 : Nat) : Int) < 0 ∨ Lg ≤ Int32.toNatClampNeg (Int32.ofInt ((i + 1 : Nat) : Int))) = False := i_gd (by omega); rw [n_1] at q; rw [q]; exact id
  have x_2 : Int32.ofInt (i : Int) + (2 : Int32) = Int32.ofInt ((i + 2 : Nat) : Int) := by rw [i_addl]; rfl
  have n_2 : Int32.toNatClampNeg (Int32.ofInt ((i + 2 : Nat) : Int)) = i + 2 := by rw [i_tn (by omega), Int.toNat_natCast]
  have G_2 : ¬ (Int32.ofInt ((i + 2 : Nat) : Int) < 0 ∨ Lg ≤ i + 2) := by have q : (Int32.ofInt ((i + 2 : Nat) : Int) < 0 ∨ Lg ≤ Int32.toNatClampNeg (Int32.ofInt ((i + 2 : Nat) : Int))) = False := i_gd (by omega); rw [n_2] at q; rw [q]; exact id
  have x_7 : Int32.ofInt (i : Int) + (7 : Int32) = Int32.ofInt ((i + 7 : Nat) : Int) := by rw [i_addl]; rfl
  obtain ⟨I1, i1, I2, i2, e1, e2, q0, S1, hR⟩ := s_ask (x1 := (xs (i + 1))) (x2 := (xs (i + 2))) h hn
  refine ⟨σ, I2, J, D, R, hR, ?_⟩
  unfold fL_law_b1401
  simp only [x_1, n_1, if_pos G_1, x_2, n_2, if_pos G_2, x_7]
  rw [ob_some, if_pos (kq4 h.sk), eX11_ask h.sk, e1, ob_some]
  dsimp only
  rw [ob_some, if_pos (kq114 S1), eX12_ask S1, e2, ob_some]
  dsimp only
  rw [if_pos q0]
theorem B_1434 {q18 : (Shp) → (Nat → Nat → Int32) → (Nat → Nat → Int64) → (Nat → Nat → UInt64) → (Nat → Nat → Option Nat) → (Option Nat) → (Option Nat) → (Int32) → (Option (Unit))} {xs : Nat → Int32} {Lg i : Nat} {n : Nat} {σ : Shp} {I : Nat → Nat → Int32} {J : Nat → Nat → Int64} {D : Nat → Nat → UInt64} {R : Nat → Nat → Option Nat} (h : Rel n σ I J D R) (hn : n < 512) (hi : i + 7 ≤ Lg) (hL : Lg ≤ 3584) : ∃ σ9 I9 J9 D9 R9, Rel (n + 1) σ9 I9 J9 D9 R9 ∧ fL_law_b1434 q18 xs Lg σ I J D R (some 4) (some 114) (Int32.ofInt (i : Int)) = q18 σ9 I9 J9 D9 R9 (some 4) (some 114) (Int32.ofInt ((i + 7 : Nat) : Int)) := by
  have x_7 : Int32.ofInt (i : Int) + (7 : Int32) = Int32.ofInt ((i + 7 : Nat) : Int) := by rw [i_addl]; rfl
  obtain ⟨i1, i2, e1, e2, q0, S1, hR⟩ := s_answer  h hn
  refine ⟨σ, I, J, D, R, hR, ?_⟩
  unfold fL_law_b1434
  simp only [x_7]
  rw [ob_some, if_pos (kq4 h.sk), eX11_answer h.sk, e1, ob_some]
  rw [ob_some, if_pos (kq114 S1), eX12_answer S1, e2, ob_some]
  rw [if_pos q0]
theorem B_1447 {q18 : (Shp) → (Nat → Nat → Int32) → (Nat → Nat → Int64) → (Nat → Nat → UInt64) → (Nat → Nat → Option Nat) → (Option Nat) → (Option Nat) → (Int32) → (Option (Unit))} {xs : Nat → Int32} {Lg i : Nat} {n : Nat} {σ : Shp} {I : Nat → Nat → Int32} {J : Nat → Nat → Int64} {D : Nat → Nat → UInt64} {R : Nat → Nat → Option Nat} (h : Rel n σ I J D R) (hn : n < 512) (hi : i + 7 ≤ Lg) (hL : Lg ≤ 3584) : ∃ σ9 I9 J9 D9 R9, Rel (n + 1) σ9 I9 J9 D9 R9 ∧ fL_law_b1447 q18 xs Lg σ I J D R (some 4) (some 114) (Int32.ofInt (i : Int)) = q18 σ9 I9 J9 D9 R9 (some 4) (some 114) (Int32.ofInt ((i + 7 : Nat) : Int)) := by
  have x_1 : Int32.ofInt (i : Int) + (1 : Int32) = Int32.ofInt ((i + 1 : Nat) : Int) := by rw [i_addl]; rfl
  have n_1 : Int32.toNatClampNeg (Int32.ofInt ((i + 1 : Nat) : Int)) = i + 1 := by rw [i_tn (by omega), Int.toNat_natCast]
  have G_1 : ¬ (Int32.ofInt ((i + 1 : Nat) : Int) < 0 ∨ Lg ≤ i + 1) := by have q : (Int32.ofInt ((i + 1 : Nat) : Int) < 0 ∨ Lg ≤ Int32.toNatClampNeg (Int32.ofInt ((i + 1 : Nat) : Int))) = False := i_gd (by omega); rw [n_1] at q; rw [q]; exact id
  have x_7 : Int32.ofInt (i : Int) + (7 : Int32) = Int32.ofInt ((i + 7 : Nat) : Int) := by rw [i_addl]; rfl
  obtain ⟨i1, i2, e1, e2, q0, S1, hR⟩ := s_trace (x1 := (xs (i + 1))) h hn
  refine ⟨σ, I, J, D, R, hR, ?_⟩
  unfold fL_law_b1447
  simp only [x_1, n_1, if_pos G_1, x_7]
  rw [ob_some, if_pos (kq4 h.sk), eX11_trace h.sk, e1, ob_some]
  rw [ob_some, if_pos (kq114 S1), eX12_trace S1, e2, ob_some]
  rw [if_pos q0]
theorem B_1470 {q18 : (Shp) → (Nat → Nat → Int32) → (Nat → Nat → Int64) → (Nat → Nat → UInt64) → (Nat → Nat → Option Nat) → (Option Nat) → (Option Nat) → (Int32) → (Option (Unit))} {xs : Nat → Int32} {Lg i : Nat} {n : Nat} {σ : Shp} {I : Nat → Nat → Int32} {J : Nat → Nat → Int64} {D : Nat → Nat → UInt64} {R : Nat → Nat → Option Nat} (h : Rel n σ I J D R) (hn : n < 512) (hi : i + 7 ≤ Lg) (hL : Lg ≤ 3584) : ∃ σ9 I9 J9 D9 R9, Rel (n + 1) σ9 I9 J9 D9 R9 ∧ fL_law_b1470 q18 xs Lg σ I J D R (some 4) (some 114) (Int32.ofInt (i : Int)) = q18 σ9 I9 J9 D9 R9 (some 4) (some 114) (Int32.ofInt ((i + 7 : Nat) : Int)) := by
  have x_1 : Int32.ofInt (i : Int) + (1 : Int32) = Int32.ofInt ((i + 1 : Nat) : Int) := by rw [i_addl]; rfl
  have n_1 : Int32.toNatClampNeg (Int32.ofInt ((i + 1 : Nat) : Int)) = i + 1 := by rw [i_tn (by omega), Int.toNat_natCast]
  have G_1 : ¬ (Int32.ofInt ((i + 1 : Nat) : Int) < 0 ∨ Lg ≤ i + 1) := by have q : (Int32.ofInt ((i + 1 : Nat) : Int) < 0 ∨ Lg ≤ Int32.toNatClampNeg (Int32.ofInt ((i + 1 : Nat) : Int))) = False := i_gd (by omega); rw [n_1] at q; rw [q]; exact id
  have x_7 : Int32.ofInt (i : Int) + (7 : Int32) = Int32.ofInt ((i + 7 : Nat) : Int) := by rw [i_addl]; rfl
  obtain ⟨σ1, I1, R1, i1, I2, i2, e1, e2, q0, S1, hR⟩ := s_card (x1 := (xs (i + 1))) h hn
  refine ⟨σ1, I2, J, D, R1, hR, ?_⟩
  have r0 := hR.rn
  have r1 := hR.rs
  have rm : nxx σ1 ≤ 600000 ∧ slx σ1 ≤ 7300000 := by omega
  unfold fL_law_b1470
  simp only [x_1, n_1, if_pos G_1, x_7]
  rw [ob_some, if_pos (kq4 h.sk), eX11_card h.sk, e1, ob_some]
  dsimp only
  rw [if_pos rm]
  rw [ob_some, if_pos (kq114 S1), eX12_card S1, e2, ob_some]
  dsimp only
  rw [if_pos q0]
theorem B_1493 {q18 : (Shp) → (Nat → Nat → Int32) → (Nat → Nat → Int64) → (Nat → Nat → UInt64) → (Nat → Nat → Option Nat) → (Option Nat) → (Option Nat) → (Int32) → (Option (Unit))} {xs : Nat → Int32} {Lg i : Nat} {n : Nat} {σ : Shp} {I : Nat → Nat → Int32} {J : Nat → Nat → Int64} {D : Nat → Nat → UInt64} {R : Nat → Nat → Option Nat} (h : Rel n σ I J D R) (hn : n < 512) (hi : i + 7 ≤ Lg) (hL : Lg ≤ 3584) : ∃ σ9 I9 J9 D9 R9, Rel (n + 1) σ9 I9 J9 D9 R9 ∧ fL_law_b1493 q18 xs Lg σ I J D R (some 4) (some 114) (Int32.ofInt (i : Int)) = q18 σ9 I9 J9 D9 R9 (some 4) (some 114) (Int32.ofInt ((i + 7 : Nat) : Int)) := by
  have x_1 : Int32.ofInt (i : Int) + (1 : Int32) = Int32.ofInt ((i + 1 : Nat) : Int) := by rw [i_addl]; rfl
  have n_1 : Int32.toNatClampNeg (Int32.ofInt ((i + 1 : Nat) : Int)) = i + 1 := by rw [i_tn (by omega), Int.toNat_natCast]
  have G_1 : ¬ (Int32.ofInt ((i + 1 : Nat) : Int) < 0 ∨ Lg ≤ i + 1) := by have q : (Int32.ofInt ((i + 1 : Nat) : Int) < 0 ∨ Lg ≤ Int32.toNatClampNeg (Int32.ofInt ((i + 1 : Nat) : Int))) = False := i_gd (by omega); rw [n_1] at q; rw [q]; exact id
  have x_2 : Int32.ofInt (i : Int) + (2 : Int32) = Int32.ofInt ((i + 2 : Nat) : Int) := by rw [i_addl]; rfl
  have n_2 : Int32.toNatClampNeg (Int32.ofInt ((i + 2 : Nat) : Int)) = i + 2 := by rw [i_tn (by omega), Int.toNat_natCast]
  have G_2 : ¬ (Int32.ofInt ((i + 2 : Nat) : Int) < 0 ∨ Lg ≤ i + 2) := by have q : (Int32.ofInt ((i + 2 : Nat) : Int) < 0 ∨ Lg ≤ Int32.toNatClampNeg (Int32.ofInt ((i + 2 : Nat) : Int))) = False := i_gd (by omega); rw [n_2] at q; rw [q]; exact id
  have x_7 : Int32.ofInt (i : Int) + (7 : Int32) = Int32.ofInt ((i + 7 : Nat) : Int) := by rw [i_addl]; rfl
  obtain ⟨I1, j1, I2, j2, e1, e2, q0, S1, hR⟩ := s_field (x1 := (xs (i + 1))) (x2 := (xs (i + 2))) h hn
  refine ⟨σ, I2, J, D, R, hR, ?_⟩
  unfold fL_law_b1493
  simp only [x_1, n_1, if_pos G_1, x_2, n_2, if_pos G_2, x_7]
  rw [ob_some, if_pos (kq4 h.sk), eX11_field h.sk, e1, ob_some]
  dsimp only
  rw [ob_some, if_pos (kq114 S1), eX12_field S1, e2, ob_some]
  dsimp only
  rw [if_pos q0]
theorem B_1527 {q18 : (Shp) → (Nat → Nat → Int32) → (Nat → Nat → Int64) → (Nat → Nat → UInt64) → (Nat → Nat → Option Nat) → (Option Nat) → (Option Nat) → (Int32) → (Option (Unit))} {xs : Nat → Int32} {Lg i : Nat} {n : Nat} {σ : Shp} {I : Nat → Nat → Int32} {J : Nat → Nat → Int64} {D : Nat → Nat → UInt64} {R : Nat → Nat → Option Nat} (h : Rel n σ I J D R) (hn : n < 512) (hi : i + 7 ≤ Lg) (hL : Lg ≤ 3584) : ∃ σ9 I9 J9 D9 R9, Rel (n + 1) σ9 I9 J9 D9 R9 ∧ fL_law_b1527 q18 xs Lg σ I J D R (some 4) (some 114) (Int32.ofInt (i : Int)) = q18 σ9 I9 J9 D9 R9 (some 4) (some 114) (Int32.ofInt ((i + 7 : Nat) : Int)) := by
  have x_1 : Int32.ofInt (i : Int) + (1 : Int32) = Int32.ofInt ((i + 1 : Nat) : Int) := by rw [i_addl]; rfl
  have n_1 : Int32.toNatClampNeg (Int32.ofInt ((i + 1 : Nat) : Int)) = i + 1 := by rw [i_tn (by omega), Int.toNat_natCast]
  have G_1 : ¬ (Int32.ofInt ((i + 1 : Nat) : Int) < 0 ∨ Lg ≤ i + 1) := by have q : (Int32.ofInt ((i + 1 : Nat) : Int) < 0 ∨ Lg ≤ Int32.toNatClampNeg (Int32.ofInt ((i + 1 : Nat) : Int))) = False := i_gd (by omega); rw [n_1] at q; rw [q]; exact id
  have x_2 : Int32.ofInt (i : Int) + (2 : Int32) = Int32.ofInt ((i + 2 : Nat) : Int) := by rw [i_addl]; rfl
  have n_2 : Int32.toNatClampNeg (Int32.ofInt ((i + 2 : Nat) : Int)) = i + 2 := by rw [i_tn (by omega), Int.toNat_natCast]
  have G_2 : ¬ (Int32.ofInt ((i + 2 : Nat) : Int) < 0 ∨ Lg ≤ i + 2) := by have q : (Int32.ofInt ((i + 2 : Nat) : Int) < 0 ∨ Lg ≤ Int32.toNatClampNeg (Int32.ofInt ((i + 2 : Nat) : Int))) = False := i_gd (by omega); rw [n_2] at q; rw [q]; exact id
  have x_3 : Int32.ofInt (i : Int) + (3 : Int32) = Int32.ofInt ((i + 3 : Nat) : Int) := by rw [i_addl]; rfl
  have n_3 : Int32.toNatClampNeg (Int32.ofInt ((i + 3 : Nat) : Int)) = i + 3 := by rw [i_tn (by omega), Int.toNat_natCast]
  have G_3 : ¬ (Int32.ofInt ((i + 3 : Nat) : Int) < 0 ∨ Lg ≤ i + 3) := by have q : (Int32.ofInt ((i + 3 : Nat) : Int) < 0 ∨ Lg ≤ Int32.toNatClampNeg (Int32.ofInt ((i + 3 : Nat) : Int))) = False := i_gd (by omega); rw [n_3] at q; rw [q]; exact id
  have x_4 : Int32.ofInt (i : Int) + (4 : Int32) = Int32.ofInt ((i + 4 : Nat) : Int) := by rw [i_addl]; rfl
  have n_4 : Int32.toNatClampNeg (Int32.ofInt ((i + 4 : Nat) : Int)) = i + 4 := by rw [i_tn (by omega), Int.toNat_natCast]
  have G_4 : ¬ (Int32.ofInt ((i + 4 : Nat) : Int) < 0 ∨ Lg ≤ i + 4) := by have q : (Int32.ofInt ((i + 4 : Nat) : Int) < 0 ∨ Lg ≤ Int32.toNatClampNeg (Int32.ofInt ((i + 4 : Nat) : Int))) = False := i_gd (by omega); rw [n_4] at q; rw [q]; exact id
  have x_7 : Int32.ofInt (i : Int) + (7 : Int32) = Int32.ofInt ((i + 7 : Nat) : Int) := by rw [i_addl]; rfl
  obtain ⟨I1, J1, i1, I2, J2, i2, e1, e2, q0, S1, hR⟩ := s_setField (x1 := (xs (i + 1))) (x2 := (xs (i + 2))) (x3 := (((Int32.toInt64 (xs (i + 3))) <<< (Int32.toInt64 (32 : Int32) &&& 63)) ||| ((Int32.toInt64 (xs (i + 4))) &&& (4294967295 : Int64)))) h hn
  refine ⟨σ, I2, J2, D, R, hR, ?_⟩
  unfold fL_law_b1527
  simp only [x_1, n_1, if_pos G_1, x_2, n_2, if_pos G_2, x_3, n_3, if_pos G_3, x_4, n_4, if_pos G_4, x_7]
  rw [ob_some, if_pos (kq4 h.sk), eX11_setField h.sk, e1, ob_some]
  dsimp only
  rw [ob_some, if_pos (kq114 S1), eX12_setField S1, e2, ob_some]
  dsimp only
  rw [if_pos q0]
theorem B_1600 {q18 : (Shp) → (Nat → Nat → Int32) → (Nat → Nat → Int64) → (Nat → Nat → UInt64) → (Nat → Nat → Option Nat) → (Option Nat) → (Option Nat) → (Int32) → (Option (Unit))} {xs : Nat → Int32} {Lg i : Nat} {n : Nat} {σ : Shp} {I : Nat → Nat → Int32} {J : Nat → Nat → Int64} {D : Nat → Nat → UInt64} {R : Nat → Nat → Option Nat} (h : Rel n σ I J D R) (hn : n < 512) (hi : i + 7 ≤ Lg) (hL : Lg ≤ 3584) : ∃ σ9 I9 J9 D9 R9, Rel (n + 1) σ9 I9 J9 D9 R9 ∧ fL_law_b1600 q18 xs Lg σ I J D R (some 4) (some 114) (Int32.ofInt (i : Int)) = q18 σ9 I9 J9 D9 R9 (some 4) (some 114) (Int32.ofInt ((i + 7 : Nat) : Int)) := by
  have x_1 : Int32.ofInt (i : Int) + (1 : Int32) = Int32.ofInt ((i + 1 : Nat) : Int) := by rw [i_addl]; rfl
  have n_1 : Int32.toNatClampNeg (Int32.ofInt ((i + 1 : Nat) : Int)) = i + 1 := by rw [i_tn (by omega), Int.toNat_natCast]
  have G_1 : ¬ (Int32.ofInt ((i + 1 : Nat) : Int) < 0 ∨ Lg ≤ i + 1) := by have q : (Int32.ofInt ((i + 1 : Nat) : Int) < 0 ∨ Lg ≤ Int32.toNatClampNeg (Int32.ofInt ((i + 1 : Nat) : Int))) = False := i_gd (by omega); rw [n_1] at q; rw [q]; exact id
  have x_2 : Int32.ofInt (i : Int) + (2 : Int32) = Int32.ofInt ((i + 2 : Nat) : Int) := by rw [i_addl]; rfl
  have n_2 : Int32.toNatClampNeg (Int32.ofInt ((i + 2 : Nat) : Int)) = i + 2 := by rw [i_tn (by omega), Int.toNat_natCast]
  have G_2 : ¬ (Int32.ofInt ((i + 2 : Nat) : Int) < 0 ∨ Lg ≤ i + 2) := by have q : (Int32.ofInt ((i + 2 : Nat) : Int) < 0 ∨ Lg ≤ Int32.toNatClampNeg (Int32.ofInt ((i + 2 : Nat) : Int))) = False := i_gd (by omega); rw [n_2] at q; rw [q]; exact id
  have x_3 : Int32.ofInt (i : Int) + (3 : Int32) = Int32.ofInt ((i + 3 : Nat) : Int) := by rw [i_addl]; rfl
  have n_3 : Int32.toNatClampNeg (Int32.ofInt ((i + 3 : Nat) : Int)) = i + 3 := by rw [i_tn (by omega), Int.toNat_natCast]
  have G_3 : ¬ (Int32.ofInt ((i + 3 : Nat) : Int) < 0 ∨ Lg ≤ i + 3) := by have q : (Int32.ofInt ((i + 3 : Nat) : Int) < 0 ∨ Lg ≤ Int32.toNatClampNeg (Int32.ofInt ((i + 3 : Nat) : Int))) = False := i_gd (by omega); rw [n_3] at q; rw [q]; exact id
  have x_7 : Int32.ofInt (i : Int) + (7 : Int32) = Int32.ofInt ((i + 7 : Nat) : Int) := by rw [i_addl]; rfl
  obtain ⟨I1, R1, i1, I2, i2, e1, e2, q0, S1, hR⟩ := s_lead (x1 := (xs (i + 1))) (x2 := (xs (i + 2))) (x3 := (xs (i + 3))) h hn
  refine ⟨σ, I2, J, D, R1, hR, ?_⟩
  unfold fL_law_b1600
  simp only [x_1, n_1, if_pos G_1, x_2, n_2, if_pos G_2, x_3, n_3, if_pos G_3, x_7]
  rw [ob_some, if_pos (kq4 h.sk), eX11_lead h.sk, e1, ob_some]
  dsimp only
  rw [ob_some, if_pos (kq114 S1), eX12_lead S1, e2, ob_some]
  dsimp only
  rw [if_pos q0]
theorem B_1643 {q18 : (Shp) → (Nat → Nat → Int32) → (Nat → Nat → Int64) → (Nat → Nat → UInt64) → (Nat → Nat → Option Nat) → (Option Nat) → (Option Nat) → (Int32) → (Option (Unit))} {xs : Nat → Int32} {Lg i : Nat} {n : Nat} {σ : Shp} {I : Nat → Nat → Int32} {J : Nat → Nat → Int64} {D : Nat → Nat → UInt64} {R : Nat → Nat → Option Nat} (h : Rel n σ I J D R) (hn : n < 512) (hi : i + 7 ≤ Lg) (hL : Lg ≤ 3584) : ∃ σ9 I9 J9 D9 R9, Rel (n + 1) σ9 I9 J9 D9 R9 ∧ fL_law_b1643 q18 xs Lg σ I J D R (some 4) (some 114) (Int32.ofInt (i : Int)) = q18 σ9 I9 J9 D9 R9 (some 4) (some 114) (Int32.ofInt ((i + 7 : Nat) : Int)) := by
  have x_1 : Int32.ofInt (i : Int) + (1 : Int32) = Int32.ofInt ((i + 1 : Nat) : Int) := by rw [i_addl]; rfl
  have n_1 : Int32.toNatClampNeg (Int32.ofInt ((i + 1 : Nat) : Int)) = i + 1 := by rw [i_tn (by omega), Int.toNat_natCast]
  have G_1 : ¬ (Int32.ofInt ((i + 1 : Nat) : Int) < 0 ∨ Lg ≤ i + 1) := by have q : (Int32.ofInt ((i + 1 : Nat) : Int) < 0 ∨ Lg ≤ Int32.toNatClampNeg (Int32.ofInt ((i + 1 : Nat) : Int))) = False := i_gd (by omega); rw [n_1] at q; rw [q]; exact id
  have x_2 : Int32.ofInt (i : Int) + (2 : Int32) = Int32.ofInt ((i + 2 : Nat) : Int) := by rw [i_addl]; rfl
  have n_2 : Int32.toNatClampNeg (Int32.ofInt ((i + 2 : Nat) : Int)) = i + 2 := by rw [i_tn (by omega), Int.toNat_natCast]
  have G_2 : ¬ (Int32.ofInt ((i + 2 : Nat) : Int) < 0 ∨ Lg ≤ i + 2) := by have q : (Int32.ofInt ((i + 2 : Nat) : Int) < 0 ∨ Lg ≤ Int32.toNatClampNeg (Int32.ofInt ((i + 2 : Nat) : Int))) = False := i_gd (by omega); rw [n_2] at q; rw [q]; exact id
  have x_3 : Int32.ofInt (i : Int) + (3 : Int32) = Int32.ofInt ((i + 3 : Nat) : Int) := by rw [i_addl]; rfl
  have n_3 : Int32.toNatClampNeg (Int32.ofInt ((i + 3 : Nat) : Int)) = i + 3 := by rw [i_tn (by omega), Int.toNat_natCast]
  have G_3 : ¬ (Int32.ofInt ((i + 3 : Nat) : Int) < 0 ∨ Lg ≤ i + 3) := by have q : (Int32.ofInt ((i + 3 : Nat) : Int) < 0 ∨ Lg ≤ Int32.toNatClampNeg (Int32.ofInt ((i + 3 : Nat) : Int))) = False := i_gd (by omega); rw [n_3] at q; rw [q]; exact id
  have x_7 : Int32.ofInt (i : Int) + (7 : Int32) = Int32.ofInt ((i + 7 : Nat) : Int) := by rw [i_addl]; rfl
  obtain ⟨I1, R1, i1, I2, i2, e1, e2, q0, S1, hR⟩ := s_follow (x1 := (xs (i + 1))) (x2 := (xs (i + 2))) (x3 := (xs (i + 3))) h hn
  refine ⟨σ, I2, J, D, R1, hR, ?_⟩
  unfold fL_law_b1643
  simp only [x_1, n_1, if_pos G_1, x_2, n_2, if_pos G_2, x_3, n_3, if_pos G_3, x_7]
  rw [ob_some, if_pos (kq4 h.sk), eX11_follow h.sk, e1, ob_some]
  dsimp only
  rw [ob_some, if_pos (kq114 S1), eX12_follow S1, e2, ob_some]
  dsimp only
  rw [if_pos q0]
theorem B_1686 {q18 : (Shp) → (Nat → Nat → Int32) → (Nat → Nat → Int64) → (Nat → Nat → UInt64) → (Nat → Nat → Option Nat) → (Option Nat) → (Option Nat) → (Int32) → (Option (Unit))} {xs : Nat → Int32} {Lg i : Nat} {n : Nat} {σ : Shp} {I : Nat → Nat → Int32} {J : Nat → Nat → Int64} {D : Nat → Nat → UInt64} {R : Nat → Nat → Option Nat} (h : Rel n σ I J D R) (hn : n < 512) (hi : i + 7 ≤ Lg) (hL : Lg ≤ 3584) : ∃ σ9 I9 J9 D9 R9, Rel (n + 1) σ9 I9 J9 D9 R9 ∧ fL_law_b1686 q18 xs Lg σ I J D R (some 4) (some 114) (Int32.ofInt (i : Int)) = q18 σ9 I9 J9 D9 R9 (some 4) (some 114) (Int32.ofInt ((i + 7 : Nat) : Int)) := by
  have x_1 : Int32.ofInt (i : Int) + (1 : Int32) = Int32.ofInt ((i + 1 : Nat) : Int) := by rw [i_addl]; rfl
  have n_1 : Int32.toNatClampNeg (Int32.ofInt ((i + 1 : Nat) : Int)) = i + 1 := by rw [i_tn (by omega), Int.toNat_natCast]
  have G_1 : ¬ (Int32.ofInt ((i + 1 : Nat) : Int) < 0 ∨ Lg ≤ i + 1) := by have q : (Int32.ofInt ((i + 1 : Nat) : Int) < 0 ∨ Lg ≤ Int32.toNatClampNeg (Int32.ofInt ((i + 1 : Nat) : Int))) = False := i_gd (by omega); rw [n_1] at q; rw [q]; exact id
  have x_2 : Int32.ofInt (i : Int) + (2 : Int32) = Int32.ofInt ((i + 2 : Nat) : Int) := by rw [i_addl]; rfl
  have n_2 : Int32.toNatClampNeg (Int32.ofInt ((i + 2 : Nat) : Int)) = i + 2 := by rw [i_tn (by omega), Int.toNat_natCast]
  have G_2 : ¬ (Int32.ofInt ((i + 2 : Nat) : Int) < 0 ∨ Lg ≤ i + 2) := by have q : (Int32.ofInt ((i + 2 : Nat) : Int) < 0 ∨ Lg ≤ Int32.toNatClampNeg (Int32.ofInt ((i + 2 : Nat) : Int))) = False := i_gd (by omega); rw [n_2] at q; rw [q]; exact id
  have x_7 : Int32.ofInt (i : Int) + (7 : Int32) = Int32.ofInt ((i + 7 : Nat) : Int) := by rw [i_addl]; rfl
  obtain ⟨I1, i1, I2, i2, e1, e2, q0, S1, hR⟩ := s_led (x1 := (xs (i + 1))) (x2 := (xs (i + 2))) h hn
  refine ⟨σ, I2, J, D, R, hR, ?_⟩
  unfold fL_law_b1686
  simp only [x_1, n_1, if_pos G_1, x_2, n_2, if_pos G_2, x_7]
  rw [ob_some, if_pos (kq4 h.sk), eX11_led h.sk, e1, ob_some]
  dsimp only
  rw [ob_some, if_pos (kq114 S1), eX12_led S1, e2, ob_some]
  dsimp only
  rw [if_pos q0]
theorem B_1719 {q18 : (Shp) → (Nat → Nat → Int32) → (Nat → Nat → Int64) → (Nat → Nat → UInt64) → (Nat → Nat → Option Nat) → (Option Nat) → (Option Nat) → (Int32) → (Option (Unit))} {xs : Nat → Int32} {Lg i : Nat} {n : Nat} {σ : Shp} {I : Nat → Nat → Int32} {J : Nat → Nat → Int64} {D : Nat → Nat → UInt64} {R : Nat → Nat → Option Nat} (h : Rel n σ I J D R) (hn : n < 512) (hi : i + 7 ≤ Lg) (hL : Lg ≤ 3584) : ∃ σ9 I9 J9 D9 R9, Rel (n + 1) σ9 I9 J9 D9 R9 ∧ fL_law_b1719 q18 xs Lg σ I J D R (some 4) (some 114) (Int32.ofInt (i : Int)) = q18 σ9 I9 J9 D9 R9 (some 4) (some 114) (Int32.ofInt ((i + 7 : Nat) : Int)) := by
  have x_1 : Int32.ofInt (i : Int) + (1 : Int32) = Int32.ofInt ((i + 1 : Nat) : Int) := by rw [i_addl]; rfl
  have n_1 : Int32.toNatClampNeg (Int32.ofInt ((i + 1 : Nat) : Int)) = i + 1 := by rw [i_tn (by omega), Int.toNat_natCast]
  have G_1 : ¬ (Int32.ofInt ((i + 1 : Nat) : Int) < 0 ∨ Lg ≤ i + 1) := by have q : (Int32.ofInt ((i + 1 : Nat) : Int) < 0 ∨ Lg ≤ Int32.toNatClampNeg (Int32.ofInt ((i + 1 : Nat) : Int))) = False := i_gd (by omega); rw [n_1] at q; rw [q]; exact id
  have x_2 : Int32.ofInt (i : Int) + (2 : Int32) = Int32.ofInt ((i + 2 : Nat) : Int) := by rw [i_addl]; rfl
  have n_2 : Int32.toNatClampNeg (Int32.ofInt ((i + 2 : Nat) : Int)) = i + 2 := by rw [i_tn (by omega), Int.toNat_natCast]
  have G_2 : ¬ (Int32.ofInt ((i + 2 : Nat) : Int) < 0 ∨ Lg ≤ i + 2) := by have q : (Int32.ofInt ((i + 2 : Nat) : Int) < 0 ∨ Lg ≤ Int32.toNatClampNeg (Int32.ofInt ((i + 2 : Nat) : Int))) = False := i_gd (by omega); rw [n_2] at q; rw [q]; exact id
  have x_3 : Int32.ofInt (i : Int) + (3 : Int32) = Int32.ofInt ((i + 3 : Nat) : Int) := by rw [i_addl]; rfl
  have n_3 : Int32.toNatClampNeg (Int32.ofInt ((i + 3 : Nat) : Int)) = i + 3 := by rw [i_tn (by omega), Int.toNat_natCast]
  have G_3 : ¬ (Int32.ofInt ((i + 3 : Nat) : Int) < 0 ∨ Lg ≤ i + 3) := by have q : (Int32.ofInt ((i + 3 : Nat) : Int) < 0 ∨ Lg ≤ Int32.toNatClampNeg (Int32.ofInt ((i + 3 : Nat) : Int))) = False := i_gd (by omega); rw [n_3] at q; rw [q]; exact id
  have x_4 : Int32.ofInt (i : Int) + (4 : Int32) = Int32.ofInt ((i + 4 : Nat) : Int) := by rw [i_addl]; rfl
  have n_4 : Int32.toNatClampNeg (Int32.ofInt ((i + 4 : Nat) : Int)) = i + 4 := by rw [i_tn (by omega), Int.toNat_natCast]
  have G_4 : ¬ (Int32.ofInt ((i + 4 : Nat) : Int) < 0 ∨ Lg ≤ i + 4) := by have q : (Int32.ofInt ((i + 4 : Nat) : Int) < 0 ∨ Lg ≤ Int32.toNatClampNeg (Int32.ofInt ((i + 4 : Nat) : Int))) = False := i_gd (by omega); rw [n_4] at q; rw [q]; exact id
  have x_5 : Int32.ofInt (i : Int) + (5 : Int32) = Int32.ofInt ((i + 5 : Nat) : Int) := by rw [i_addl]; rfl
  have n_5 : Int32.toNatClampNeg (Int32.ofInt ((i + 5 : Nat) : Int)) = i + 5 := by rw [i_tn (by omega), Int.toNat_natCast]
  have G_5 : ¬ (Int32.ofInt ((i + 5 : Nat) : Int) < 0 ∨ Lg ≤ i + 5) := by have q : (Int32.ofInt ((i + 5 : Nat) : Int) < 0 ∨ Lg ≤ Int32.toNatClampNeg (Int32.ofInt ((i + 5 : Nat) : Int))) = False := i_gd (by omega); rw [n_5] at q; rw [q]; exact id
  have x_7 : Int32.ofInt (i : Int) + (7 : Int32) = Int32.ofInt ((i + 7 : Nat) : Int) := by rw [i_addl]; rfl
  obtain ⟨I1, i1, I2, i2, e1, e2, q0, S1, hR⟩ := s_step (x1 := (xs (i + 1))) (x2 := (xs (i + 2))) (x3 := (xs (i + 3))) (x4 := (xs (i + 4))) (x5 := (xs (i + 5))) h hn
  refine ⟨σ, I2, J, D, R, hR, ?_⟩
  unfold fL_law_b1719
  simp only [x_1, n_1, if_pos G_1, x_2, n_2, if_pos G_2, x_3, n_3, if_pos G_3, x_4, n_4, if_pos G_4, x_5, n_5, if_pos G_5, x_7]
  rw [ob_some, if_pos (kq4 h.sk), eX11_step h.sk, e1, ob_some]
  dsimp only
  rw [ob_some, if_pos (kq114 S1), eX12_step S1, e2, ob_some]
  dsimp only
  rw [if_pos q0]
theorem B_1782 {q18 : (Shp) → (Nat → Nat → Int32) → (Nat → Nat → Int64) → (Nat → Nat → UInt64) → (Nat → Nat → Option Nat) → (Option Nat) → (Option Nat) → (Int32) → (Option (Unit))} {xs : Nat → Int32} {Lg i : Nat} {n : Nat} {σ : Shp} {I : Nat → Nat → Int32} {J : Nat → Nat → Int64} {D : Nat → Nat → UInt64} {R : Nat → Nat → Option Nat} (h : Rel n σ I J D R) (hn : n < 512) (hi : i + 7 ≤ Lg) (hL : Lg ≤ 3584) : ∃ σ9 I9 J9 D9 R9, Rel (n + 1) σ9 I9 J9 D9 R9 ∧ fL_law_b1782 q18 xs Lg σ I J D R (some 4) (some 114) (Int32.ofInt (i : Int)) = q18 σ9 I9 J9 D9 R9 (some 4) (some 114) (Int32.ofInt ((i + 7 : Nat) : Int)) := by
  have x_1 : Int32.ofInt (i : Int) + (1 : Int32) = Int32.ofInt ((i + 1 : Nat) : Int) := by rw [i_addl]; rfl
  have n_1 : Int32.toNatClampNeg (Int32.ofInt ((i + 1 : Nat) : Int)) = i + 1 := by rw [i_tn (by omega), Int.toNat_natCast]
  have G_1 : ¬ (Int32.ofInt ((i + 1 : Nat) : Int) < 0 ∨ Lg ≤ i + 1) := by have q : (Int32.ofInt ((i + 1 : Nat) : Int) < 0 ∨ Lg ≤ Int32.toNatClampNeg (Int32.ofInt ((i + 1 : Nat) : Int))) = False := i_gd (by omega); rw [n_1] at q; rw [q]; exact id
  have x_7 : Int32.ofInt (i : Int) + (7 : Int32) = Int32.ofInt ((i + 7 : Nat) : Int) := by rw [i_addl]; rfl
  obtain ⟨I1, i1, I2, i2, e1, e2, q0, S1, hR⟩ := s_drop (x1 := (xs (i + 1))) h hn
  refine ⟨σ, I2, J, D, R, hR, ?_⟩
  unfold fL_law_b1782
  simp only [x_1, n_1, if_pos G_1, x_7]
  rw [ob_some, if_pos (kq4 h.sk), eX11_drop h.sk, e1, ob_some]
  dsimp only
  rw [ob_some, if_pos (kq114 S1), eX12_drop S1, e2, ob_some]
  dsimp only
  rw [if_pos q0]
theorem B_1805 {q18 : (Shp) → (Nat → Nat → Int32) → (Nat → Nat → Int64) → (Nat → Nat → UInt64) → (Nat → Nat → Option Nat) → (Option Nat) → (Option Nat) → (Int32) → (Option (Unit))} {xs : Nat → Int32} {Lg i : Nat} {n : Nat} {σ : Shp} {I : Nat → Nat → Int32} {J : Nat → Nat → Int64} {D : Nat → Nat → UInt64} {R : Nat → Nat → Option Nat} (h : Rel n σ I J D R) (hn : n < 512) (hi : i + 7 ≤ Lg) (hL : Lg ≤ 3584) : ∃ σ9 I9 J9 D9 R9, Rel (n + 1) σ9 I9 J9 D9 R9 ∧ fL_law_b1805 q18 xs Lg σ I J D R (some 4) (some 114) (Int32.ofInt (i : Int)) = q18 σ9 I9 J9 D9 R9 (some 4) (some 114) (Int32.ofInt ((i + 7 : Nat) : Int)) := by
  have x_1 : Int32.ofInt (i : Int) + (1 : Int32) = Int32.ofInt ((i + 1 : Nat) : Int) := by rw [i_addl]; rfl
  have n_1 : Int32.toNatClampNeg (Int32.ofInt ((i + 1 : Nat) : Int)) = i + 1 := by rw [i_tn (by omega), Int.toNat_natCast]
  have G_1 : ¬ (Int32.ofInt ((i + 1 : Nat) : Int) < 0 ∨ Lg ≤ i + 1) := by have q : (Int32.ofInt ((i + 1 : Nat) : Int) < 0 ∨ Lg ≤ Int32.toNatClampNeg (Int32.ofInt ((i + 1 : Nat) : Int))) = False := i_gd (by omega); rw [n_1] at q; rw [q]; exact id
  have x_7 : Int32.ofInt (i : Int) + (7 : Int32) = Int32.ofInt ((i + 7 : Nat) : Int) := by rw [i_addl]; rfl
  obtain ⟨I1, i1, I2, i2, e1, e2, q0, S1, hR⟩ := s_formed (x1 := (xs (i + 1))) h hn
  refine ⟨σ, I2, J, D, R, hR, ?_⟩
  unfold fL_law_b1805
  simp only [x_1, n_1, if_pos G_1, x_7]
  rw [ob_some, if_pos (kq4 h.sk), eX11_formed h.sk, e1, ob_some]
  dsimp only
  rw [ob_some, if_pos (kq114 S1), eX12_formed S1, e2, ob_some]
  dsimp only
  rw [if_pos q0]
theorem B_1828 {q18 : (Shp) → (Nat → Nat → Int32) → (Nat → Nat → Int64) → (Nat → Nat → UInt64) → (Nat → Nat → Option Nat) → (Option Nat) → (Option Nat) → (Int32) → (Option (Unit))} {xs : Nat → Int32} {Lg i : Nat} {n : Nat} {σ : Shp} {I : Nat → Nat → Int32} {J : Nat → Nat → Int64} {D : Nat → Nat → UInt64} {R : Nat → Nat → Option Nat} (h : Rel n σ I J D R) (hn : n < 512) (hi : i + 7 ≤ Lg) (hL : Lg ≤ 3584) : ∃ σ9 I9 J9 D9 R9, Rel (n + 1) σ9 I9 J9 D9 R9 ∧ fL_law_b1828 q18 xs Lg σ I J D R (some 4) (some 114) (Int32.ofInt (i : Int)) = q18 σ9 I9 J9 D9 R9 (some 4) (some 114) (Int32.ofInt ((i + 7 : Nat) : Int)) := by
  have x_1 : Int32.ofInt (i : Int) + (1 : Int32) = Int32.ofInt ((i + 1 : Nat) : Int) := by rw [i_addl]; rfl
  have n_1 : Int32.toNatClampNeg (Int32.ofInt ((i + 1 : Nat) : Int)) = i + 1 := by rw [i_tn (by omega), Int.toNat_natCast]
  have G_1 : ¬ (Int32.ofInt ((i + 1 : Nat) : Int) < 0 ∨ Lg ≤ i + 1) := by have q : (Int32.ofInt ((i + 1 : Nat) : Int) < 0 ∨ Lg ≤ Int32.toNatClampNeg (Int32.ofInt ((i + 1 : Nat) : Int))) = False := i_gd (by omega); rw [n_1] at q; rw [q]; exact id
  have x_7 : Int32.ofInt (i : Int) + (7 : Int32) = Int32.ofInt ((i + 7 : Nat) : Int) := by rw [i_addl]; rfl
  obtain ⟨σ1, I1, J1, R1, i1, I2, J2, i2, e1, e2, q0, S1, hR⟩ := s_run (x1 := (xs (i + 1))) h hn
  refine ⟨σ1, I2, J2, D, R1, hR, ?_⟩
  have r0 := hR.rn
  have r1 := hR.rs
  have rm : nxx σ1 ≤ 600000 ∧ slx σ1 ≤ 7300000 := by omega
  unfold fL_law_b1828
  simp only [x_1, n_1, if_pos G_1, x_7]
  rw [ob_some, if_pos (kq4 h.sk), eX11_run h.sk, e1, ob_some]
  dsimp only
  rw [if_pos rm]
  rw [ob_some, if_pos (kq114 S1), eX12_run S1, e2, ob_some]
  dsimp only
  rw [if_pos q0]
theorem B_1851 {q18 : (Shp) → (Nat → Nat → Int32) → (Nat → Nat → Int64) → (Nat → Nat → UInt64) → (Nat → Nat → Option Nat) → (Option Nat) → (Option Nat) → (Int32) → (Option (Unit))} {xs : Nat → Int32} {Lg i : Nat} {n : Nat} {σ : Shp} {I : Nat → Nat → Int32} {J : Nat → Nat → Int64} {D : Nat → Nat → UInt64} {R : Nat → Nat → Option Nat} (h : Rel n σ I J D R) (hn : n < 512) (hi : i + 7 ≤ Lg) (hL : Lg ≤ 3584) : ∃ σ9 I9 J9 D9 R9, Rel (n + 1) σ9 I9 J9 D9 R9 ∧ fL_law_b1851 q18 xs Lg σ I J D R (some 4) (some 114) (Int32.ofInt (i : Int)) = q18 σ9 I9 J9 D9 R9 (some 4) (some 114) (Int32.ofInt ((i + 7 : Nat) : Int)) := by
  have x_1 : Int32.ofInt (i : Int) + (1 : Int32) = Int32.ofInt ((i + 1 : Nat) : Int) := by rw [i_addl]; rfl
  have n_1 : Int32.toNatClampNeg (Int32.ofInt ((i + 1 : Nat) : Int)) = i + 1 := by rw [i_tn (by omega), Int.toNat_natCast]
  have G_1 : ¬ (Int32.ofInt ((i + 1 : Nat) : Int) < 0 ∨ Lg ≤ i + 1) := by have q : (Int32.ofInt ((i + 1 : Nat) : Int) < 0 ∨ Lg ≤ Int32.toNatClampNeg (Int32.ofInt ((i + 1 : Nat) : Int))) = False := i_gd (by omega); rw [n_1] at q; rw [q]; exact id
  have x_7 : Int32.ofInt (i : Int) + (7 : Int32) = Int32.ofInt ((i + 7 : Nat) : Int) := by rw [i_addl]; rfl
  obtain ⟨i1, i2, e1, e2, q0, S1, hR⟩ := s_ran (x1 := (xs (i + 1))) h hn
  refine ⟨σ, I, J, D, R, hR, ?_⟩
  unfold fL_law_b1851
  simp only [x_1, n_1, if_pos G_1, x_7]
  rw [ob_some, if_pos (kq4 h.sk), eX11_ran h.sk, e1, ob_some]
  rw [ob_some, if_pos (kq114 S1), eX12_ran S1, e2, ob_some]
  rw [if_pos q0]
theorem B_1874 {q18 : (Shp) → (Nat → Nat → Int32) → (Nat → Nat → Int64) → (Nat → Nat → UInt64) → (Nat → Nat → Option Nat) → (Option Nat) → (Option Nat) → (Int32) → (Option (Unit))} {xs : Nat → Int32} {Lg i : Nat} {n : Nat} {σ : Shp} {I : Nat → Nat → Int32} {J : Nat → Nat → Int64} {D : Nat → Nat → UInt64} {R : Nat → Nat → Option Nat} (h : Rel n σ I J D R) (hn : n < 512) (hi : i + 7 ≤ Lg) (hL : Lg ≤ 3584) : ∃ σ9 I9 J9 D9 R9, Rel (n + 1) σ9 I9 J9 D9 R9 ∧ fL_law_b1874 q18 xs Lg σ I J D R (some 4) (some 114) (Int32.ofInt (i : Int)) = q18 σ9 I9 J9 D9 R9 (some 4) (some 114) (Int32.ofInt ((i + 7 : Nat) : Int)) := by
  have x_1 : Int32.ofInt (i : Int) + (1 : Int32) = Int32.ofInt ((i + 1 : Nat) : Int) := by rw [i_addl]; rfl
  have n_1 : Int32.toNatClampNeg (Int32.ofInt ((i + 1 : Nat) : Int)) = i + 1 := by rw [i_tn (by omega), Int.toNat_natCast]
  have G_1 : ¬ (Int32.ofInt ((i + 1 : Nat) : Int) < 0 ∨ Lg ≤ i + 1) := by have q : (Int32.ofInt ((i + 1 : Nat) : Int) < 0 ∨ Lg ≤ Int32.toNatClampNeg (Int32.ofInt ((i + 1 : Nat) : Int))) = False := i_gd (by omega); rw [n_1] at q; rw [q]; exact id
  have x_7 : Int32.ofInt (i : Int) + (7 : Int32) = Int32.ofInt ((i + 7 : Nat) : Int) := by rw [i_addl]; rfl
  obtain ⟨j1, j2, e1, e2, q0, S1, hR⟩ := s_stock (x1 := (xs (i + 1))) h hn
  refine ⟨σ, I, J, D, R, hR, ?_⟩
  unfold fL_law_b1874
  simp only [x_1, n_1, if_pos G_1, x_7]
  rw [ob_some, if_pos (kq4 h.sk), eX11_stock h.sk, e1, ob_some]
  rw [ob_some, if_pos (kq114 S1), eX12_stock S1, e2, ob_some]
  rw [if_pos q0]
theorem B_1898 {q18 : (Shp) → (Nat → Nat → Int32) → (Nat → Nat → Int64) → (Nat → Nat → UInt64) → (Nat → Nat → Option Nat) → (Option Nat) → (Option Nat) → (Int32) → (Option (Unit))} {xs : Nat → Int32} {Lg i : Nat} {n : Nat} {σ : Shp} {I : Nat → Nat → Int32} {J : Nat → Nat → Int64} {D : Nat → Nat → UInt64} {R : Nat → Nat → Option Nat} (h : Rel n σ I J D R) (hn : n < 512) (hi : i + 7 ≤ Lg) (hL : Lg ≤ 3584) : ∃ σ9 I9 J9 D9 R9, Rel (n + 1) σ9 I9 J9 D9 R9 ∧ fL_law_b1898 q18 xs Lg σ I J D R (some 4) (some 114) (Int32.ofInt (i : Int)) = q18 σ9 I9 J9 D9 R9 (some 4) (some 114) (Int32.ofInt ((i + 7 : Nat) : Int)) := by
  have x_1 : Int32.ofInt (i : Int) + (1 : Int32) = Int32.ofInt ((i + 1 : Nat) : Int) := by rw [i_addl]; rfl
  have n_1 : Int32.toNatClampNeg (Int32.ofInt ((i + 1 : Nat) : Int)) = i + 1 := by rw [i_tn (by omega), Int.toNat_natCast]
  have G_1 : ¬ (Int32.ofInt ((i + 1 : Nat) : Int) < 0 ∨ Lg ≤ i + 1) := by have q : (Int32.ofInt ((i + 1 : Nat) : Int) < 0 ∨ Lg ≤ Int32.toNatClampNeg (Int32.ofInt ((i + 1 : Nat) : Int))) = False := i_gd (by omega); rw [n_1] at q; rw [q]; exact id
  have x_2 : Int32.ofInt (i : Int) + (2 : Int32) = Int32.ofInt ((i + 2 : Nat) : Int) := by rw [i_addl]; rfl
  have n_2 : Int32.toNatClampNeg (Int32.ofInt ((i + 2 : Nat) : Int)) = i + 2 := by rw [i_tn (by omega), Int.toNat_natCast]
  have G_2 : ¬ (Int32.ofInt ((i + 2 : Nat) : Int) < 0 ∨ Lg ≤ i + 2) := by have q : (Int32.ofInt ((i + 2 : Nat) : Int) < 0 ∨ Lg ≤ Int32.toNatClampNeg (Int32.ofInt ((i + 2 : Nat) : Int))) = False := i_gd (by omega); rw [n_2] at q; rw [q]; exact id
  have x_3 : Int32.ofInt (i : Int) + (3 : Int32) = Int32.ofInt ((i + 3 : Nat) : Int) := by rw [i_addl]; rfl
  have n_3 : Int32.toNatClampNeg (Int32.ofInt ((i + 3 : Nat) : Int)) = i + 3 := by rw [i_tn (by omega), Int.toNat_natCast]
  have G_3 : ¬ (Int32.ofInt ((i + 3 : Nat) : Int) < 0 ∨ Lg ≤ i + 3) := by have q : (Int32.ofInt ((i + 3 : Nat) : Int) < 0 ∨ Lg ≤ Int32.toNatClampNeg (Int32.ofInt ((i + 3 : Nat) : Int))) = False := i_gd (by omega); rw [n_3] at q; rw [q]; exact id
  have x_7 : Int32.ofInt (i : Int) + (7 : Int32) = Int32.ofInt ((i + 7 : Nat) : Int) := by rw [i_addl]; rfl
  obtain ⟨J1, i1, J2, i2, e1, e2, q0, S1, hR⟩ := s_setStock (x1 := (xs (i + 1))) (x2 := (((Int32.toInt64 (xs (i + 2))) <<< (Int32.toInt64 (32 : Int32) &&& 63)) ||| ((Int32.toInt64 (xs (i + 3))) &&& (4294967295 : Int64)))) h hn
  refine ⟨σ, I, J2, D, R, hR, ?_⟩
  unfold fL_law_b1898
  simp only [x_1, n_1, if_pos G_1, x_2, n_2, if_pos G_2, x_3, n_3, if_pos G_3, x_7]
  rw [ob_some, if_pos (kq4 h.sk), eX11_setStock h.sk, e1, ob_some]
  dsimp only
  rw [ob_some, if_pos (kq114 S1), eX12_setStock S1, e2, ob_some]
  dsimp only
  rw [if_pos q0]
theorem B_1961 {q18 : (Shp) → (Nat → Nat → Int32) → (Nat → Nat → Int64) → (Nat → Nat → UInt64) → (Nat → Nat → Option Nat) → (Option Nat) → (Option Nat) → (Int32) → (Option (Unit))} {xs : Nat → Int32} {Lg i : Nat} {n : Nat} {σ : Shp} {I : Nat → Nat → Int32} {J : Nat → Nat → Int64} {D : Nat → Nat → UInt64} {R : Nat → Nat → Option Nat} (h : Rel n σ I J D R) (hn : n < 512) (hi : i + 7 ≤ Lg) (hL : Lg ≤ 3584) : ∃ σ9 I9 J9 D9 R9, Rel (n + 1) σ9 I9 J9 D9 R9 ∧ fL_law_b1961 q18 xs Lg σ I J D R (some 4) (some 114) (Int32.ofInt (i : Int)) = q18 σ9 I9 J9 D9 R9 (some 4) (some 114) (Int32.ofInt ((i + 7 : Nat) : Int)) := by
  have x_1 : Int32.ofInt (i : Int) + (1 : Int32) = Int32.ofInt ((i + 1 : Nat) : Int) := by rw [i_addl]; rfl
  have n_1 : Int32.toNatClampNeg (Int32.ofInt ((i + 1 : Nat) : Int)) = i + 1 := by rw [i_tn (by omega), Int.toNat_natCast]
  have G_1 : ¬ (Int32.ofInt ((i + 1 : Nat) : Int) < 0 ∨ Lg ≤ i + 1) := by have q : (Int32.ofInt ((i + 1 : Nat) : Int) < 0 ∨ Lg ≤ Int32.toNatClampNeg (Int32.ofInt ((i + 1 : Nat) : Int))) = False := i_gd (by omega); rw [n_1] at q; rw [q]; exact id
  have x_2 : Int32.ofInt (i : Int) + (2 : Int32) = Int32.ofInt ((i + 2 : Nat) : Int) := by rw [i_addl]; rfl
  have n_2 : Int32.toNatClampNeg (Int32.ofInt ((i + 2 : Nat) : Int)) = i + 2 := by rw [i_tn (by omega), Int.toNat_natCast]
  have G_2 : ¬ (Int32.ofInt ((i + 2 : Nat) : Int) < 0 ∨ Lg ≤ i + 2) := by have q : (Int32.ofInt ((i + 2 : Nat) : Int) < 0 ∨ Lg ≤ Int32.toNatClampNeg (Int32.ofInt ((i + 2 : Nat) : Int))) = False := i_gd (by omega); rw [n_2] at q; rw [q]; exact id
  have x_7 : Int32.ofInt (i : Int) + (7 : Int32) = Int32.ofInt ((i + 7 : Nat) : Int) := by rw [i_addl]; rfl
  obtain ⟨i1, i2, e1, e2, q0, S1, hR⟩ := s_valve (x1 := (xs (i + 1))) (x2 := (xs (i + 2))) h hn
  refine ⟨σ, I, J, D, R, hR, ?_⟩
  unfold fL_law_b1961
  simp only [x_1, n_1, if_pos G_1, x_2, n_2, if_pos G_2, x_7]
  rw [ob_some, if_pos (kq4 h.sk), eX11_valve h.sk, e1, ob_some]
  rw [ob_some, if_pos (kq114 S1), eX12_valve S1, e2, ob_some]
  rw [if_pos q0]
