/-! ===== work: the end of both ===== -/
theorem endWC {σ : Shp} {R : Nat → Nat → Option Nat} {I : Nat → Nat → Int32} {J : Nat → Nat → Int64} {U L : Nat → Nat → Int} {f : Nat} (hM : MatC J U L) (bU : ∀ r, r < 3 → B31 (U r 4)) (hf : f ≤ 3) (nz : f < 3 → ¬ U f 4 = 0) : ∀ (m x n : Nat), x + m = f → m < n → (∀ r, x ≤ r → r < f → U r 4 = 0) → gX2_solved_l31 σ R n I J (Int32.ofInt (x : Int)) = if f < 3 then (gX2_tellWitness σ J R (Int32.ofInt (f : Int))).bind (fun J13 => some (I, J13, (0 : Int32))) else (gX2_tellFractions σ I J R).bind (fun t => if t.2 = 0 then some (I, t.1, (2 : Int32)) else some (I, t.1, (1 : Int32))) := by
  have g48 : ¬ ((4 : Int32) < 0 ∨ 8 ≤ Int32.toNatClampNeg (4 : Int32)) := by decide
  have n4 : Int32.toNatClampNeg (4 : Int32) = 4 := rfl
  intro m
  induction m with
  | zero =>
    intro x n h1 h2 h3
    obtain ⟨n, rfl⟩ : ∃ m, n = m + 1 := ⟨n - 1, by omega⟩
    obtain rfl : x = f := by omega
    by_cases c : x < 3
    · have gx : ¬ (Int32.ofInt (x : Int) < 0 ∨ 3 ≤ Int32.toNatClampNeg (Int32.ofInt (x : Int))) := by rw [i_gd (by omega)]; exact id
      have nx : Int32.toNatClampNeg (Int32.ofInt (x : Int)) = x := by rw [i_tn (by omega), Int.toNat_natCast]
      have bx := bU x c
      unfold B31 at bx
      rw [gX2_solved_l31, if_neg (by rw [i_ler (by omega)]; omega), if_pos gx, if_pos g48, nx, n4, (hM x 4 c (by decide)).1, if_neg (by rw [j_eql (by omega)]; exact nz c), if_pos c]
    · rw [gX2_solved_l31, if_pos (by rw [i_ler (by omega)]; omega), if_neg c]
  | succ m ih =>
    intro x n h1 h2 h3
    obtain ⟨n, rfl⟩ : ∃ m, n = m + 1 := ⟨n - 1, by omega⟩
    have c : x < 3 := by omega
    have gx : ¬ (Int32.ofInt (x : Int) < 0 ∨ 3 ≤ Int32.toNatClampNeg (Int32.ofInt (x : Int))) := by rw [i_gd (by omega)]; exact id
    have nx : Int32.toNatClampNeg (Int32.ofInt (x : Int)) = x := by rw [i_tn (by omega), Int.toNat_natCast]
    have ex : Int32.ofInt (x : Int) + 1 = Int32.ofInt ((x + 1 : Nat) : Int) := by rw [i_addl]; rfl
    have z : J (80 + x) 4 = 0 := by rw [(hM x 4 c (by decide)).1, h3 x (Nat.le_refl x) (by omega)]; rfl
    rw [gX2_solved_l31, if_neg (by rw [i_ler (by omega)]; omega), if_pos gx, if_pos g48, nx, n4, if_pos z]
    dsimp only
    rw [ex]
    exact ih (x + 1) n (by omega) (by omega) (fun r r1 r2 => h3 r (by omega) r2)
theorem endWM {σ : Shp} {R : Nat → Nat → Option Nat} {I : Nat → Nat → Int32} {J : Nat → Nat → Int64} {U L : Nat → Nat → Int} {f : Nat} (hM : MatM J U L) (h0 : I 114 116 = 0) (bU : ∀ r, r < 3 → B31 (U r 4)) (hf : f ≤ 3) (nz : f < 3 → ¬ U f 4 = 0) : ∀ (m x n : Nat), x + m = f → m + 1 < n → (∀ r, x ≤ r → r < f → U r 4 = 0) → gX12_work_l189 σ R n I J (Int32.ofInt (x : Int)) = if f < 3 then (gX12_makeWitness σ J R (Int32.ofInt (f : Int))).bind (fun J23 => some (u2 I 114 116 1, J23, (0 : Int32))) else gX12_work_l246 σ R FUx I J 0 0 := by
  obtain ⟨F, hF⟩ : ∃ F, FUx = F := ⟨_, rfl⟩
  rw [hF]
  have ei : ∀ x : Nat, (8 : Int32) * Int32.ofInt (x : Int) + (4 : Int32) = Int32.ofInt ((8 * x + 4 : Nat) : Int) := fun x => by rw [i_mulr, i_addl, Int.natCast_add, Int.natCast_mul]; rfl
  have gi : ∀ x : Nat, x < 3 → ¬ (Int32.ofInt ((8 * x + 4 : Nat) : Int) < 0 ∨ 24 ≤ Int32.toNatClampNeg (Int32.ofInt ((8 * x + 4 : Nat) : Int))) := fun x hx => by rw [i_gd (by omega)]; exact id
  have ni : ∀ x : Nat, x < 3 → Int32.toNatClampNeg (Int32.ofInt ((8 * x + 4 : Nat) : Int)) = 8 * x + 4 := fun x hx => by rw [i_tn (by omega), Int.toNat_natCast]
  intro m
  induction m with
  | zero =>
    intro x n h1 h2 h3
    obtain ⟨n, rfl⟩ : ∃ m, n = m + 2 := ⟨n - 2, by omega⟩
    obtain rfl : x = f := by omega
    by_cases c : x < 3
    · have bx := bU x c
      unfold B31 at bx
      have ex : Int32.ofInt (x : Int) + 1 = Int32.ofInt ((x + 1 : Nat) : Int) := by rw [i_addl]; rfl
      have n1 : ¬ (u2 I 114 116 (1 : Int32)) 114 116 = 0 := by rw [u2s ⟨rfl, rfl⟩]; decide
      have st : ∀ J23, gX12_work_l189 σ R (n + 1) (u2 I 114 116 1) J23 (Int32.ofInt ((x + 1 : Nat) : Int)) = some (u2 I 114 116 1, J23, (0 : Int32)) := fun J23 => by
        rw [gX12_work_l189]
        by_cases q : (3 : Int32) ≤ Int32.ofInt ((x + 1 : Nat) : Int)
        · rw [if_pos q, if_neg n1]
        · rw [if_neg q, if_neg n1, if_neg n1]
      rw [gX12_work_l189, if_neg (by rw [i_ler (by omega)]; omega), if_pos h0, ei, if_pos (gi x c), ni x c, (hM x 4 c (by decide)).1, if_neg (by rw [j_eql (by omega)]; exact nz c), if_pos c]
      dsimp only
      rw [ex]
      simp only [st]
    · rw [gX12_work_l189, if_pos (by rw [i_ler (by omega)]; omega), if_pos h0, if_neg c, hF]
  | succ m ih =>
    intro x n h1 h2 h3
    obtain ⟨n, rfl⟩ : ∃ m, n = m + 1 := ⟨n - 1, by omega⟩
    have c : x < 3 := by omega
    have ex : Int32.ofInt (x : Int) + 1 = Int32.ofInt ((x + 1 : Nat) : Int) := by rw [i_addl]; rfl
    have z : J 189 (8 * x + 4) = 0 := by rw [(hM x 4 c (by decide)).1, h3 x (Nat.le_refl x) (by omega)]; rfl
    rw [gX12_work_l189, if_neg (by rw [i_ler (by omega)]; omega), if_pos h0, ei, if_pos (gi x c), ni x c, if_pos z]
    dsimp only
    rw [ex]
    exact ih (x + 1) n (by omega) (by omega) (fun r r1 r2 => h3 r (by omega) r2)
/-- class and model, each in its own memory, from the same contents -/
theorem lock_work {σ : Shp} {R : Nat → Nat → Option Nat} {K : Nat → Int} (hK : KB K) {I I' : Nat → Nat → Int32} {J J' : Nat → Nat → Int64} (hI : ∀ s j, s < 6 → j < 3 → I (73 + s) j = Int32.ofInt (K (3 * s + j))) (hI' : ∀ k, k < 18 → I' 188 k = Int32.ofInt (K k)) : ∃ I1 J1 I2 J2 r, gX2_solved σ I J R = some (I1, J1, r) ∧ gX12_work σ I' J' R = some (I2, J2, r) ∧ I1 71 7 = I2 114 114 ∧ I2 114 115 = 1 ∧ (I2 114 116 = 0 ∨ I2 114 116 = 1) ∧ (∀ j, j < 4 → J1 88 j = if I2 114 116 = 0 then J2 192 j else 0) ∧ (∀ j, j < 4 → J1 89 j = if I2 114 116 = 0 then J2 193 j else 0) ∧ (∀ j, j < 3 → J1 90 j = if I2 114 116 = 1 then J2 194 j else 0) := by
  obtain ⟨F, hF⟩ : ∃ F, FUx = F := ⟨_, rfl⟩
  have hF' : F = 2000000 := by rw [← hF, FUx_eq]
  obtain ⟨J3, a1, a2, a3, a4⟩ := clrC (σ := σ) (R := R) (I := u2 I 71 7 0) 4 0 F J (by omega) (by omega)
  obtain ⟨J4, b1, b2, b3⟩ := fillC2 (σ := σ) (R := R) (I := u2 I 71 7 0) hK (fun s j hs hj => by rw [u2n (by omega)]; exact hI s j hs hj) 3 0 F J3 (by omega) (by omega)
  obtain ⟨J5, c1, c2, c3⟩ := fillM2 (σ := σ) (R := R) (I := I') hK hI' 3 0 F J' (by omega) (by omega)
  have w0 : WS K 0 (Rw0 K) (fun _ _ => 1) (fun _ => 0) (u2 I 71 7 0) J4 (u2 I' 114 114 (Int32.ofInt ((0 : Nat) : Int))) J5 := ⟨by decide, u2s ⟨rfl, rfl⟩, u2s ⟨rfl, rfl⟩, fun r c hr hc => b2 r c (by omega) hr hc, fun r c hr hc => c2 r c (by omega) hr hc, wi_0 (fun _ _ => rfl) (fun _ _ => rfl), fun j hj => by omega⟩
  obtain ⟨k, U, L, v, I1, J1, I2, J2, w1, d1, d2, d3, d4, d5, d6⟩ := cols (σ := σ) (R := R) hK 4 0 F F 0 _ _ _ _ _ _ _ (by omega) (by omega) (by omega) w0
  obtain ⟨k3, hr, hr', hM, hM', hW, hv⟩ := w1
  have bU : ∀ r, r < 3 → B31 (U r 4) := fun r hr => by
    have := (wi_b hK hW k3 hr (c := 4) (by decide)).1
    unfold B31
    omega
  obtain ⟨f, f1, f2, f3, f4⟩ := ex_find (fun r => U r 4 = 0) (3 - k) k (by omega)
  have e1 := endWC (σ := σ) (R := R) (I := I1) hM bU f2 f4 (f - k) k F (by omega) (by omega) f3
  obtain ⟨I3, hI3⟩ : ∃ I3, I3 = u2 (u2 I2 114 115 1) 114 116 0 := ⟨_, rfl⟩
  have i116 : I3 114 116 = 0 := by rw [hI3]; exact u2s ⟨rfl, rfl⟩
  have i115 : I3 114 115 = 1 := by rw [hI3, u2n (by omega)]; exact u2s ⟨rfl, rfl⟩
  have i114 : I3 114 114 = Int32.ofInt (k : Int) := by rw [hI3, u2n (by omega), u2n (by omega)]; exact hr'
  have i191 : ∀ j, I3 191 j = I2 191 j := fun j => by rw [hI3, u2n (by omega), u2n (by omega)]
  have e2 := endWM (σ := σ) (R := R) (I := I3) hM' i116 bU f2 f4 (f - k) k F (by omega) (by omega) f3
  have z88 : ∀ j, j < 4 → J1 88 j = 0 ∧ J1 89 j = 0 := fun j hj => by
    rw [d4 88 j (by omega), d4 89 j (by omega), b3 88 j (by omega), b3 89 j (by omega)]
    exact a2 j (by omega) hj
  have z90 : ∀ j, j < 3 → J1 90 j = 0 := fun j hj => by
    rw [d4 90 j (by omega), b3 90 j (by omega)]
    exact a3 j hj
  rw [hF, ← hI3] at d2
  rw [hF] at d1 c1
  have cl : gX2_solved σ I J R = gX2_solved_l31 σ R F I1 J1 (Int32.ofInt (k : Int)) := by
    have x1 : gX2_clearOutcome σ I J R = some (u2 I 71 7 0, J3) := by
      unfold gX2_clearOutcome
      rw [hF]
      exact a1
    have x2 : gX2_fillRows σ (u2 I 71 7 0) J3 R = some J4 := by
      unfold gX2_fillRows
      rw [hF]
      exact b1
    unfold gX2_solved
    rw [hF, x1, ob_some]
    dsimp only
    rw [x2, ob_some]
    exact d1
  have cm : gX12_work σ I' J' R = gX12_work_l189 σ R F I3 J2 (Int32.ofInt (k : Int)) := by
    unfold gX12_work
    rw [hF]
    exact (show _ = _ from c1).trans d2
  by_cases c : f < 3
  · rw [if_pos c] at e1 e2
    obtain ⟨J6, J7, g1, g2, g3, g4⟩ := wits (σ := σ) (R := R) hK hW hM hM' f1 c
    rw [g1, ob_some] at e1
    rw [g2, ob_some] at e2
    have u1 : u2 I3 114 116 (1 : Int32) 114 116 = 1 := u2s ⟨rfl, rfl⟩
    have n0 : ¬ (1 : Int32) = 0 := by decide
    refine ⟨I1, J6, u2 I3 114 116 1, J7, 0, cl.trans e1, cm.trans e2, ?_, ?_, Or.inr u1, fun j hj => ?_, fun j hj => ?_, fun j hj => ?_⟩
    · rw [u2n (by omega), i114, hr]
    · rw [u2n (by omega), i115]
    · rw [u1, if_neg n0, g4 88 j (by omega)]
      exact (z88 j hj).1
    · rw [u1, if_neg n0, g4 89 j (by omega)]
      exact (z88 j hj).2
    · rw [u1, if_pos rfl]
      exact g3 j hj
  · rw [if_neg c] at e1 e2
    obtain ⟨z, J6, J7, g1, g2, g3, g4⟩ := fracs (σ := σ) (R := R) k3 hr i114 (fun j hj => by rw [i191 j]; exact hv j hj) (fun j hj => by obtain ⟨w, -, -, hv4⟩ := hW; exact hv4 j hj) bU hM hM' (fun j hj => (z88 j hj).1)
    rw [g1, ob_some] at e1
    rw [g2] at e2
    have n0 : ¬ (0 : Int32) = 1 := by decide
    refine ⟨I1, J6, I3, J7, if z = true then 1 else 2, cl.trans (e1.trans ?_), cm.trans e2, by rw [i114, hr], i115, Or.inl i116, fun j hj => ?_, fun j hj => ?_, fun j hj => ?_⟩
    · cases z
      · rfl
      · rfl
    · rw [i116, if_pos rfl]
      exact (g3 j hj).1
    · rw [i116, if_pos rfl]
      exact (g3 j hj).2
    · rw [i116, if_neg n0, g4 90 j (by omega) (by omega)]
      exact z90 j hj
