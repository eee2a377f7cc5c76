/-! ===== work: a column with a pivot ===== -/
theorem swp_lt {f p r : Nat} (hf : f < 3) (hp : p < 3) (hr : r < 3) : swp f p r < 3 := by
  unfold swp
  split <;> (try split) <;> omega
theorem swp_inj {f p r s : Nat} (h : swp f p r = swp f p s) : r = s := by
  unfold swp at h
  split at h <;> split at h <;> (try split at h) <;> (try split at h) <;> omega
theorem colC {σ : Shp} {R : Nat → Nat → Option Nat} {I : Nat → Nat → Int32} {J : Nat → Nat → Int64} {U L U' L' N : Nat → Nat → Int} {d : Int} {p q f : Nat} (eU : ∀ r c, U' r c = U (swp f p r) c) (eL : ∀ r c, L' r c = L (swp f p r) c) (h : MtR U' L' N d) (b : StB N d p q) (hp : p < 3) (hq : q < 8) (hf : f < 3) (n0 : N p q ≠ 0) (ep : I 71 7 = Int32.ofInt (p : Int)) (hM : MatC J U L) : ∃ J', gX2_workColumn_b29 σ R I J (Int32.ofInt (q : Int)) (Int32.ofInt (f : Int)) = some (u2 (u2 I 87 p (Int32.ofInt (q : Int))) 71 7 (Int32.ofInt ((p + 1 : Nat) : Int)), J') ∧ MatC J' (mxU U' L' p q 3) (mxL U' L' p q 3) ∧ (∀ a j, ¬ ((80 ≤ a ∧ a ≤ 82) ∨ (84 ≤ a ∧ a ≤ 86)) → J' a j = J a j) := by
  obtain ⟨F, hF⟩ : ∃ F, FUx = F := ⟨_, rfl⟩
  have hF' : F = 2000000 := by rw [← hF, FUx_eq]
  have gp : ¬ (Int32.ofInt (p : Int) < 0 ∨ 3 ≤ Int32.toNatClampNeg (Int32.ofInt (p : Int))) := by rw [i_gd (by omega)]; exact id
  have np : Int32.toNatClampNeg (Int32.ofInt (p : Int)) = p := by rw [i_tn (by omega), Int.toNat_natCast]
  have gq : ¬ (Int32.ofInt (q : Int) < 0 ∨ 8 ≤ Int32.toNatClampNeg (Int32.ofInt (q : Int))) := by rw [i_gd (by omega)]; exact id
  have nq : Int32.toNatClampNeg (Int32.ofInt (q : Int)) = q := by rw [i_tn (by omega), Int.toNat_natCast]
  obtain ⟨J1, s1, s2, s3⟩ := swC_r (σ := σ) (R := R) hf hp 8 0 F J (by omega) (by omega)
  have M1 : MatC J1 U' L' := fun r c hr hc => by
    have w := s2 r c hr (by omega) hc
    rw [w.1, w.2, eU, eL]
    exact hM (swp f p r) c (swp_lt hf hp hr) hc
  have bU : ∀ j, j < 8 → B31 (U' p j) := fun j hj => by
    have x1 := (h p j hp hj).bu
    have x2 := b.2.2.2.1 j hj
    unfold B31
    omega
  have bL : ∀ j, j < 8 → B31 (L' p j) := fun j hj => by
    have x1 := (h p j hp hj).bl
    have x2 := b.2.2.1
    unfold B31
    omega
  have u0 : U' p q ≠ 0 := fun e => n0 ((fr_z (h p q hp hq)).mp e)
  obtain ⟨J2, d1, d2, d3⟩ := divC_r (σ := σ) (R := R) (p := p) (U := U' p) (L := L' p) (o := U' p q) (d := L' p q) hp bU bL (bU q hq) (bL q hq) (fun j hj => by have := (h p j hp hj).2.1; omega) u0 8 0 F J1 (by omega) (by omega) (fun j _ hj => M1 p j hp hj)
  have M2 : MatC J2 (mxU U' L' p q 0) (mxL U' L' p q 0) := fun r c hr hc => by
    by_cases e : r = p
    · subst e
      rw [mx_p.1, mx_p.2]
      exact d2 c (by omega) hc
    · rw [(mx_g e (by omega)).1, (mx_g e (by omega)).2, d3 _ _ (by omega), d3 _ _ (by omega)]
      exact M1 r c hr hc
  obtain ⟨J3, e1, e2, e3⟩ := stepC (σ := σ) (R := R) h b hp hq n0 ep 3 0 F J2 (by omega) (by omega) M2
  have s1' : gX2_changePlaces σ J R (Int32.ofInt (f : Int)) (Int32.ofInt (p : Int)) = some J1 := by
    unfold gX2_changePlaces
    rw [hF]
    exact s1
  have d1' : gX2_divideRow σ J1 R (Int32.ofInt (p : Int)) (Int64.ofInt (U' p q)) (Int64.ofInt (L' p q)) = some J2 := by
    unfold gX2_divideRow
    rw [hF]
    exact d1
  refine ⟨J3, ?_, e2, fun a j w => by rw [e3 a j w, d3 a j (by omega), s3 a j (by omega)]⟩
  unfold gX2_workColumn_b29
  rw [if_pos (by rw [i_ltl (by omega)]; omega), ep, s1', ob_some]
  simp only [if_pos gp, if_pos gq]
  rw [np, nq, (M1 p q hp hq).1, (M1 p q hp hq).2, d1', ob_some, hF]
  exact e1
theorem colM {q116 : (Nat → Nat → Int32) → (Nat → Nat → Int64) → (Int32) → (Option ((Nat → Nat → Int32) × (Nat → Nat → Int64) × (Int32)))} {σ : Shp} {R : Nat → Nat → Option Nat} {I : Nat → Nat → Int32} {J : Nat → Nat → Int64} {U L U' L' N : Nat → Nat → Int} {d : Int} {p q f : Nat} (eU : ∀ r c, U' r c = U (swp f p r) c) (eL : ∀ r c, L' r c = L (swp f p r) c) (h : MtR U' L' N d) (b : StB N d p q) (hp : p < 3) (hq : q < 8) (hf : f < 3) (n0 : N p q ≠ 0) (ep : I 114 114 = Int32.ofInt (p : Int)) (hM : MatM J U L) : ∃ J', gX12_work_b153 q116 σ R I J (Int32.ofInt (q : Int)) (Int32.ofInt (f : Int)) = q116 (u2 (u2 I 191 p (Int32.ofInt (q : Int))) 114 114 (Int32.ofInt ((p + 1 : Nat) : Int))) J' (Int32.ofInt ((q + 1 : Nat) : Int)) ∧ MatM J' (mxU U' L' p q 3) (mxL U' L' p q 3) ∧ (∀ a j, a ≠ 189 → a ≠ 190 → J' a j = J a j) := by
  obtain ⟨F, hF⟩ : ∃ F, FUx = F := ⟨_, rfl⟩
  have hF' : F = 2000000 := by rw [← hF, FUx_eq]
  have ei : (8 : Int32) * Int32.ofInt (p : Int) + Int32.ofInt (q : Int) = Int32.ofInt ((8 * p + q : Nat) : Int) := by rw [i_mulr, i_add, Int.natCast_add, Int.natCast_mul]; rfl
  have gi : ¬ (Int32.ofInt ((8 * p + q : Nat) : Int) < 0 ∨ 24 ≤ Int32.toNatClampNeg (Int32.ofInt ((8 * p + q : Nat) : Int))) := by rw [i_gd (by omega)]; exact id
  have ni : Int32.toNatClampNeg (Int32.ofInt ((8 * p + q : Nat) : Int)) = 8 * p + q := by rw [i_tn (by omega), Int.toNat_natCast]
  have eq1 : Int32.ofInt (q : Int) + 1 = Int32.ofInt ((q + 1 : Nat) : Int) := by rw [i_addl]; rfl
  obtain ⟨J1, s1, s2, -, s3⟩ := swM_r (σ := σ) (R := R) (I := I) hf hp ep 8 0 F J (by omega) (by omega)
  have M1 : MatM J1 U' L' := fun r c hr hc => by
    have w := s2 r c hr (by omega) hc
    rw [w.1, w.2, eU, eL]
    exact hM (swp f p r) c (swp_lt hf hp hr) hc
  have bU : ∀ j, j < 8 → B31 (U' p j) := fun j hj => by
    have x1 := (h p j hp hj).bu
    have x2 := b.2.2.2.1 j hj
    unfold B31
    omega
  have bL : ∀ j, j < 8 → B31 (L' p j) := fun j hj => by
    have x1 := (h p j hp hj).bl
    have x2 := b.2.2.1
    unfold B31
    omega
  have u0 : U' p q ≠ 0 := fun e => n0 ((fr_z (h p q hp hq)).mp e)
  obtain ⟨J2, d1, d2, d3⟩ := divM_r (σ := σ) (R := R) (I := I) (x1 := Int32.ofInt (q : Int)) (p := p) (U := U' p) (L := L' p) (o := U' p q) (d := L' p q) hp ep bU bL (bU q hq) (bL q hq) (fun j hj => by have := (h p j hp hj).2.1; omega) u0 8 0 F J1 (by omega) (by omega) (fun j _ hj => M1 p j hp hj)
  have M2 : MatM J2 (mxU U' L' p q 0) (mxL U' L' p q 0) := fun r c hr hc => by
    by_cases e : r = p
    · subst e
      rw [mx_p.1, mx_p.2]
      exact d2 c (by omega) hc
    · rw [(mx_g e (by omega)).1, (mx_g e (by omega)).2, d3 _ _ (by omega), d3 _ _ (by omega)]
      exact M1 r c hr hc
  obtain ⟨J3, e1, e2, e3⟩ := stepM (σ := σ) (R := R) h b hp hq n0 ep 3 0 F J2 (by omega) (by omega) M2
  have s1' : gX12_liftRow σ I J R (Int32.ofInt (f : Int)) = some J1 := by
    unfold gX12_liftRow
    rw [hF]
    exact s1
  have d1' : gX12_clear σ I J1 R (Int32.ofInt (q : Int)) = some (u2 (u2 I 191 p (Int32.ofInt (q : Int))) 114 114 (Int32.ofInt ((p + 1 : Nat) : Int)), J3) := by
    unfold gX12_clear
    rw [ep, ei]
    simp only [if_pos gi]
    rw [ni, (M1 p q hp hq).1, (M1 p q hp hq).2, hF]
    rw [hF] at d1
    exact d1.trans e1
  refine ⟨J3, ?_, e2, fun a j w w' => by rw [e3 a j w w', d3 a j (by omega), s3 a j w w']⟩
  unfold gX12_work_b153
  rw [if_neg (by rw [i_ler (by omega)]; omega), s1', ob_some, d1', ob_some]
  dsimp only
  rw [eq1]
theorem ex_find (P : Nat → Prop) : ∀ k x, x + k = 3 → ∃ f, x ≤ f ∧ f ≤ 3 ∧ (∀ r, x ≤ r → r < f → P r) ∧ (f < 3 → ¬ P f) := by
  intro k
  induction k with
  | zero => exact fun x h => ⟨x, Nat.le_refl x, by omega, fun r _ _ => by omega, fun h2 => by omega⟩
  | succ k ih =>
    intro x h
    by_cases c : P x
    · obtain ⟨f, f1, f2, f3, f4⟩ := ih (x + 1) (by omega)
      refine ⟨f, by omega, f2, fun r r1 r2 => ?_, f4⟩
      by_cases e : r = x
      · rw [e]; exact c
      · exact f3 r (by omega) r2
    · exact ⟨x, Nat.le_refl x, by omega, fun r _ _ => by omega, fun _ => c⟩
theorem findC {σ : Shp} {R : Nat → Nat → Option Nat} {I : Nat → Nat → Int32} {J : Nat → Nat → Int64} {U L : Nat → Nat → Int} {q f : Nat} (hq : q < 8) (hM : MatC J U L) (bU : ∀ r, r < 3 → B31 (U r q)) (hf : f ≤ 3) (nz : f < 3 → ¬ U f q = 0) : ∀ (m x n : Nat), x + m = f → m < n → (∀ r, x ≤ r → r < f → U r q = 0) → gX2_workColumn_l5 σ R n I J (Int32.ofInt (q : Int)) (Int32.ofInt (x : Int)) = gX2_workColumn_b29 σ R I J (Int32.ofInt (q : Int)) (Int32.ofInt (f : Int)) := by
  have gq : ¬ (Int32.ofInt (q : Int) < 0 ∨ 8 ≤ Int32.toNatClampNeg (Int32.ofInt (q : Int))) := by rw [i_gd (by omega)]; exact id
  have nq : Int32.toNatClampNeg (Int32.ofInt (q : Int)) = q := by rw [i_tn (by omega), Int.toNat_natCast]
  intro m
  induction m with
  | zero =>
    intro x n h1 h2 h3
    obtain ⟨n, rfl⟩ : ∃ m, n = m + 1 := ⟨n - 1, by omega⟩
    obtain rfl : x = f := by omega
    by_cases c : x < 3
    · have gx : ¬ (Int32.ofInt (x : Int) < 0 ∨ 3 ≤ Int32.toNatClampNeg (Int32.ofInt (x : Int))) := by rw [i_gd (by omega)]; exact id
      have nx : Int32.toNatClampNeg (Int32.ofInt (x : Int)) = x := by rw [i_tn (by omega), Int.toNat_natCast]
      have bx := bU x c
      unfold B31 at bx
      rw [gX2_workColumn_l5, if_neg (by rw [i_ler (by omega)]; omega), if_pos gx, if_pos gq, nx, nq, (hM x q c hq).1, if_neg (by rw [j_eql (by omega)]; exact nz c)]
    · rw [gX2_workColumn_l5, if_pos (by rw [i_ler (by omega)]; omega)]
  | succ m ih =>
    intro x n h1 h2 h3
    obtain ⟨n, rfl⟩ : ∃ m, n = m + 1 := ⟨n - 1, by omega⟩
    have c : x < 3 := by omega
    have gx : ¬ (Int32.ofInt (x : Int) < 0 ∨ 3 ≤ Int32.toNatClampNeg (Int32.ofInt (x : Int))) := by rw [i_gd (by omega)]; exact id
    have nx : Int32.toNatClampNeg (Int32.ofInt (x : Int)) = x := by rw [i_tn (by omega), Int.toNat_natCast]
    have ex : Int32.ofInt (x : Int) + 1 = Int32.ofInt ((x + 1 : Nat) : Int) := by rw [i_addl]; rfl
    have z : J (80 + x) q = 0 := by rw [(hM x q c hq).1, h3 x (Nat.le_refl x) (by omega)]; rfl
    rw [gX2_workColumn_l5, if_neg (by rw [i_ler (by omega)]; omega), if_pos gx, if_pos gq, nx, nq, if_pos z]
    dsimp only
    rw [ex]
    exact ih (x + 1) n (by omega) (by omega) (fun r r1 r2 => h3 r (by omega) r2)
theorem findM {q116 : (Nat → Nat → Int32) → (Nat → Nat → Int64) → (Int32) → (Option ((Nat → Nat → Int32) × (Nat → Nat → Int64) × (Int32)))} {σ : Shp} {R : Nat → Nat → Option Nat} {I : Nat → Nat → Int32} {J : Nat → Nat → Int64} {U L : Nat → Nat → Int} {q f : Nat} (hq : q < 8) (hM : MatM J U L) (bU : ∀ r, r < 3 → B31 (U r q)) (hf : f ≤ 3) (nz : f < 3 → ¬ U f q = 0) : ∀ (m x n : Nat), x + m = f → m < n → (∀ r, x ≤ r → r < f → U r q = 0) → gX12_work_l126 q116 σ R n I J (Int32.ofInt (q : Int)) (Int32.ofInt (x : Int)) = gX12_work_b153 q116 σ R I J (Int32.ofInt (q : Int)) (Int32.ofInt (f : Int)) := by
  have ei : ∀ x : Nat, (8 : Int32) * Int32.ofInt (x : Int) + Int32.ofInt (q : Int) = Int32.ofInt ((8 * x + q : Nat) : Int) := fun x => by rw [i_mulr, i_add, Int.natCast_add, Int.natCast_mul]; rfl
  have gi : ∀ x : Nat, x < 3 → ¬ (Int32.ofInt ((8 * x + q : Nat) : Int) < 0 ∨ 24 ≤ Int32.toNatClampNeg (Int32.ofInt ((8 * x + q : Nat) : Int))) := fun x hx => by rw [i_gd (by omega)]; exact id
  have ni : ∀ x : Nat, x < 3 → Int32.toNatClampNeg (Int32.ofInt ((8 * x + q : Nat) : Int)) = 8 * x + q := fun x hx => by rw [i_tn (by omega), Int.toNat_natCast]
  intro m
  induction m with
  | zero =>
    intro x n h1 h2 h3
    obtain ⟨n, rfl⟩ : ∃ m, n = m + 1 := ⟨n - 1, by omega⟩
    obtain rfl : x = f := by omega
    by_cases c : x < 3
    · have bx := bU x c
      unfold B31 at bx
      rw [gX12_work_l126, if_neg (by rw [i_ler (by omega)]; omega), ei, if_pos (gi x c), ni x c, (hM x q c hq).1, if_neg (by rw [j_eql (by omega)]; exact nz c)]
    · rw [gX12_work_l126, if_pos (by rw [i_ler (by omega)]; omega)]
  | succ m ih =>
    intro x n h1 h2 h3
    obtain ⟨n, rfl⟩ : ∃ m, n = m + 1 := ⟨n - 1, by omega⟩
    have c : x < 3 := by omega
    have ex : Int32.ofInt (x : Int) + 1 = Int32.ofInt ((x + 1 : Nat) : Int) := by rw [i_addl]; rfl
    have z : J 189 (8 * x + q) = 0 := by rw [(hM x q c hq).1, h3 x (Nat.le_refl x) (by omega)]; rfl
    rw [gX12_work_l126, if_neg (by rw [i_ler (by omega)]; omega), ei, if_pos (gi x c), ni x c, if_pos z]
    dsimp only
    rw [ex]
    exact ih (x + 1) n (by omega) (by omega) (fun r r1 r2 => h3 r (by omega) r2)
