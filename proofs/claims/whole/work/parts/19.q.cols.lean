/-! ===== work: all columns ===== -/
/-- after some columns: class and model alike -/
def WS (K : Nat → Int) (k : Nat) (U L : Nat → Nat → Int) (v : Nat → Nat) (I : Nat → Nat → Int32) (J : Nat → Nat → Int64) (I' : Nat → Nat → Int32) (J' : Nat → Nat → Int64) : Prop := k ≤ 3 ∧ I 71 7 = Int32.ofInt (k : Int) ∧ I' 114 114 = Int32.ofInt (k : Int) ∧ MatC J U L ∧ MatM J' U L ∧ WI K k U L v ∧ ∀ j, j < k → I 87 j = Int32.ofInt (v j : Int) ∧ I' 191 j = Int32.ofInt (v j : Int)
theorem cols {σ : Shp} {R : Nat → Nat → Option Nat} {K : Nat → Int} (hK : KB K) : ∀ (t q n m k : Nat) (I : Nat → Nat → Int32) (J : Nat → Nat → Int64) (I' : Nat → Nat → Int32) (J' : Nat → Nat → Int64) (U L : Nat → Nat → Int) (v : Nat → Nat), q + t = 4 → t < n → t < m → WS K k U L v I J I' J' → ∃ k1 U1 L1 v1 I1 J1 I2 J2, WS K k1 U1 L1 v1 I1 J1 I2 J2 ∧ gX2_solved_l10 σ R n I J (Int32.ofInt (q : Int)) = gX2_solved_l31 σ R FUx I1 J1 (Int32.ofInt (k1 : Int)) ∧ gX12_work_l116 σ R m I' J' (Int32.ofInt (q : Int)) = gX12_work_l189 σ R FUx (u2 (u2 I2 114 115 1) 114 116 0) J2 (Int32.ofInt (k1 : Int)) ∧ (∀ a j, ¬ (a = 71 ∧ j = 7) → a ≠ 87 → I1 a j = I a j) ∧ (∀ a j, ¬ ((80 ≤ a ∧ a ≤ 82) ∨ (84 ≤ a ∧ a ≤ 86)) → J1 a j = J a j) ∧ (∀ a j, ¬ (a = 114 ∧ j = 114) → a ≠ 191 → I2 a j = I' a j) ∧ (∀ a j, a ≠ 189 → a ≠ 190 → J2 a j = J' a j) := by
  obtain ⟨F, hF⟩ : ∃ F, FUx = F := ⟨_, rfl⟩
  have hF' : F = 2000000 := by rw [← hF, FUx_eq]
  intro t
  induction t with
  | zero =>
    intro q n m k I J I' J' U L v h1 h2 h3 h
    obtain ⟨n, rfl⟩ : ∃ m, n = m + 1 := ⟨n - 1, by omega⟩
    obtain ⟨m, rfl⟩ : ∃ j, m = j + 1 := ⟨m - 1, by omega⟩
    refine ⟨k, U, L, v, I, J, I', J', h, ?_, ?_, fun _ _ _ _ => rfl, fun _ _ _ => rfl, fun _ _ _ _ => rfl, fun _ _ _ _ => rfl⟩
    · rw [gX2_solved_l10, if_pos (by rw [i_ler (by omega)]; omega), h.2.1]
    · rw [gX12_work_l116, if_pos (by rw [i_ler (by omega)]; omega)]
      dsimp only
      rw [u2n (by omega), u2n (by omega), h.2.2.1]
  | succ t ih =>
    intro q n m k I J I' J' U L v h1 h2 h3 h
    obtain ⟨n, rfl⟩ : ∃ m, n = m + 1 := ⟨n - 1, by omega⟩
    obtain ⟨m, rfl⟩ : ∃ j, m = j + 1 := ⟨m - 1, by omega⟩
    obtain ⟨k3, hr, hr', hM, hM', hW, hv⟩ := h
    have eq1 : Int32.ofInt (q : Int) + 1 = Int32.ofInt ((q + 1 : Nat) : Int) := by rw [i_addl]; rfl
    have bU : ∀ r, r < 3 → B31 (U r q) := fun r hr => by
      have := (wi_b hK hW k3 hr (c := q) (by omega)).1
      unfold B31
      omega
    obtain ⟨f, f1, f2, f3, f4⟩ := ex_find (fun r => U r q = 0) (3 - k) k (by omega)
    have e1 := findC (σ := σ) (R := R) (I := I) (n := F) (by omega) hM bU f2 f4 (f - k) k (by omega) (by omega) f3
    have e2 := findM (q116 := gX12_work_l116 σ R m) (σ := σ) (R := R) (I := I') (n := F) (by omega) hM' bU f2 f4 (f - k) k (by omega) (by omega) f3
    have c1 : gX2_workColumn σ I J R (Int32.ofInt (q : Int)) = gX2_workColumn_b29 σ R I J (Int32.ofInt (q : Int)) (Int32.ofInt (f : Int)) := by
      unfold gX2_workColumn
      rw [hr, hF]
      exact e1
    have c2 : gX12_work_l116 σ R (m + 1) I' J' (Int32.ofInt (q : Int)) = gX12_work_b153 (gX12_work_l116 σ R m) σ R I' J' (Int32.ofInt (q : Int)) (Int32.ofInt (f : Int)) := by
      rw [gX12_work_l116, if_neg (by rw [i_ler (by omega)]; omega), hr', hF]
      exact e2
    have c3 : gX2_solved_l10 σ R (n + 1) I J (Int32.ofInt (q : Int)) = (gX2_workColumn_b29 σ R I J (Int32.ofInt (q : Int)) (Int32.ofInt (f : Int))).bind fun x => gX2_solved_l10 σ R n x.1 x.2 (Int32.ofInt ((q + 1 : Nat) : Int)) := by
      rw [gX2_solved_l10, if_neg (by rw [i_ler (by omega)]; omega), c1, eq1]
    by_cases c : f < 3
    · obtain ⟨N, d, g1, g2, g3, g4⟩ := wi_step hK hW (by omega) f1 c (q := q) (by omega) (f4 c)
      obtain ⟨J1, a1, a2, a3⟩ := colC (σ := σ) (R := R) (I := I) (J := J) (fun r c => rfl) (fun r c => rfl) g1 g2 (by omega) (by omega) c g3 hr hM
      obtain ⟨J2, b1, b2, b3⟩ := colM (q116 := gX12_work_l116 σ R m) (σ := σ) (R := R) (I := I') (J := J') (fun r c => rfl) (fun r c => rfl) g1 g2 (by omega) (by omega) c g3 hr' hM'
      have hS : WS K (k + 1) _ _ _ (u2 (u2 I 87 k (Int32.ofInt (q : Int))) 71 7 (Int32.ofInt ((k + 1 : Nat) : Int))) J1 (u2 (u2 I' 191 k (Int32.ofInt (q : Int))) 114 114 (Int32.ofInt ((k + 1 : Nat) : Int))) J2 := ⟨by omega, u2s ⟨rfl, rfl⟩, u2s ⟨rfl, rfl⟩, a2, b2, g4, fun j hj => by
        show u2 (u2 I 87 k _) 71 7 _ 87 j = Int32.ofInt (((if j = k then q else v j : Nat)) : Int) ∧ u2 (u2 I' 191 k _) 114 114 _ 191 j = Int32.ofInt (((if j = k then q else v j : Nat)) : Int)
        by_cases e : j = k
        · subst e
          rw [if_pos rfl]
          exact ⟨(u2n (by omega)).trans (u2s ⟨rfl, rfl⟩), (u2n (by omega)).trans (u2s ⟨rfl, rfl⟩)⟩
        · rw [if_neg e, u2n (by omega), u2n (by omega), u2n (by omega), u2n (by omega)]
          exact hv j (by omega)⟩
      obtain ⟨k1, U1, L1, v1, I3, J3, I4, J4, w0, w1, w2, w3, w4, w5, w6⟩ := ih (q + 1) n m (k + 1) _ _ _ _ _ _ _ (by omega) (by omega) (by omega) hS
      refine ⟨k1, U1, L1, v1, I3, J3, I4, J4, w0, ?_, ?_, fun a j y y' => ?_, fun a j y => ?_, fun a j y y' => ?_, fun a j y y' => ?_⟩
      · rw [c3, a1, ob_some]
        exact w1
      · rw [c2, b1]
        exact w2
      · rw [w3 a j y y', u2n (by omega), u2n (by omega)]
      · rw [w4 a j y, a3 a j y]
      · rw [w5 a j y y', u2n (by omega), u2n (by omega)]
      · rw [w6 a j y y', b3 a j y y']
    · obtain ⟨k1, U1, L1, v1, I3, J3, I4, J4, w0, w1, w2, w3, w4, w5, w6⟩ := ih (q + 1) n m k I J I' J' U L v (by omega) (by omega) (by omega) ⟨k3, hr, hr', hM, hM', hW, hv⟩
      refine ⟨k1, U1, L1, v1, I3, J3, I4, J4, w0, ?_, ?_, w3, w4, w5, w6⟩
      · rw [c3]
        unfold gX2_workColumn_b29
        rw [if_neg (by rw [i_ltl (by omega)]; omega), ob_some]
        exact w1
      · rw [c2]
        unfold gX12_work_b153
        rw [if_pos (by rw [i_ler (by omega)]; omega)]
        dsimp only
        rw [eq1]
        exact w2
