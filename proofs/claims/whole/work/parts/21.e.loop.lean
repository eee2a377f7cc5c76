/-! ===== the loop of the law ===== -/
theorem ite_ap {α : Type} {c : Prop} [Decidable c] {A B v : α} (k : c → A = v) (l : ¬ c → B = v) : (if c then A else B) = v := by
  by_cases h : c
  · rw [if_pos h]; exact k h
  · rw [if_neg h]; exact l h
theorem loop {xs : Nat → Int32} {Lg : Nat} (hL : Lg ≤ 3584) : ∀ (t m n i : Nat) (σ : Shp) (I : Nat → Nat → Int32) (J : Nat → Nat → Int64) (D : Nat → Nat → UInt64) (R : Nat → Nat → Option Nat), Rel n σ I J D R → i = 7 * n → n + t = 513 → t < m → i ≤ Lg → fL_law_l18 xs Lg m σ I J D R (some 4) (some 114) (Int32.ofInt (i : Int)) = some () := by
  intro t
  induction t with
  | zero => exact fun m n i σ I J D R h h1 h2 h3 h4 => absurd h4 (by omega)
  | succ t ih =>
    intro m n i σ I J D R h h1 h2 h3 h4
    obtain ⟨m, rfl⟩ : ∃ k, m = k + 1 := ⟨m - 1, by omega⟩
    rw [fL_law_l18]
    by_cases c : i + 7 ≤ Lg
    · have n_0 : Int32.toNatClampNeg (Int32.ofInt (i : Int)) = i := by rw [i_tn (by omega), Int.toNat_natCast]
      have G_0 : ¬ (Int32.ofInt (i : Int) < 0 ∨ Lg ≤ i) := by have q : (Int32.ofInt (i : Int) < 0 ∨ Lg ≤ Int32.toNatClampNeg (Int32.ofInt (i : Int))) = False := i_gd (by omega); rw [n_0] at q; rw [q]; exact id
      have x_7 : Int32.ofInt (i : Int) + (7 : Int32) = Int32.ofInt ((i + 7 : Nat) : Int) := by rw [i_addl]; rfl
      have hn : n < 512 := by omega
      have go : ∀ X, (∃ σ9 I9 J9 D9 R9, Rel (n + 1) σ9 I9 J9 D9 R9 ∧ X = fL_law_l18 xs Lg m σ9 I9 J9 D9 R9 (some 4) (some 114) (Int32.ofInt ((i + 7 : Nat) : Int))) → X = some () := fun X ⟨σ9, I9, J9, D9, R9, r, e⟩ => by
        rw [e]
        exact ih m (n + 1) (i + 7) σ9 I9 J9 D9 R9 r (by omega) (by omega) (by omega) c
      rw [if_neg (by rw [nat32, i_subl, i_lt (by omega) (by omega)]; omega), n_0, if_pos G_0]
      refine ite_ap (fun _ => go _ (B_344 h hn c hL)) (fun _ => ?_)
      refine ite_ap (fun _ => go _ (B_387 h hn c hL)) (fun _ => ?_)
      refine ite_ap (fun _ => go _ (B_466 h hn c hL)) (fun _ => ?_)
      refine ite_ap (fun _ => go _ (B_499 h hn c hL)) (fun _ => ?_)
      refine ite_ap (fun _ => go _ (B_532 h hn c hL)) (fun _ => ?_)
      refine ite_ap (fun _ => go _ (B_555 h hn c hL)) (fun _ => ?_)
      refine ite_ap (fun _ => go _ (B_588 h hn c hL)) (fun _ => ?_)
      refine ite_ap (fun _ => go _ (B_632 h hn c hL)) (fun _ => ?_)
      refine ite_ap (fun _ => go _ (B_715 h hn c hL)) (fun _ => ?_)
      refine ite_ap (fun _ => go _ (B_769 h hn c hL)) (fun _ => ?_)
      refine ite_ap (fun _ => go _ (B_864 h hn c hL)) (fun _ => ?_)
      refine ite_ap (fun _ => go _ (B_943 h hn c hL)) (fun _ => ?_)
      refine ite_ap (fun _ => go _ (B_986 h hn c hL)) (fun _ => ?_)
      refine ite_ap (fun _ => go _ (B_1029 h hn c hL)) (fun _ => ?_)
      refine ite_ap (fun _ => go _ (B_1082 h hn c hL)) (fun _ => ?_)
      refine ite_ap (fun _ => go _ (B_1145 h hn c hL)) (fun _ => ?_)
      refine ite_ap (fun _ => go _ (B_1158 h hn c hL)) (fun _ => ?_)
      refine ite_ap (fun _ => go _ (B_1217 h hn c hL)) (fun _ => ?_)
      refine ite_ap (fun _ => go _ (B_1250 h hn c hL)) (fun _ => ?_)
      refine ite_ap (fun _ => go _ (B_1283 h hn c hL)) (fun _ => ?_)
      refine ite_ap (fun _ => go _ (B_1358 h hn c hL)) (fun _ => ?_)
      refine ite_ap (fun _ => go _ (B_1401 h hn c hL)) (fun _ => ?_)
      refine ite_ap (fun _ => go _ (B_1434 h hn c hL)) (fun _ => ?_)
      refine ite_ap (fun _ => go _ (B_1447 h hn c hL)) (fun _ => ?_)
      refine ite_ap (fun _ => go _ (B_1470 h hn c hL)) (fun _ => ?_)
      refine ite_ap (fun _ => go _ (B_1493 h hn c hL)) (fun _ => ?_)
      refine ite_ap (fun _ => go _ (B_1527 h hn c hL)) (fun _ => ?_)
      refine ite_ap (fun _ => go _ (B_1600 h hn c hL)) (fun _ => ?_)
      refine ite_ap (fun _ => go _ (B_1643 h hn c hL)) (fun _ => ?_)
      refine ite_ap (fun _ => go _ (B_1686 h hn c hL)) (fun _ => ?_)
      refine ite_ap (fun _ => go _ (B_1719 h hn c hL)) (fun _ => ?_)
      refine ite_ap (fun _ => go _ (B_1782 h hn c hL)) (fun _ => ?_)
      refine ite_ap (fun _ => go _ (B_1805 h hn c hL)) (fun _ => ?_)
      refine ite_ap (fun _ => go _ (B_1828 h hn c hL)) (fun _ => ?_)
      refine ite_ap (fun _ => go _ (B_1851 h hn c hL)) (fun _ => ?_)
      refine ite_ap (fun _ => go _ (B_1874 h hn c hL)) (fun _ => ?_)
      refine ite_ap (fun _ => go _ (B_1898 h hn c hL)) (fun _ => ?_)
      refine ite_ap (fun _ => go _ (B_1961 h hn c hL)) (fun _ => ?_)
      refine ite_ap (fun _ => go _ (B_1994 h hn c hL)) (fun _ => ?_)
      refine ite_ap (fun _ => go _ (B_2037 h hn c hL)) (fun _ => ?_)
      refine ite_ap (fun _ => go _ (B_2070 h hn c hL)) (fun _ => ?_)
      refine ite_ap (fun _ => go _ (B_2103 h hn c hL)) (fun _ => ?_)
      refine ite_ap (fun _ => go _ (B_2126 h hn c hL)) (fun _ => ?_)
      refine ite_ap (fun _ => go _ (B_2189 h hn c hL)) (fun _ => ?_)
      refine ite_ap (fun _ => go _ (B_2242 h hn c hL)) (fun _ => ?_)
      refine ite_ap (fun _ => go _ (B_2275 h hn c hL)) (fun _ => ?_)
      refine ite_ap (fun _ => go _ (B_2299 h hn c hL)) (fun _ => ?_)
      refine ite_ap (fun _ => go _ (B_2332 h hn c hL)) (fun _ => ?_)
      refine ite_ap (fun _ => go _ (B_2375 h hn c hL)) (fun _ => ?_)
      refine ite_ap (fun _ => go _ (B_2398 h hn c hL)) (fun _ => ?_)
      refine ite_ap (fun _ => go _ (B_2431 h hn c hL)) (fun _ => ?_)
      refine ite_ap (fun _ => go _ (B_2454 h hn c hL)) (fun _ => ?_)
      refine ite_ap (fun _ => go _ (B_2488 h hn c hL)) (fun _ => ?_)
      refine ite_ap (fun _ => go _ (B_2531 h hn c hL)) (fun _ => ?_)
      refine ite_ap (fun _ => go _ (B_2647 h hn c hL)) (fun _ => ?_)
      refine ite_ap (fun _ => go _ (B_2710 h hn c hL)) (fun _ => ?_)
      refine ite_ap (fun _ => go _ (B_2754 h hn c hL)) (fun _ => ?_)
      refine ite_ap (fun _ => go _ (B_2777 h hn c hL)) (fun _ => ?_)
      refine ite_ap (fun _ => go _ (B_2820 h hn c hL)) (fun _ => ?_)
      refine ite_ap (fun _ => go _ (B_2833 h hn c hL)) (fun _ => ?_)
      refine ite_ap (fun _ => go _ (B_2867 h hn c hL)) (fun _ => ?_)
      refine ite_ap (fun _ => go _ (B_2910 h hn c hL)) (fun _ => ?_)
      refine ite_ap (fun _ => go _ (B_2973 h hn c hL)) (fun _ => ?_)
      refine ite_ap (fun _ => go _ (B_2996 h hn c hL)) (fun _ => ?_)
      refine ite_ap (fun _ => go _ (B_3019 h hn c hL)) (fun _ => ?_)
      refine ite_ap (fun _ => go _ (B_3052 h hn c hL)) (fun _ => ?_)
      refine ite_ap (fun _ => go _ (B_3065 h hn c hL)) (fun _ => ?_)
      refine ite_ap (fun _ => go _ (B_3088 h hn c hL)) (fun _ => ?_)
      refine ite_ap (fun _ => go _ (B_3111 h hn c hL)) (fun _ => ?_)
      refine ite_ap (fun _ => go _ (B_3124 h hn c hL)) (fun _ => ?_)
      refine ite_ap (fun _ => go _ (B_3158 h hn c hL)) (fun _ => ?_)
      refine ite_ap (fun _ => go _ (B_3191 h hn c hL)) (fun _ => ?_)
      refine ite_ap (fun _ => go _ (B_3234 h hn c hL)) (fun _ => ?_)
      refine ite_ap (fun _ => go _ (B_3257 h hn c hL)) (fun _ => ?_)
      dsimp only
      rw [x_7]
      exact go _ ⟨σ, I, J, D, R, h.up, rfl⟩
    · rw [if_pos (by rw [nat32, i_subl, i_lt (by omega) (by omega)]; omega)]
