/-! ===== pages: clashes, told ===== -/
def Sme (Q : Nat → Int32) (p q : Nat) : Prop := ∀ k, k < 64 → Q (64 * p + k) = Q (64 * q + k)
theorem s64 {a b : Int32} (h : Int32.toInt64 a = Int32.toInt64 b) : a = b := by
  have := congrArg Int64.toInt32 h
  rwa [Int32.toInt32_toInt64, Int32.toInt32_toInt64] at this
theorem spC {σ : Shp} {I : Nat → Nat → Int32} {R : Nat → Nat → Option Nat} {p q : Nat} (hp : p < 20) (hq : q < 20) : (Sme (I 109) p q → gX1_samePages σ I R (Int32.ofInt p) (Int32.ofInt q) = some 1) ∧ (¬ Sme (I 109) p q → gX1_samePages σ I R (Int32.ofInt p) (Int32.ofInt q) = some 0) := by
  obtain ⟨F, hF⟩ : ∃ F, FUx = F := ⟨_, rfl⟩
  have hF' : F = 2000000 := by rw [← hF, FUx_eq]
  have lp : ∀ (u j f : Nat), u < f → j + u = 64 → (∀ k, k < j → I 109 (64 * p + k) = I 109 (64 * q + k)) → (Sme (I 109) p q → gX1_samePages_l2 σ I R f (Int32.ofInt p) (Int32.ofInt q) (Int32.ofInt j) = some 1) ∧ (¬ Sme (I 109) p q → gX1_samePages_l2 σ I R f (Int32.ofInt p) (Int32.ofInt q) (Int32.ofInt j) = some 0) := by
    intro u
    induction u with
    | zero =>
      intro j f hf hj hk
      obtain ⟨f, rfl⟩ : ∃ m, f = m + 1 := ⟨f - 1, by omega⟩
      rw [gX1_samePages_l2, if_pos (by rw [i_ler (by omega)]; omega)]
      exact ⟨fun _ => rfl, fun c => absurd (fun k h => hk k (by omega)) c⟩
    | succ u ih =>
      intro j f hf hj hk
      obtain ⟨f, rfl⟩ : ∃ m, f = m + 1 := ⟨f - 1, by omega⟩
      have n1 := nAt (σ := σ) (I := I) (R := R) (p := p) (a := j) (n := 1) hp (by omega)
      have n2 := nAt (σ := σ) (I := I) (R := R) (p := q) (a := j) (n := 1) hq (by omega)
      rw [wd1] at n1 n2
      rw [gX1_samePages_l2, if_neg (by rw [i_ler (by omega)]; omega), show gX1_numberAt σ I R (Int32.ofInt p) (Int32.ofInt j) 1 = _ from n1, ob_some, show gX1_numberAt σ I R (Int32.ofInt q) (Int32.ofInt j) 1 = _ from n2, ob_some]
      by_cases c : I 109 (64 * p + j) = I 109 (64 * q + j)
      · rw [if_pos (by rw [c])]
        dsimp only
        rw [iadd1]
        refine ih (j + 1) f (by omega) (by omega) fun k h => ?_
        by_cases e : k = j
        · rw [e]; exact c
        · exact hk k (by omega)
      · rw [if_neg (fun h => c (s64 h))]
        exact ⟨fun h => absurd (h j (by omega)) c, fun _ => rfl⟩
  unfold gX1_samePages
  rw [hF]
  exact lp 64 0 F (by omega) (by omega) fun k h => by omega
theorem clM {q4 : (Int32) → (Int32) → (Option ((Int32)))} {σ : Shp} {I : Nat → Nat → Int32} {R : Nat → Nat → Option Nat} {p q : Nat} {x1 : Int32} (hp : p < 20) (hq : q < 20) {F : Nat} (hF : 64 < F) : (Sme (I 200) p q → gX12_clash_l34 q4 σ I R F x1 (Int32.ofInt p) (Int32.ofInt q) 0 0 = q4 x1 (Int32.ofInt ((p + 1 : Nat) : Int))) ∧ (¬ Sme (I 200) p q → gX12_clash_l34 q4 σ I R F x1 (Int32.ofInt p) (Int32.ofInt q) 0 0 = q4 (x1 + 1) (Int32.ofInt ((p + 1 : Nat) : Int))) := by
  have one : ∀ (u j f : Nat), u < f → j + u = 64 → gX12_clash_l34 q4 σ I R f x1 (Int32.ofInt p) (Int32.ofInt q) 1 (Int32.ofInt j) = q4 (x1 + 1) (Int32.ofInt ((p + 1 : Nat) : Int)) := by
    intro u
    induction u with
    | zero =>
      intro j f hf hj
      obtain ⟨f, rfl⟩ : ∃ m, f = m + 1 := ⟨f - 1, by omega⟩
      rw [gX12_clash_l34, if_pos (by rw [i_ler (by omega)]; omega), if_neg n10]
      dsimp only
      rw [iadd1]
    | succ u ih =>
      intro j f hf hj
      obtain ⟨f, rfl⟩ : ∃ m, f = m + 1 := ⟨f - 1, by omega⟩
      rw [gX12_clash_l34, if_neg (by rw [i_ler (by omega)]; omega), if_neg n10]
      dsimp only
      rw [iadd1]
      exact ih (j + 1) f (by omega) (by omega)
  have lp : ∀ (u j f : Nat), u < f → j + u = 64 → (∀ k, k < j → I 200 (64 * p + k) = I 200 (64 * q + k)) → (Sme (I 200) p q → gX12_clash_l34 q4 σ I R f x1 (Int32.ofInt p) (Int32.ofInt q) 0 (Int32.ofInt j) = q4 x1 (Int32.ofInt ((p + 1 : Nat) : Int))) ∧ (¬ Sme (I 200) p q → gX12_clash_l34 q4 σ I R f x1 (Int32.ofInt p) (Int32.ofInt q) 0 (Int32.ofInt j) = q4 (x1 + 1) (Int32.ofInt ((p + 1 : Nat) : Int))) := by
    intro u
    induction u with
    | zero =>
      intro j f hf hj hk
      obtain ⟨f, rfl⟩ : ∃ m, f = m + 1 := ⟨f - 1, by omega⟩
      rw [gX12_clash_l34, if_pos (by rw [i_ler (by omega)]; omega), if_pos rfl]
      dsimp only
      rw [iadd1, Int32.add_zero]
      exact ⟨fun _ => rfl, fun c => absurd (fun k h => hk k (by omega)) c⟩
    | succ u ih =>
      intro j f hf hj hk
      obtain ⟨f, rfl⟩ : ∃ m, f = m + 1 := ⟨f - 1, by omega⟩
      rw [gX12_clash_l34, if_neg (by rw [i_ler (by omega)]; omega), if_pos rfl, i_mulr, i_mulr, i_add, i_add, show (64 : Int) * (p : Int) + (j : Int) = ((64 * p + j : Nat) : Int) by omega, show (64 : Int) * (q : Int) + (j : Int) = ((64 * q + j : Nat) : Int) by omega, if_pos (by rw [i_gd (by omega)]; exact id), if_pos (by rw [i_gd (by omega)]; exact id), t41 (t := 64 * p + j) (by omega), t41 (t := 64 * q + j) (by omega)]
      dsimp only
      rw [iadd1]
      by_cases c : I 200 (64 * p + j) = I 200 (64 * q + j)
      · rw [if_pos c]
        refine ih (j + 1) f (by omega) (by omega) fun k h => ?_
        by_cases e : k = j
        · rw [e]; exact c
        · exact hk k (by omega)
      · rw [if_neg c]
        exact ⟨fun h => absurd (h j (by omega)) c, fun _ => one u (j + 1) f (by omega) (by omega)⟩
  exact lp 64 0 F (by omega) (by omega) fun k h => by omega
theorem clK {σ : Shp} {I : Nat → Nat → Int32} {R : Nat → Nat → Option Nat} (hS : Skel σ R) (h : GBook I) : ∃ v, gX1_clashes σ I R = some v ∧ gX12_clash σ I R = some v := by
  obtain ⟨F, hF⟩ : ∃ F, FUx = F := ⟨_, rfl⟩
  have hF' : F = 2000000 := by rw [← hF, FUx_eq]
  obtain ⟨o1, o2⟩ := bkO h
  have lp : ∀ (u i f f' : Nat) (x : Int32), u < f → u < f' → i + u = 20 → ∃ v, gX1_clashes_l4 σ I R f x (Int32.ofInt i) = some v ∧ gX12_clash_l4 σ I R f' x (Int32.ofInt i) = some v := by
    intro u
    induction u with
    | zero =>
      intro i f f' x hf hf' hi
      obtain ⟨f, rfl⟩ : ∃ m, f = m + 1 := ⟨f - 1, by omega⟩
      obtain ⟨f', rfl⟩ : ∃ m, f' = m + 1 := ⟨f' - 1, by omega⟩
      rw [gX1_clashes_l4, gX12_clash_l4, if_pos (by rw [i_ler (by omega)]; omega), if_pos (by rw [i_ler (by omega)]; omega)]
      exact ⟨x, rfl, rfl⟩
    | succ u ih =>
      intro i f f' x hf hf' hi
      obtain ⟨f, rfl⟩ : ∃ m, f = m + 1 := ⟨f - 1, by omega⟩
      obtain ⟨f', rfl⟩ : ∃ m, f' = m + 1 := ⟨f' - 1, by omega⟩
      rw [gX1_clashes_l4, gX12_clash_l4, if_neg (by rw [i_ler (by omega)]; omega), if_neg (by rw [i_ler (by omega)]; omega), whC hS o1 (by omega), whM hS o2 (by omega), ob_some, ob_some]
      have wi := (pgN_eq h.e0 (show i < 20 by omega))
      by_cases w : PWh (I 200) i
      case neg =>
        rw [if_pos (by rw [pWz]; exact fun q => w (wi.2.1 q)), if_pos (by rw [pWz]; exact w)]
        dsimp only
        rw [iadd1]
        exact ih (i + 1) f f' x (by omega) (by omega) (by omega)
      obtain ⟨q, q1, q2, q3⟩ := lwC (σ := σ) (R := R) hS o1 (show i < 20 by omega) (wi.2.2 w)
      have b := (pgN_e (Q := I 200) (p := i)).2
      have q2' : PLst (I 200) (pgN (I 200) i) q := by rw [← wi.1]; exact q2.cg h.e0 (by omega)
      rw [if_neg (by rw [pWz]; exact fun g => g (wi.2.2 w)), if_neg (by rw [pWz]; exact fun g => g w), q3, ob_some, pgM hS (by omega), ob_some, poM hS o2 (by omega) (by omega) q2', ob_some, hF]
      obtain ⟨s1, s2⟩ := spC (σ := σ) (I := I) (R := R) (p := i) (q := q) (by omega) (by omega)
      obtain ⟨t1, t2⟩ := clM (q4 := gX12_clash_l4 σ I R f') (σ := σ) (I := I) (R := R) (p := i) (q := q) (x1 := x) (by omega) (by omega) (F := F) (by omega)
      have eq : Sme (I 109) i q ↔ Sme (I 200) i q := by
        unfold Sme
        exact ⟨fun z k hk => by rw [← h.e0 _ (by omega), ← h.e0 _ (by omega)]; exact z k hk, fun z k hk => by rw [h.e0 _ (by omega), h.e0 _ (by omega)]; exact z k hk⟩
      by_cases c : Sme (I 200) i q
      · rw [s1 (eq.2 c), ob_some, t1 c, if_neg n10]
        dsimp only
        rw [iadd1]
        exact ih (i + 1) f f' x (by omega) (by omega) (by omega)
      · rw [s2 (fun z => c (eq.1 z)), ob_some, t2 c, if_pos rfl]
        dsimp only
        rw [iadd1]
        exact ih (i + 1) f f' (x + 1) (by omega) (by omega) (by omega)
  unfold gX1_clashes gX12_clash
  rw [hF]
  exact lp 20 0 F F 0 (by omega) (by omega) (by omega)
theorem siC {σ : Shp} {I : Nat → Nat → Int32} {R : Nat → Nat → Option Nat} : gX6_stepsInAll σ I R = some (0 + I 10 0 + I 10 1 + I 10 2 + I 10 3) := by
  obtain ⟨F, hF⟩ : ∃ F, FUx = F := ⟨_, rfl⟩
  have hF' : F = 2000000 := by rw [← hF, FUx_eq]
  obtain ⟨f, rfl⟩ : ∃ f, F = f + 5 := ⟨1999995, by omega⟩
  unfold gX6_stepsInAll
  rw [hF, gX6_stepsInAll_l4, if_neg (by decide), if_pos (by decide)]
  dsimp only
  rw [gX6_stepsInAll_l4, if_neg (by decide), if_pos (by decide)]
  dsimp only
  rw [gX6_stepsInAll_l4, if_neg (by decide), if_pos (by decide)]
  dsimp only
  rw [gX6_stepsInAll_l4, if_neg (by decide), if_pos (by decide)]
  dsimp only
  rw [gX6_stepsInAll_l4, if_pos (by decide)]
  rfl
theorem c_told {σ : Shp} {I : Nat → Nat → Int32} {J : Nat → Nat → Int64} {D : Nat → Nat → UInt64} {R : Nat → Nat → Option Nat} {x1 : Int32} (hS : Skel σ R) (h : GBook I) (h2 : GScal I) (h3 : GPlan I) (h4 : GPest I J) (h5 : GTab I) (h6 : GHouse I J D) : Tot (gX11_told σ I R x1) (fun t => Tot (gX12_told σ t.1 R x1) (fun t2 => t.2 = t2 ∧ GBook t.1 ∧ Ag [(111, 112)] I t.1)) := by
  unfold gX11_told gX12_told
  by_cases c0 : x1 = 0
  · rw [if_pos c0]
    refine tt (I, I 26 13) (I 114 85) rfl ?_ ⟨h6.e33, h, Ag.rf⟩
    rw [if_pos c0]
  rw [if_neg c0]
  by_cases c1 : x1 = 1
  · rw [if_pos c1]
    refine tt (I, I 4 12) (I 114 0) rfl ?_ ⟨h2.e0, h, Ag.rf⟩
    rw [if_neg c0, if_pos c1]
  rw [if_neg c1]
  by_cases c2 : x1 = 2
  · rw [if_pos c2]
    refine tt (I, I 4 13) (I 114 1) rfl ?_ ⟨h2.e1, h, Ag.rf⟩
    rw [if_neg c0, if_neg c1, if_pos c2]
  rw [if_neg c2]
  by_cases c3 : x1 = 3
  · rw [if_pos c3]
    refine tt (I, I 108 3) (I 114 129) rfl ?_ ⟨h.e2, h, Ag.rf⟩
    rw [if_neg c0, if_neg c1, if_neg c2, if_pos c3]
  rw [if_neg c3]
  by_cases c4 : x1 = 4
  · rw [if_pos c4]
    refine tt (I, I 108 4) (I 114 130) rfl ?_ ⟨h.e3, h, Ag.rf⟩
    rw [if_neg c0, if_neg c1, if_neg c2, if_neg c3, if_pos c4]
  rw [if_neg c4]
  by_cases c5 : x1 = 5
  · rw [if_pos c5, h.e4]
    by_cases d : I 114 131 = 0
    · rw [if_pos d]
      refine tt (I, 0) 0 rfl ?_ ⟨rfl, h, Ag.rf⟩
      show (if x1 = 0 then _ else _) = _
      rw [if_neg c0, if_neg c1, if_neg c2, if_neg c3, if_neg c4, if_pos c5, if_pos d]
    · rw [if_neg d]
      refine tt (I, 1) 1 rfl ?_ ⟨rfl, h, Ag.rf⟩
      show (if x1 = 0 then _ else _) = _
      rw [if_neg c0, if_neg c1, if_neg c2, if_neg c3, if_neg c4, if_pos c5, if_neg d]
  rw [if_neg c5]
  by_cases c6 : x1 = 6
  · rw [if_pos c6]
    obtain ⟨v, v1, v2⟩ := clK hS h
    refine tt (I, v) v (by rw [v1]; rfl) ?_ ⟨rfl, h, Ag.rf⟩
    show (if x1 = 0 then _ else _) = _
    rw [if_neg c0, if_neg c1, if_neg c2, if_neg c3, if_neg c4, if_neg c5, if_pos c6, v2]
    rfl
  rw [if_neg c6]
  by_cases c7 : x1 = 7
  · rw [if_pos c7]
    refine tt (I, I 91 8) (I 114 125) rfl ?_ ⟨h4.e8, h, Ag.rf⟩
    rw [if_neg c0, if_neg c1, if_neg c2, if_neg c3, if_neg c4, if_neg c5, if_neg c6, if_pos c7]
  rw [if_neg c7]
  by_cases c8 : x1 = 8
  · rw [if_pos c8]
    obtain ⟨I1, m, g, a1, a2, ⟨a3, a3'⟩, a4, a5⟩ := bkG (σ := σ) (R := R) hS h
    have hB : GBook I1 := h.kp (a2.kp rfl)
    refine tt (I1, Int32.ofInt (m : Int)) (Int32.ofInt (m : Int)) (by rw [a1]; rfl) ?_ ⟨rfl, hB, a2⟩
    show (if x1 = 0 then _ else _) = _
    rw [if_neg c0, if_neg c1, if_neg c2, if_neg c3, if_neg c4, if_neg c5, if_neg c6, if_neg c7, if_pos c8, rmM hS (bkO hB).2 (by rw [a3']; exact a4)]
    rfl
  rw [if_neg c8]
  by_cases c9 : x1 = 9
  · rw [if_pos c9]
    refine tt (I, 0 + I 10 0 + I 10 1 + I 10 2 + I 10 3) (I 134 0 + I 134 1 + I 134 2 + I 134 3) (by rw [siC]; rfl) ?_ ⟨?_, h, Ag.rf⟩
    · show (if x1 = 0 then _ else _) = _
      rw [if_neg c0, if_neg c1, if_neg c2, if_neg c3, if_neg c4, if_neg c5, if_neg c6, if_neg c7, if_neg c8, if_pos c9, if_pos (by decide), if_pos (by decide), if_pos (by decide), if_pos (by decide)]
      rfl
    · rw [h3.e0 0 (by omega), h3.e0 1 (by omega), h3.e0 2 (by omega), h3.e0 3 (by omega), Int32.zero_add]
  rw [if_neg c9]
  by_cases c10 : x1 = 10
  · rw [if_pos c10]
    refine tt (I, I 27 8) (I 114 83) rfl ?_ ⟨h5.e17, h, Ag.rf⟩
    rw [if_neg c0, if_neg c1, if_neg c2, if_neg c3, if_neg c4, if_neg c5, if_neg c6, if_neg c7, if_neg c8, if_neg c9, if_pos c10]
  rw [if_neg c10]
  refine tt (I, -2) (-2) rfl ?_ ⟨rfl, h, Ag.rf⟩
  show (if x1 = 0 then _ else _) = _
  rw [if_neg c0, if_neg c1, if_neg c2, if_neg c3, if_neg c4, if_neg c5, if_neg c6, if_neg c7, if_neg c8, if_neg c9, if_neg c10]
