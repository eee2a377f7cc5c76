/-! ===== pages: numbers, sums, whole pages: both sides ===== -/
def wd (Q : Nat → Int32) : Nat → Nat → Int64 → Int64
  | 0, _, z => z
  | n + 1, a, z => wd Q n (a + 1) ((z <<< (Int32.toInt64 (8 : Int32) &&& 63)) ||| Int32.toInt64 (Q a))
theorem wd_eq {Q Q' : Nat → Int32} : ∀ (n a : Nat) (z : Int64), (∀ k, a ≤ k → k < a + n → Q k = Q' k) → wd Q n a z = wd Q' n a z := by
  intro n
  induction n with
  | zero => intro a z _; rfl
  | succ n ih =>
    intro a z h
    show wd Q n (a + 1) _ = wd Q' n (a + 1) _
    rw [h a (by omega) (by omega)]
    exact ih _ _ fun k h1 h2 => h k (by omega) (by omega)
theorem wd1 {Q : Nat → Int32} {a : Nat} : wd Q 1 a 0 = Int32.toInt64 (Q a) := by
  show ((0 : Int64) <<< (Int32.toInt64 (8 : Int32) &&& 63)) ||| Int32.toInt64 (Q a) = _
  rw [show (0 : Int64) <<< (Int32.toInt64 (8 : Int32) &&& 63) = 0 by decide]
  exact Int64.zero_or
/-- the step of the sum -/
def smG (z q : Int32) : Int32 := (((z ^^^ q) <<< ((11 : Int32) &&& 31)) ||| ((Int32.toUInt32 (z ^^^ q) >>> (Int32.toUInt32 (21 : Int32) &&& Int32.toUInt32 31)).toInt32)) * (-1028477387 : Int32)
theorem rot_s (z q : Int32) : fXN_rotL (z ^^^ q) 11 * (-1028477387 : Int32) = smG z q := by
  unfold fXN_rotL smG
  rw [show Int32.toUInt32 (-(11 : Int32)) &&& Int32.toUInt32 31 = Int32.toUInt32 (21 : Int32) &&& Int32.toUInt32 31 by decide]
theorem rot_m (z q : Int32) : (((z ^^^ q) <<< ((11 : Int32) &&& 31)) ||| ((Int32.toUInt32 (z ^^^ q) >>> (Int32.toUInt32 (21 : Int32) &&& Int32.toUInt32 31)).toInt32)) * (-1028477387 : Int32) = smG z q := by
  unfold smG
  exact Eq.refl _
def foF (g : Int32 → Int32 → Int32) (Q : Nat → Int32) : Nat → Nat → Int32 → Int32
  | 0, _, z => z
  | n + 1, a, z => foF g Q n (a + 1) (g z (Q a))
theorem foF_0 {g : Int32 → Int32 → Int32} {Q : Nat → Int32} {a : Nat} {z : Int32} : foF g Q 0 a z = z := rfl
theorem foF_s {g : Int32 → Int32 → Int32} {Q : Nat → Int32} {n a : Nat} {z : Int32} : foF g Q (n + 1) a z = foF g Q n (a + 1) (g z (Q a)) := rfl
theorem foF_eq {g : Int32 → Int32 → Int32} {Q Q' : Nat → Int32} : ∀ (n a : Nat) (z : Int32), (∀ k, a ≤ k → k < a + n → Q k = Q' k) → foF g Q n a z = foF g Q' n a z := by
  intro n
  induction n with
  | zero => intro a z _; rfl
  | succ n ih =>
    intro a z h
    rw [foF_s, foF_s, h a (by omega) (by omega)]
    exact ih _ _ fun k h1 h2 => h k (by omega) (by omega)
def smF (Q : Nat → Int32) (n a : Nat) (z : Int32) : Int32 := foF smG Q n a z
theorem smF_eq {Q Q' : Nat → Int32} (n a : Nat) (z : Int32) (h : ∀ k, a ≤ k → k < a + n → Q k = Q' k) : smF Q n a z = smF Q' n a z := by
  unfold smF
  exact foF_eq n a z h
theorem nAt {σ : Shp} {I : Nat → Nat → Int32} {R : Nat → Nat → Option Nat} {p a n : Nat} (hp : p < 20) (h : a + n ≤ 64) : gX1_numberAt σ I R (Int32.ofInt p) (Int32.ofInt a) (Int32.ofInt n) = some (wd (I 109) n (64 * p + a) 0) := by
  obtain ⟨F, hF⟩ : ∃ F, FUx = F := ⟨_, rfl⟩
  have hF' : F = 2000000 := by rw [← hF, FUx_eq]
  have lp : ∀ (u j f : Nat) (z : Int64), u < f → j + u = n → gX1_numberAt_l6 σ I R f (Int32.ofInt p) (Int32.ofInt a) (Int32.ofInt n) z (Int32.ofInt j) = some (wd (I 109) u (64 * p + a + j) z) := by
    intro u
    induction u with
    | zero =>
      intro j f z hf hj
      obtain ⟨f, rfl⟩ : ∃ m, f = m + 1 := ⟨f - 1, by omega⟩
      rw [gX1_numberAt_l6, if_pos (by rw [i_le (by omega) (by omega)]; omega)]
      rfl
    | succ u ih =>
      intro j f z hf hj
      obtain ⟨f, rfl⟩ : ∃ m, f = m + 1 := ⟨f - 1, by omega⟩
      have e : Int32.ofInt (p : Int) * 64 + Int32.ofInt (a : Int) + Int32.ofInt (j : Int) = Int32.ofInt ((64 * p + a + j : Nat) : Int) := by
        rw [i_mull, i_add, i_add]; congr 1; omega
      rw [gX1_numberAt_l6, if_neg (by rw [i_le (by omega) (by omega)]; omega), i_add, tX1_isByteT (by omega), if_neg n10, e, if_pos (by rw [i_gd (by omega)]; exact id), t41 (by omega)]
      dsimp only
      rw [iadd1, ih (j + 1) f _ (by omega) (by omega)]
      rfl
  unfold gX1_numberAt
  rw [hF]
  exact lp n 0 F 0 (by omega) (by omega)
theorem nOf {σ : Shp} {I : Nat → Nat → Int32} {R : Nat → Nat → Option Nat} {p : Nat} (hp : p < 20) : gX1_numberOf σ I R (Int32.ofInt p) = some (Int64.toInt32 (wd (I 109) 4 (64 * p) 0)) := by
  unfold gX1_numberOf
  have := nAt (σ := σ) (I := I) (R := R) (p := p) (a := 0) (n := 4) hp (by omega)
  rw [show gX1_numberAt σ I R (Int32.ofInt p) 0 4 = _ from this]
  rfl
theorem wid {σ : Shp} {I : Nat → Nat → Int32} {c l a n : Nat} (k : kdx σ c = 20) (hl : lnx σ c = l) (hb : l ≤ 10000) (h : a + n ≤ l) : gX12_wide σ I (some c) (Int32.ofInt a) (Int32.ofInt n) = some (wd (I c) n a 0) := by
  obtain ⟨F, hF⟩ : ∃ F, FUx = F := ⟨_, rfl⟩
  have hF' : F = 2000000 := by rw [← hF, FUx_eq]
  have lp : ∀ (u j f : Nat) (z : Int64), u < f → j + u = n → gX12_wide_l5 σ I f (some c) (Int32.ofInt a) (Int32.ofInt n) z (Int32.ofInt j) = some (wd (I c) u (a + j) z) := by
    intro u
    induction u with
    | zero =>
      intro j f z hf hj
      obtain ⟨f, rfl⟩ : ∃ m, f = m + 1 := ⟨f - 1, by omega⟩
      rw [gX12_wide_l5, if_pos (by rw [i_le (by omega) (by omega)]; omega)]
      rfl
    | succ u ih =>
      intro j f z hf hj
      obtain ⟨f, rfl⟩ : ∃ m, f = m + 1 := ⟨f - 1, by omega⟩
      rw [gX12_wide_l5, if_neg (by rw [i_le (by omega) (by omega)]; omega), ob_some, if_pos k, iadd, hl, if_pos (by rw [i_gd (by omega)]; exact id), t41 (by omega)]
      dsimp only
      rw [iadd1, ih (j + 1) f _ (by omega) (by omega)]
      rfl
  unfold gX12_wide
  rw [hF]
  exact lp n 0 F 0 (by omega) (by omega)
theorem mNo {σ : Shp} {I : Nat → Nat → Int32} {R : Nat → Nat → Option Nat} {p : Nat} (hS : Skel σ R) (hp : p < 20) : gX12_numberOf σ I (Int32.ofInt p) = some (Int64.toInt32 (wd (I 200) 4 (64 * p) 0)) := by
  unfold gX12_numberOf
  have := wid (σ := σ) (I := I) (c := 200) (a := 64 * p) (n := 4) (hS.k 200 20 (by decide) rfl) (hS.l 200 1280 (by decide) rfl) (by omega) (by omega)
  rw [i_mulr, show (64 : Int) * (p : Int) = ((64 * p : Nat) : Int) by omega, show gX12_wide σ I (some 200) (Int32.ofInt ((64 * p : Nat) : Int)) 4 = _ from this]
  rfl
theorem sC {σ : Shp} {I : Nat → Nat → Int32} {c l a : Nat} (k : kdx σ c = 20) (hl : lnx σ c = l) (hb : l ≤ 10000) (h : a + 60 ≤ l) : gX1_sumOf σ I (some c) (Int32.ofInt a) = some (smF (I c) 60 a 0) := by
  obtain ⟨F, hF⟩ : ∃ F, FUx = F := ⟨_, rfl⟩
  have hF' : F = 2000000 := by rw [← hF, FUx_eq]
  obtain ⟨g, hg⟩ : ∃ g, smG = g := ⟨_, rfl⟩
  have ge : ∀ z q : Int32, fXN_rotL (z ^^^ q) 11 * (-1028477387 : Int32) = g z q := fun z q => by rw [← hg]; exact rot_s z q
  have lp : ∀ (u j f : Nat) (z : Int32), u < f → j + u = 60 → gX1_sumOf_l4 σ I f (some c) (Int32.ofInt a) z (Int32.ofInt j) = some (foF g (I c) u (a + j) z) := by
    intro u
    induction u with
    | zero =>
      intro j f z hf hj
      obtain ⟨f, rfl⟩ : ∃ m, f = m + 1 := ⟨f - 1, by omega⟩
      rw [gX1_sumOf_l4, if_pos (by rw [i_ler (by omega)]; omega), foF_0]
    | succ u ih =>
      intro j f z hf hj
      obtain ⟨f, rfl⟩ : ∃ m, f = m + 1 := ⟨f - 1, by omega⟩
      rw [gX1_sumOf_l4, if_neg (by rw [i_ler (by omega)]; omega), ob_some, if_pos k, iadd, hl, if_neg (show ¬ Int32.ofNat l ≤ Int32.ofInt ((a + j : Nat) : Int) by rw [show Int32.ofNat l = Int32.ofInt (l : Int) from rfl, i_le (by omega) (by omega)]; omega), if_pos (by rw [i_gd (by omega)]; exact id), t41 (by omega)]
      dsimp only
      rw [iadd1, ge, ih (j + 1) f _ (by omega) (by omega), foF_s]
      rfl
  unfold gX1_sumOf
  unfold smF
  rw [hF, hg]
  exact lp 60 0 F 0 (by omega) (by omega)
theorem sM {σ : Shp} {I : Nat → Nat → Int32} {c l a : Nat} (k : kdx σ c = 20) (hl : lnx σ c = l) (hb : l ≤ 10000) (h : a + 60 ≤ l) : gX12_sumOf σ I (some c) (Int32.ofInt a) = some (smF (I c) 60 a 0) := by
  obtain ⟨F, hF⟩ : ∃ F, FUx = F := ⟨_, rfl⟩
  have hF' : F = 2000000 := by rw [← hF, FUx_eq]
  obtain ⟨g, hg⟩ : ∃ g, smG = g := ⟨_, rfl⟩
  have ge : ∀ z q : Int32, (((z ^^^ q) <<< ((11 : Int32) &&& 31)) ||| ((Int32.toUInt32 (z ^^^ q) >>> (Int32.toUInt32 (21 : Int32) &&& Int32.toUInt32 31)).toInt32)) * (-1028477387 : Int32) = g z q := fun z q => by rw [← hg]; exact rot_m z q
  have lp : ∀ (u j f : Nat) (z : Int32), u < f → j + u = 60 → gX12_sumOf_l4 σ I f (some c) (Int32.ofInt a) z (Int32.ofInt j) = some (foF g (I c) u (a + j) z) := by
    intro u
    induction u with
    | zero =>
      intro j f z hf hj
      obtain ⟨f, rfl⟩ : ∃ m, f = m + 1 := ⟨f - 1, by omega⟩
      rw [gX12_sumOf_l4, if_pos (by rw [i_ler (by omega)]; omega), foF_0]
    | succ u ih =>
      intro j f z hf hj
      obtain ⟨f, rfl⟩ : ∃ m, f = m + 1 := ⟨f - 1, by omega⟩
      rw [gX12_sumOf_l4, if_neg (by rw [i_ler (by omega)]; omega), ob_some, if_pos k, iadd, hl, if_pos (by rw [i_gd (by omega)]; exact id), t41 (by omega)]
      dsimp only
      rw [iadd1, ge, ih (j + 1) f _ (by omega) (by omega), foF_s]
      rfl
  unfold gX12_sumOf
  unfold smF
  rw [hF, hg]
  exact lp 60 0 F 0 (by omega) (by omega)
/-- what a whole page is -/
def PWh (Q : Nat → Int32) (p : Nat) : Prop := ¬ Int64.toInt32 (wd Q 4 (64 * p) 0) < 1 ∧ ¬ fX12_isPageLane (Q (64 * p + 4)) = 0 ∧ ∃ c : Nat, c ≤ 6 ∧ Q (64 * p + 5) = Int32.ofInt (c : Int) ∧ (∀ k, 6 ≤ k → k < 60 → (k < 12 ∨ 12 + 8 * c ≤ k) → Q (64 * p + k) = 0) ∧ (∀ k, k < c → fX12_fitted (Q (64 * p + 4)) (wd Q 8 (64 * p + 12 + 8 * k) 0) = wd Q 8 (64 * p + 12 + 8 * k) 0) ∧ Int64.toInt32 (wd Q 4 (64 * p + 60) 0) = smF Q 60 (64 * p) 0
noncomputable def pW (Q : Nat → Int32) (p : Nat) : Int32 := @ite _ (PWh Q p) (Classical.propDecidable _) 1 0
theorem pW_eq {Q Q' : Nat → Int32} {p : Nat} (h : ∀ k, k < 64 → Q (64 * p + k) = Q' (64 * p + k)) : (PWh Q p ↔ PWh Q' p) ∧ pW Q p = pW Q' p := by
  have w : ∀ a n, a + n ≤ 64 → wd Q n (64 * p + a) 0 = wd Q' n (64 * p + a) 0 := fun a n ha => wd_eq n _ _ fun k h1 h2 => by
    have := h (k - 64 * p) (by omega)
    rwa [show 64 * p + (k - 64 * p) = k by omega] at this
  have s : smF Q 60 (64 * p) 0 = smF Q' 60 (64 * p) 0 := smF_eq 60 _ _ fun k h1 h2 => by
    have := h (k - 64 * p) (by omega)
    rwa [show 64 * p + (k - 64 * p) = k by omega] at this
  have iff : PWh Q p ↔ PWh Q' p := by
    unfold PWh
    have w0 : wd Q 4 (64 * p) 0 = wd Q' 4 (64 * p) 0 := w 0 4 (by omega)
    rw [w0, h 4 (by omega), h 5 (by omega), w 60 4 (by omega), s]
    refine and_congr Iff.rfl (and_congr Iff.rfl ?_)
    constructor
    · rintro ⟨c, c1, c2, c3, c4, c5⟩
      refine ⟨c, c1, c2, fun k k1 k2 k3 => ?_, fun k hk => ?_, c5⟩
      · rw [← h k (by omega)]; exact c3 k k1 k2 k3
      · have e : wd Q' 8 (64 * p + 12 + 8 * k) 0 = wd Q 8 (64 * p + 12 + 8 * k) 0 := by rw [show 64 * p + 12 + 8 * k = 64 * p + (12 + 8 * k) by omega]; exact (w _ 8 (by omega)).symm
        rw [e]; exact c4 k hk
    · rintro ⟨c, c1, c2, c3, c4, c5⟩
      refine ⟨c, c1, c2, fun k k1 k2 k3 => ?_, fun k hk => ?_, c5⟩
      · rw [h k (by omega)]; exact c3 k k1 k2 k3
      · have e : wd Q 8 (64 * p + 12 + 8 * k) 0 = wd Q' 8 (64 * p + 12 + 8 * k) 0 := by rw [show 64 * p + 12 + 8 * k = 64 * p + (12 + 8 * k) by omega]; exact w _ 8 (by omega)
        rw [e]; exact c4 k hk
  refine ⟨iff, ?_⟩
  unfold pW
  by_cases c : PWh Q p
  · rw [if_pos c, if_pos (iff.1 c)]
  · rw [if_neg c, if_neg (fun d => c (iff.2 d))]
theorem pW1 {Q : Nat → Int32} {p : Nat} (h : PWh Q p) : pW Q p = 1 := by unfold pW; rw [if_pos h]
theorem pW0 {Q : Nat → Int32} {p : Nat} (h : ¬ PWh Q p) : pW Q p = 0 := by unfold pW; rw [if_neg h]
theorem pWz {Q : Nat → Int32} {p : Nat} : (pW Q p = 0) = ¬ PWh Q p := by
  by_cases c : PWh Q p
  · rw [pW1 c]; exact propext ⟨fun h => absurd h n10, fun h => absurd c h⟩
  · rw [pW0 c]; exact propext ⟨fun _ => c, fun _ => rfl⟩
def Oct (Q : Nat → Int32) : Prop := ∀ k, k < 1280 → Rn (Q k) 0 255
/-- zeros, the class's way -/
theorem zC {σ : Shp} {I : Nat → Nat → Int32} {R : Nat → Nat → Option Nat} {p a b : Nat} (hp : p < 20) (h : a ≤ b) (hb : b ≤ 64) : ∃ z : Int32, gX1_allZero σ I R (Int32.ofInt p) (Int32.ofInt a) (Int32.ofInt b) = some z ∧ ((∀ k, a ≤ k → k < b → I 109 (64 * p + k) = 0) → z = 1) ∧ (¬ (∀ k, a ≤ k → k < b → I 109 (64 * p + k) = 0) → z = 0) := by
  obtain ⟨F, hF⟩ : ∃ F, FUx = F := ⟨_, rfl⟩
  have hF' : F = 2000000 := by rw [← hF, FUx_eq]
  have lp : ∀ (u j f : Nat), u < f → j + u = b → ∃ z : Int32, gX1_allZero_l3 σ I R f (Int32.ofInt p) (Int32.ofInt b) (Int32.ofInt j) = some z ∧ ((∀ k, j ≤ k → k < b → I 109 (64 * p + k) = 0) → z = 1) ∧ (¬ (∀ k, j ≤ k → k < b → I 109 (64 * p + k) = 0) → z = 0) := by
    intro u
    induction u with
    | zero =>
      intro j f hf hj
      obtain ⟨f, rfl⟩ : ∃ m, f = m + 1 := ⟨f - 1, by omega⟩
      rw [gX1_allZero_l3, if_pos (by rw [i_le (by omega) (by omega)]; omega)]
      exact ⟨1, rfl, fun _ => rfl, fun c => absurd (fun k h1 h2 => by omega) c⟩
    | succ u ih =>
      intro j f hf hj
      obtain ⟨f, rfl⟩ : ∃ m, f = m + 1 := ⟨f - 1, by omega⟩
      have nn := nAt (σ := σ) (I := I) (R := R) (p := p) (a := j) (n := 1) hp (by omega)
      rw [wd1] at nn
      rw [gX1_allZero_l3, if_neg (by rw [i_le (by omega) (by omega)]; omega), show gX1_numberAt σ I R (Int32.ofInt p) (Int32.ofInt j) 1 = _ from nn, ob_some]
      by_cases c : I 109 (64 * p + j) = 0
      · rw [if_pos (show Int32.toInt64 (I 109 (64 * p + j)) = 0 by rw [c]; rfl)]
        dsimp only
        rw [iadd1]
        obtain ⟨z, z1, z2, z3⟩ := ih (j + 1) f (by omega) (by omega)
        refine ⟨z, z1, fun g => z2 fun k h1 h2 => g k (by omega) h2, fun g => z3 fun q => g fun k h1 h2 => ?_⟩
        by_cases e : k = j
        · rw [e]; exact c
        · exact q k (by omega) h2
      · rw [if_neg (show ¬ Int32.toInt64 (I 109 (64 * p + j)) = 0 from fun q => c (by
          have := congrArg Int64.toInt32 q
          rw [Int32.toInt32_toInt64] at this
          exact this))]
        exact ⟨0, rfl, fun g => absurd (g j (by omega) (by omega)) c, fun _ => rfl⟩
  unfold gX1_allZero
  rw [hF]
  exact lp (b - a) a F (by omega) (by omega)
theorem lnT {j : Int} (h : 0 ≤ j ∧ j ≤ 255) : fX1_writes (Int32.ofInt j) = fX12_isPageLane (Int32.ofInt j) ∧ (¬ fX12_isPageLane (Int32.ofInt j) = 0 → j ≤ 7) := by
  unfold fX1_writes fX12_isPageLane
  by_cases c1 : j = 1
  · rw [if_pos (by rw [c1]; rfl), if_pos (by rw [c1]; rfl)]
    exact ⟨rfl, fun _ => by omega⟩
  by_cases c3 : j = 3
  · subst c3; exact ⟨rfl, fun _ => by omega⟩
  by_cases c4 : j = 4
  · subst c4; exact ⟨rfl, fun _ => by omega⟩
  by_cases c5 : j = 5
  · subst c5; exact ⟨rfl, fun _ => by omega⟩
  rw [if_neg (by rw [i_eql (by omega)]; omega), if_neg (by rw [i_eql (by omega)]; omega), if_neg (by rw [i_eql (by omega)]; omega), if_neg (by rw [i_eql (by omega)]; omega), if_neg (by rw [i_eql (by omega)]; omega)]
  by_cases c : j < 3
  · rw [if_pos (by rw [i_ltl (by omega)]; omega)]; exact ⟨rfl, fun _ => by omega⟩
  · rw [if_neg (by rw [i_ltl (by omega)]; omega), if_pos (by rw [i_ltr (by omega)]; omega)]; exact ⟨rfl, fun g => absurd rfl g⟩
theorem whC {σ : Shp} {I : Nat → Nat → Int32} {R : Nat → Nat → Option Nat} {p : Nat} (hS : Skel σ R) (hO : Oct (I 109)) (hp : p < 20) : gX1_isWhole σ I R (Int32.ofInt p) = some (pW (I 109) p) := by
  obtain ⟨F, hF⟩ : ∃ F, FUx = F := ⟨_, rfl⟩
  have hF' : F = 2000000 := by rw [← hF, FUx_eq]
  obtain ⟨l, l1, l2, e4⟩ := hO (64 * p + 4) (by omega)
  obtain ⟨c', c1, c2, e5⟩ := hO (64 * p + 5) (by omega)
  obtain ⟨c, rfl⟩ : ∃ c : Nat, c' = (c : Int) := ⟨c'.toNat, by omega⟩
  have n4 := nAt (σ := σ) (I := I) (R := R) (p := p) (a := 4) (n := 1) hp (by omega)
  have n5 := nAt (σ := σ) (I := I) (R := R) (p := p) (a := 5) (n := 1) hp (by omega)
  have n60 := nAt (σ := σ) (I := I) (R := R) (p := p) (a := 60) (n := 4) hp (by omega)
  rw [wd1] at n4 n5
  have sm := sC (σ := σ) (I := I) (c := 109) (a := 64 * p) (hS.k 109 20 (by decide) rfl) (hS.l 109 1280 (by decide) rfl) (by omega) (by omega)
  obtain ⟨t1, t2⟩ := lnT (j := l) (by omega)
  unfold gX1_isWhole
  dsimp only
  rw [hF, show gX1_numberAt σ I R (Int32.ofInt p) 4 1 = _ from n4, ob_some, show gX1_numberAt σ I R (Int32.ofInt p) 5 1 = _ from n5, ob_some, nOf hp, ob_some, Int32.toInt32_toInt64, Int32.toInt32_toInt64]
  by_cases g1 : Int64.toInt32 (wd (I 109) 4 (64 * p) 0) < 1
  · rw [if_pos g1, pW0 (fun h => h.1 g1)]
  rw [if_neg g1]
  by_cases g2 : fX12_isPageLane (I 109 (64 * p + 4)) = 0
  · rw [if_pos (by rw [e4, t1, ← e4]; exact g2), pW0 (fun h => h.2.1 g2)]
  rw [if_neg (show ¬ fX1_writes (I 109 (64 * p + 4)) = 0 by rw [e4, t1, ← e4]; exact g2), e5]
  have l7 : l ≤ 7 := t2 (by rw [← e4]; exact g2)
  by_cases g3 : c ≤ 6
  case neg =>
    rw [if_neg (by rw [i_lel (by omega)]; omega), pW0]
    rintro ⟨-, -, d, d1, d2, -⟩
    rw [e5, i_eq (by omega) (by omega)] at d2
    omega
  rw [if_pos (by rw [i_lel (by omega)]; omega)]
  have un : ∀ d : Nat, d ≤ 6 → I 109 (64 * p + 5) = Int32.ofInt (d : Int) → d = c := fun d d1 d2 => by
    rw [e5, i_eq (by omega) (by omega)] at d2
    omega
  obtain ⟨z, z1, z2, z3⟩ := zC (σ := σ) (I := I) (R := R) (p := p) (a := 6) (b := 12) hp (by omega) (by omega)
  rw [show gX1_allZero σ I R (Int32.ofInt p) 6 12 = _ from z1, ob_some]
  by_cases g4 : ∀ k, 6 ≤ k → k < 12 → I 109 (64 * p + k) = 0
  case neg =>
    rw [if_pos (z3 g4), pW0]
    rintro ⟨-, -, d, d1, d2, d3, -⟩
    exact g4 fun k h1 h2 => d3 k h1 (by omega) (Or.inl h2)
  rw [if_neg (show ¬ z = 0 by rw [z2 g4]; exact n10)]
  obtain ⟨y, y1, y2, y3⟩ := zC (σ := σ) (I := I) (R := R) (p := p) (a := 12 + 8 * c) (b := 60) hp (by omega) (by omega)
  rw [i_mulr, i_addr, show (12 : Int) + (8 : Int) * (c : Int) = ((12 + 8 * c : Nat) : Int) by omega, show gX1_allZero σ I R (Int32.ofInt p) (Int32.ofInt ((12 + 8 * c : Nat) : Int)) 60 = _ from y1, ob_some]
  by_cases g5 : ∀ k, 12 + 8 * c ≤ k → k < 60 → I 109 (64 * p + k) = 0
  case neg =>
    rw [if_pos (y3 g5), pW0]
    rintro ⟨-, -, d, d1, d2, d3, -⟩
    obtain rfl := un d d1 d2
    exact g5 fun k h1 h2 => d3 k (by omega) (by omega) (Or.inr h1)
  rw [if_neg (show ¬ y = 0 by rw [y2 g5]; exact n10)]
  have lp : ∀ (u j f : Nat), u < f → j + u = c → (∀ k, k < j → fX12_fitted (I 109 (64 * p + 4)) (wd (I 109) 8 (64 * p + 12 + 8 * k) 0) = wd (I 109) 8 (64 * p + 12 + 8 * k) 0) → gX1_isWhole_l76 σ I R f (Int32.ofInt p) (I 109 (64 * p + 4)) (Int32.ofInt c) (Int32.ofInt j) = some (pW (I 109) p) := by
    intro u
    induction u with
    | zero =>
      intro j f hf hj hq
      obtain ⟨f, rfl⟩ : ∃ m, f = m + 1 := ⟨f - 1, by omega⟩
      rw [gX1_isWhole_l76, if_pos (by rw [i_le (by omega) (by omega)]; omega), show gX1_numberAt σ I R (Int32.ofInt p) 60 4 = _ from n60, ob_some, i_mull, show (p : Int) * 64 = ((64 * p : Nat) : Int) by omega, sm, ob_some]
      by_cases g : Int64.toInt32 (wd (I 109) 4 (64 * p + 60) 0) = smF (I 109) 60 (64 * p) 0
      · rw [if_pos g, pW1]
        refine ⟨g1, g2, c, g3, e5, fun k k1 k2 k3 => ?_, fun k hk => hq k (by omega), g⟩
        rcases k3 with h | h
        · exact g4 k k1 h
        · exact g5 k h k2
      · rw [if_neg g, pW0]
        rintro ⟨-, -, d, d1, d2, d3, d4, d5⟩
        exact g d5
    | succ u ih =>
      intro j f hf hj hq
      obtain ⟨f, rfl⟩ : ∃ m, f = m + 1 := ⟨f - 1, by omega⟩
      have nn := nAt (σ := σ) (I := I) (R := R) (p := p) (a := 12 + 8 * j) (n := 8) hp (by omega)
      rw [gX1_isWhole_l76, if_neg (by rw [i_le (by omega) (by omega)]; omega), i_mulr, i_addr, show (12 : Int) + (8 : Int) * (j : Int) = ((12 + 8 * j : Nat) : Int) by omega, show gX1_numberAt σ I R (Int32.ofInt p) (Int32.ofInt ((12 + 8 * j : Nat) : Int)) 8 = _ from nn, ob_some, e4, cell_eq (by omega), ← e4, show 64 * p + (12 + 8 * j) = 64 * p + 12 + 8 * j by omega]
      by_cases g : fX12_fitted (I 109 (64 * p + 4)) (wd (I 109) 8 (64 * p + 12 + 8 * j) 0) = wd (I 109) 8 (64 * p + 12 + 8 * j) 0
      · rw [if_pos g.symm]
        dsimp only
        rw [iadd1]
        refine ih (j + 1) f (by omega) (by omega) fun k hk => ?_
        by_cases e : k = j
        · rw [e]; exact g
        · exact hq k (by omega)
      · rw [if_neg (fun q => g q.symm), pW0]
        rintro ⟨-, -, d, d1, d2, d3, d4, d5⟩
        obtain rfl := un d d1 d2
        exact g (d4 j (by omega))
  exact lp c 0 F (by omega) (by omega) fun k hk => by omega
