/-! ===== wish: marks of the day, both sides ===== -/
def wf (n k : Nat) : Nat := if k = 0 then n - 1 else k - 1
def wn (n k : Nat) : Nat := if k = n then 0 else k
def wS (n k : Nat) (M : Nat → Int) : Int := M (wf n k) - (if k = 0 then 1440 else 0)
def wE (n k : Nat) (M : Nat → Int) : Int := M (wn n k) + (if k = n then 1440 else 0)
def wV (n k : Nat) (M W : Nat → Int) (x : Int) : Int := W (wf n k) + (W (wn n k) - W (wf n k)) * (x - wS n k M) / (wE n k M - wS n k M)
def WsB (n : Nat) (M W : Nat → Int) : Prop := 1 ≤ n ∧ n ≤ 6 ∧ (∀ k, k + 1 < n → M k < M (k + 1)) ∧ ∀ k, k < 6 → 0 ≤ M k ∧ M k ≤ 1439 ∧ -50000 ≤ W k ∧ W k ≤ 60000
def WsV (n : Nat) (M W : Nat → Int) (x v : Int) : Prop := ∃ k, k ≤ n ∧ (∀ q, q < k → M q ≤ x) ∧ (k < n → x < M k) ∧ v = wV n k M W x
theorem WsV.uq {n : Nat} {M W : Nat → Int} {x v v' : Int} (h : WsV n M W x v) (h' : WsV n M W x v') : v = v' := by
  obtain ⟨k, a1, a2, a3, rfl⟩ := h
  obtain ⟨k', b1, b2, b3, rfl⟩ := h'
  by_cases c : k = k'
  · rw [c]
  · by_cases d : k < k'
    · have := b2 k d
      have := a3 (by omega)
      omega
    · have := a2 k' (by omega)
      have := b3 (by omega)
      omega
theorem i6 {t : Nat} (h : t < 6) : ¬ (Int32.ofInt (t : Int) < 0 ∨ 6 ≤ Int32.toNatClampNeg (Int32.ofInt (t : Int))) := by rw [i_gd (by omega)]; exact id
theorem i6p {t : Nat} (h : t < 6) : ¬ (Int32.ofInt (t : Int) < 0 ∨ 6 ≤ t) := by rw [i_ltl (by omega)]; omega
theorem wB {n k : Nat} {M W : Nat → Int} {x : Int} (hB : WsB n M W) (hx : 0 ≤ x ∧ x ≤ 1439) (h1 : k ≤ n) (h2 : ∀ q, q < k → M q ≤ x) (h3 : k < n → x < M k) : wf n k < n ∧ wn n k < n ∧ wS n k M ≤ x ∧ x < wE n k M ∧ -1440 ≤ wS n k M ∧ wS n k M ≤ 1439 ∧ 0 ≤ wE n k M ∧ wE n k M ≤ 2879 ∧ wE n k M - wS n k M ≤ 2880 := by
  obtain ⟨n1, n2, m1, m2⟩ := hB
  have b0 := m2 0 (by omega)
  have bn := m2 (n - 1) (by omega)
  unfold wS wE wf wn
  by_cases c : k = 0
  · subst c
    have := h3 (by omega)
    rw [if_pos rfl, if_pos rfl, if_neg (by omega), if_neg (by omega)]
    omega
  · have bk := m2 (k - 1) (by omega)
    have := h2 (k - 1) (by omega)
    have := h2 0 (by omega)
    rw [if_neg c, if_neg c]
    by_cases d : k = n
    · rw [if_pos d, if_pos d]
      omega
    · rw [if_neg d, if_neg d]
      have b := m2 k (by omega)
      have := h3 (by omega)
      omega
theorem wsD {n k : Nat} {M W : Nat → Int} {x : Int} (hB : WsB n M W) (hx : 0 ≤ x ∧ x ≤ 1439) (h1 : k ≤ n) (h2 : ∀ q, q < k → M q ≤ x) (h3 : k < n → x < M k) : (-4000000000000 ≤ (W (wn n k) - W (wf n k)) * (x - wS n k M) ∧ (W (wn n k) - W (wf n k)) * (x - wS n k M) ≤ 4000000000000) ∧ -200000 ≤ wV n k M W x ∧ wV n k M W x ≤ 200000 := by
  obtain ⟨c1, c2, c3, c4, c5, c6, c7, c8, c9⟩ := wB hB hx h1 h2 h3
  obtain ⟨n1, n2, m1, m2⟩ := hB
  have ba := m2 (wf n k) (by omega)
  have bb := m2 (wn n k) (by omega)
  refine ⟨qb (c := 0) (d := 0) (by omega) (by omega), ?_⟩
  have hd : 0 < wE n k M - wS n k M := by omega
  have : ∀ a b w : Int, 0 < w → 0 ≤ b → b ≤ w → -110000 ≤ a → a ≤ 110000 → -110000 ≤ a * b / w ∧ a * b / w ≤ 110000 := by
    intro a b w hw hb hbw h1 h2
    constructor
    · rw [Int.le_ediv_iff_mul_le hw]
      have e1 : -110000 * b ≤ a * b := Int.mul_le_mul_of_nonneg_right h1 hb
      omega
    · apply Int.ediv_le_of_le_mul hw
      have e1 : a * b ≤ 110000 * b := Int.mul_le_mul_of_nonneg_right h2 hb
      omega
  have := this (W (wn n k) - W (wf n k)) (x - wS n k M) (wE n k M - wS n k M) hd (by omega) (by omega) (by omega) (by omega)
  unfold wV
  omega
theorem wsC {σ : Shp} {I : Nat → Nat → Int32} {R : Nat → Nat → Option Nat} {t n : Nat} {M W : Nat → Int} {x : Int} (ht : t < 3) (hB : WsB n M W) (hx : 0 ≤ x ∧ x ≤ 1439) (e1 : I 70 t = Int32.ofInt (n : Int)) (e2 : ∀ k, k < 6 → I (63 + t) k = Int32.ofInt (M k)) (e3 : ∀ k, k < 6 → I (67 + t) k = Int32.ofInt (W k)) : ∃ v, gX4_wishAt σ I R (Int32.ofInt t) (Int32.ofInt x) = some (Int32.ofInt v) ∧ WsV n M W x v ∧ -200000 ≤ v ∧ v ≤ 200000 := by
  obtain ⟨F, hF⟩ : ∃ F, FUx = F := ⟨_, rfl⟩
  have hF' : F = 2000000 := by rw [← hF, FUx_eq]
  have hB' := hB
  obtain ⟨b1, b1', b2, b3⟩ := hB
  unfold gX4_wishAt
  dsimp only
  rw [hF, if_pos (i3 ht), t41 (t := t) (by omega), e1, if_pos (by rw [i_ler (by omega)]; omega)]
  have lp : ∀ (u k f : Nat), u < f → k + u = n → (∀ q, q < k → M q ≤ x) → ∃ b, b ≤ n ∧ (∀ q, q < b → M q ≤ x) ∧ (b < n → x < M b) ∧ gX4_wishAt_l17 σ I R f (Int32.ofInt t) (Int32.ofInt x) (Int32.ofInt (n : Int)) (Int32.ofInt k) = gX4_wishAt_b57 σ I R (Int32.ofInt t) (Int32.ofInt x) (Int32.ofInt (n : Int)) (Int32.ofInt b) (Int32.ofInt (wf n b : Nat)) := by
    have ew : ∀ b, b ≤ n → (if Int32.ofInt (b : Int) = 0 then gX4_wishAt_b57 σ I R (Int32.ofInt t) (Int32.ofInt x) (Int32.ofInt (n : Int)) (Int32.ofInt b) (Int32.ofInt (n : Int) - (1 : Int32)) else gX4_wishAt_b57 σ I R (Int32.ofInt t) (Int32.ofInt x) (Int32.ofInt (n : Int)) (Int32.ofInt b) (Int32.ofInt (b : Int) - (1 : Int32))) = gX4_wishAt_b57 σ I R (Int32.ofInt t) (Int32.ofInt x) (Int32.ofInt (n : Int)) (Int32.ofInt b) (Int32.ofInt (wf n b : Nat)) := fun b hb => by
      unfold wf
      by_cases c : b = 0
      · rw [if_pos (by rw [c]; rfl), if_pos c, i_subl, show (n : Int) - 1 = ((n - 1 : Nat) : Int) by omega]
      · rw [if_neg (by rw [i_eql (by omega)]; omega), if_neg c, i_subl, show (b : Int) - 1 = ((b - 1 : Nat) : Int) by omega]
    intro u
    induction u with
    | zero =>
      intro k f hf hk hq
      obtain ⟨f, rfl⟩ : ∃ m, f = m + 1 := ⟨f - 1, by omega⟩
      refine ⟨k, by omega, hq, fun h => by omega, ?_⟩
      rw [gX4_wishAt_l17, if_pos (by rw [i_le (by omega) (by omega)]; omega), ew k (by omega)]
    | succ u ih =>
      intro k f hf hk hq
      obtain ⟨f, rfl⟩ : ∃ m, f = m + 1 := ⟨f - 1, by omega⟩
      have bk := b3 k (by omega)
      rw [gX4_wishAt_l17, if_neg (by rw [i_le (by omega) (by omega)]; omega), if_pos (i3 ht), if_pos (i6 (by omega)), t41 (t := t) (by omega), t41 (t := k) (by omega), e2 k (by omega)]
      by_cases g : x < M k
      · rw [if_pos (show Int32.ofInt x < Int32.ofInt (M k) by rw [i_lt (by omega) (by omega)]; omega), ew k (by omega)]
        exact ⟨k, by omega, hq, fun _ => g, rfl⟩
      · rw [if_neg (show ¬ Int32.ofInt x < Int32.ofInt (M k) by rw [i_lt (by omega) (by omega)]; omega)]
        dsimp only
        rw [iadd1]
        exact ih (k + 1) f (by omega) (by omega) (fun q h => by
          by_cases e : q = k
          · rw [e]; omega
          · exact hq q (by omega))
  obtain ⟨k, r1, r2, r3, r4⟩ := lp n 0 F (by omega) (by omega) (fun q h => by omega)
  have r4' : gX4_wishAt_l17 σ I R F (Int32.ofInt t) (Int32.ofInt x) (Int32.ofInt (n : Int)) 0 = _ := r4
  rw [r4']
  obtain ⟨c1, c2, c3, c4, c5, c6, c7, c8, c9⟩ := wB hB' hx r1 r2 r3
  obtain ⟨d1, d2⟩ := wsD hB' hx r1 r2 r3
  refine ⟨_, ?_, ⟨k, r1, r2, r3, rfl⟩, d2⟩
  have ba := b3 (wf n k) (by omega)
  have bb := b3 (wn n k) (by omega)
  have q119 : ∀ s1 : Int32, Int32.ofInt (M (wn n k)) + s1 = Int32.ofInt (wE n k M) → gX4_wishAt_b119 σ I R (Int32.ofInt t) (Int32.ofInt x) (Int32.ofInt (wf n k : Nat)) (Int32.ofInt (wn n k : Nat)) (Int32.ofInt (wS n k M)) (Int32.ofInt (M (wn n k))) s1 = some (Int32.ofInt (wV n k M W x)) := fun s1 es => by
    have fl := (flo (p := (W (wn n k) - W (wf n k)) * (x - wS n k M)) (w := wE n k M - wS n k M) (by omega) (by omega)).1
    unfold gX4_wishAt_b119
    dsimp only
    rw [es, if_pos (by rw [i_lt (by omega) (by omega)]; omega), if_pos (i3 ht), if_pos (i6 (by omega)), if_pos (i6 (by omega)), t41 (t := t) (by omega), t41 (t := wf n k) (by omega), t41 (t := wn n k) (by omega), e3 _ (by omega), e3 _ (by omega), i_sub, i_sub, i_w (by omega), i_w (by omega), i_w (by omega), i_w (by omega), j_sub, j_mul, fl, ob_some, j_add, Int64.toInt32_ofInt]
    rfl
  have q94 : ∀ s1 : Int32, Int32.ofInt (M (wf n k)) - s1 = Int32.ofInt (wS n k M) → gX4_wishAt_b94 σ I R (Int32.ofInt t) (Int32.ofInt x) (Int32.ofInt (n : Int)) (Int32.ofInt (k : Int)) (Int32.ofInt (wf n k : Nat)) (Int32.ofInt (wn n k : Nat)) (Int32.ofInt (M (wf n k))) s1 = some (Int32.ofInt (wV n k M W x)) := fun s1 es => by
    unfold gX4_wishAt_b94
    dsimp only
    rw [es, if_pos (i3 ht), if_pos (i6 (by omega)), t41 (t := t) (by omega), t41 (t := wn n k) (by omega), e2 _ (by omega)]
    by_cases c : k = n
    · rw [if_pos (show Int32.ofInt (k : Int) = Int32.ofInt (n : Int) by rw [c])]
      exact q119 _ (by rw [i_addl]; unfold wE; rw [if_pos c])
    · rw [if_neg (show ¬ Int32.ofInt (k : Int) = Int32.ofInt (n : Int) by rw [i_eq (by omega) (by omega)]; omega)]
      exact q119 _ (by rw [i_addl]; unfold wE; rw [if_neg c])
  have q57 : ∀ y : Int32, y = Int32.ofInt (wn n k : Nat) → (if Int32.ofInt (k : Int) = 0 then gX4_wishAt_b94 σ I R (Int32.ofInt t) (Int32.ofInt x) (Int32.ofInt (n : Int)) (Int32.ofInt (k : Int)) (Int32.ofInt (wf n k : Nat)) y (Int32.ofInt (M (wf n k))) (1440 : Int32) else gX4_wishAt_b94 σ I R (Int32.ofInt t) (Int32.ofInt x) (Int32.ofInt (n : Int)) (Int32.ofInt (k : Int)) (Int32.ofInt (wf n k : Nat)) y (Int32.ofInt (M (wf n k))) (0 : Int32)) = some (Int32.ofInt (wV n k M W x)) := fun y ey => by
    rw [ey]
    by_cases c : k = 0
    · rw [if_pos (by rw [c]; rfl)]
      exact q94 _ (by rw [i_subl]; unfold wS; rw [if_pos c])
    · rw [if_neg (by rw [i_eql (by omega)]; omega)]
      exact q94 _ (by rw [i_subl]; unfold wS; rw [if_neg c])
  unfold gX4_wishAt_b57
  by_cases c : k = n
  · rw [if_pos (show Int32.ofInt (k : Int) = Int32.ofInt (n : Int) by rw [c]), if_pos (i3 ht), if_pos (i6 (by omega)), t41 (t := t) (by omega), t41 (t := wf n k) (by omega), e2 _ (by omega)]
    exact q57 0 (by unfold wn; rw [if_pos c]; rfl)
  · rw [if_neg (show ¬ Int32.ofInt (k : Int) = Int32.ofInt (n : Int) by rw [i_eq (by omega) (by omega)]; omega), if_pos (i3 ht), if_pos (i6 (by omega)), t41 (t := t) (by omega), t41 (t := wf n k) (by omega), e2 _ (by omega)]
    exact q57 _ (by unfold wn; rw [if_neg c])
theorem i18 {t : Nat} (h : t < 18) : ¬ (Int32.ofInt (t : Int) < 0 ∨ 18 ≤ Int32.toNatClampNeg (Int32.ofInt (t : Int))) := by rw [i_gd (by omega)]; exact id
theorem i18p {t : Nat} (h : t < 18) : ¬ (Int32.ofInt (t : Int) < 0 ∨ 18 ≤ t) := by rw [i_ltl (by omega)]; omega
theorem wsM {σ : Shp} {I : Nat → Nat → Int32} {R : Nat → Nat → Option Nat} {t n : Nat} {M W : Nat → Int} {x : Int} (ht : t < 3) (hB : WsB n M W) (hx : 0 ≤ x ∧ x ≤ 1439) (e1 : I 181 t = Int32.ofInt (n : Int)) (e2 : ∀ k, k < 6 → I 182 (6 * t + k) = Int32.ofInt (M k)) (e3 : ∀ k, k < 6 → I 183 (6 * t + k) = Int32.ofInt (W k)) : ∃ v, gX12_wishAt σ I R (Int32.ofInt t) (Int32.ofInt x) = some (Int32.ofInt v) ∧ WsV n M W x v := by
  obtain ⟨F, hF⟩ : ∃ F, FUx = F := ⟨_, rfl⟩
  have hF' : F = 2000000 := by rw [← hF, FUx_eq]
  have hB' := hB
  obtain ⟨b1, b1', b2, b3⟩ := hB
  have e6 : (6 : Int32) * Int32.ofInt (t : Int) = Int32.ofInt ((6 * t : Nat) : Int) := by rw [i_mulr, show (6 : Int) * (t : Int) = ((6 * t : Nat) : Int) by omega]
  unfold gX12_wishAt
  dsimp only
  rw [hF, if_pos (i3 ht), t41 (t := t) (by omega), e1, i_subl]
  have lp : ∀ (u k f : Nat), u < f → k = u → k ≤ n → (k < n → x < M k) → ∃ b, b ≤ n ∧ (∀ q, q < b → M q ≤ x) ∧ (b < n → x < M b) ∧ gX12_wishAt_l12 σ I R f (Int32.ofInt t) (Int32.ofInt x) (Int32.ofInt (n : Int)) (Int32.ofInt ((k : Int) - 1)) = gX12_wishAt_b56 σ I R (Int32.ofInt t) (Int32.ofInt x) (Int32.ofInt (n : Int)) (Int32.ofInt ((b : Int) - 1)) (Int32.ofInt ((6 * t : Nat) : Int)) (Int32.ofInt (wf n b : Nat)) := by
    intro u
    induction u with
    | zero =>
      intro k f hf hk hn hq
      obtain ⟨f, rfl⟩ : ∃ m, f = m + 1 := ⟨f - 1, by omega⟩
      refine ⟨k, by omega, fun q h => by omega, hq, ?_⟩
      rw [gX12_wishAt_l12, e6, if_pos (by rw [i_ltl (by omega)]; omega), if_neg (by rw [i_ler (by omega)]; omega), i_subl]
      unfold wf
      rw [if_pos (by omega), show (n : Int) - 1 = ((n - 1 : Nat) : Int) by omega]
    | succ u ih =>
      intro k f hf hk hn hq
      obtain ⟨f, rfl⟩ : ∃ m, f = m + 1 := ⟨f - 1, by omega⟩
      have bk := b3 (k - 1) (by omega)
      rw [gX12_wishAt_l12, e6, if_neg (by rw [i_ltl (by omega)]; omega), i_add, show ((6 * t : Nat) : Int) + ((k : Int) - 1) = ((6 * t + (k - 1) : Nat) : Int) by omega, if_pos (i18 (by omega)), t41 (t := 6 * t + (k - 1)) (by omega), e2 (k - 1) (by omega)]
      by_cases g : M (k - 1) ≤ x
      · rw [if_pos (show Int32.ofInt (M (k - 1)) ≤ Int32.ofInt x by rw [i_le (by omega) (by omega)]; omega), if_pos (by rw [i_ler (by omega)]; omega)]
        have mono : ∀ d q, q + d = k - 1 → M q ≤ M (k - 1) := by
          intro d
          induction d with
          | zero => intro q h; rw [show q = k - 1 by omega]; exact Int.le_refl _
          | succ d ihd =>
            intro q h
            have := ihd (q + 1) (by omega)
            have := b2 q (by omega)
            omega
        refine ⟨k, by omega, fun q h => ?_, hq, ?_⟩
        · have := mono (k - 1 - q) q (by omega)
          omega
        · unfold wf
          rw [if_neg (by omega), show (k : Int) - 1 = ((k - 1 : Nat) : Int) by omega]
      · rw [if_neg (show ¬ Int32.ofInt (M (k - 1)) ≤ Int32.ofInt x by rw [i_le (by omega) (by omega)]; omega)]
        dsimp only
        rw [i_addn, show (k : Int) - 1 + -1 = ((k - 1 : Nat) : Int) - 1 by omega]
        exact ih (k - 1) f (by omega) (by omega) (by omega) (fun h => by omega)
  obtain ⟨k, r1, r2, r3, r4⟩ := lp n n F (by omega) rfl (by omega) (fun h => by omega)
  rw [r4]
  obtain ⟨c1, c2, c3, c4, c5, c6, c7, c8, c9⟩ := wB hB' hx r1 r2 r3
  obtain ⟨d1, d2⟩ := wsD hB' hx r1 r2 r3
  refine ⟨_, ?_, ⟨k, r1, r2, r3, rfl⟩⟩
  have ba := b3 (wf n k) (by omega)
  have bb := b3 (wn n k) (by omega)
  have ev : wV n k M W x - W (wf n k) = (W (wn n k) - W (wf n k)) * (x - wS n k M) / (wE n k M - wS n k M) := by unfold wV; omega
  have q84 : ∀ s1 : Int32, Int32.ofInt ((6 * t : Nat) : Int) + s1 = Int32.ofInt ((6 * t + wn n k : Nat) : Int) → gX12_wishAt_b84 σ I R (Int32.ofInt x) (Int32.ofInt (n : Int)) (Int32.ofInt ((k : Int) - 1)) (Int32.ofInt ((6 * t + wf n k : Nat) : Int)) (Int32.ofInt ((6 * t : Nat) : Int)) s1 = some (Int32.ofInt (wV n k M W x)) := fun s1 es => by
    unfold gX12_wishAt_b84
    dsimp only
    rw [es]
    by_cases c : n = 1
    · rw [if_pos (show Int32.ofInt (n : Int) = 1 by rw [c]; rfl), if_pos (i18 (by omega)), t41 (t := 6 * t + wf n k) (by omega), e3 _ (by omega)]
      unfold wV
      rw [show wn n k = wf n k by omega, Int.sub_self, Int.zero_mul, Int.zero_ediv, Int.add_zero]
    · rw [if_neg (by rw [i_eql (by omega)]; omega), if_pos (i18 (by omega)), t41 (t := 6 * t + wf n k) (by omega), e2 _ (by omega), i_sub]
      have fl := (flo (p := (W (wn n k) - W (wf n k)) * (x - wS n k M)) (w := wE n k M - wS n k M) (by omega) (by omega)).2
      have q153 : ∀ s1 : Int32, Int32.ofInt (M (wn n k) - M (wf n k)) + s1 = Int32.ofInt (wE n k M - wS n k M) → gX12_wishAt_b153 σ I R (Int32.ofInt ((6 * t + wf n k : Nat) : Int)) (Int32.ofInt ((6 * t + wn n k : Nat) : Int)) (Int32.ofInt (x - wS n k M)) (Int32.ofInt (M (wn n k) - M (wf n k))) s1 = some (Int32.ofInt (wV n k M W x)) := fun s1 es => by
        unfold gX12_wishAt_b153
        dsimp only
        rw [es, if_pos (i18 (by omega)), if_pos (i18 (by omega)), t41 (t := 6 * t + wf n k) (by omega), t41 (t := 6 * t + wn n k) (by omega), e3 _ (by omega), e3 _ (by omega), i_sub, i_w (by omega), i_w (by omega), i_w (by omega), j_mul, fl, ob_some, Int64.toInt32_ofInt, i_add]
        rfl
      have q121 : ∀ s1 : Int32, Int32.ofInt (x - M (wf n k)) + s1 = Int32.ofInt (x - wS n k M) → gX12_wishAt_b121 σ I R (Int32.ofInt ((6 * t + wf n k : Nat) : Int)) (Int32.ofInt ((6 * t + wn n k : Nat) : Int)) (Int32.ofInt (x - M (wf n k))) s1 = some (Int32.ofInt (wV n k M W x)) := fun s1 es => by
        unfold gX12_wishAt_b121
        dsimp only
        rw [es, if_pos (i18 (by omega)), if_pos (i18 (by omega)), t41 (t := 6 * t + wf n k) (by omega), t41 (t := 6 * t + wn n k) (by omega), e2 _ (by omega), e2 _ (by omega), i_sub]
        by_cases g : wf n k < wn n k
        · rw [if_pos (by rw [i_lt (by omega) (by omega)]; omega)]
          refine q153 _ ?_
          rw [i_addl]
          unfold wE wS
          unfold wf wn at g
          by_cases h0 : k = 0
          · rw [if_pos h0] at g; split at g <;> omega
          · by_cases hn : k = n
            · rw [if_pos hn] at g; omega
            · rw [if_neg h0, if_neg hn]
              congr 1
              omega
        · rw [if_neg (by rw [i_lt (by omega) (by omega)]; omega)]
          refine q153 _ ?_
          rw [i_addl]
          unfold wE wS
          unfold wf wn at g
          by_cases h0 : k = 0
          · rw [if_pos h0, if_neg (show ¬ k = n by omega)]
            congr 1
            omega
          · by_cases hn : k = n
            · rw [if_neg h0, if_pos hn]
              congr 1
              omega
            · rw [if_neg h0, if_neg hn] at g; omega
      by_cases g : k = 0
      · rw [if_neg (by rw [i_ler (by omega)]; omega)]
        exact q121 _ (by rw [i_addl]; unfold wS; rw [if_pos g]; congr 1; omega)
      · rw [if_pos (by rw [i_ler (by omega)]; omega)]
        exact q121 _ (by rw [i_addl]; unfold wS; rw [if_neg g]; congr 1; omega)
  unfold gX12_wishAt_b56
  dsimp only
  rw [iadd, e6]
  by_cases g : k = 0
  · rw [if_pos (by rw [i_ltl (by omega)]; omega)]
    refine q84 _ ?_
    rw [i_addl]; congr 1; unfold wn; split <;> omega
  · rw [if_neg (by rw [i_ltl (by omega)]; omega), i_subl]
    by_cases h : k = n
    · rw [if_pos (show Int32.ofInt ((k : Int) - 1) = Int32.ofInt ((n : Int) - 1) by rw [h])]
      refine q84 _ ?_
      rw [i_addl]; congr 1; unfold wn; rw [if_pos h]; omega
    · rw [if_neg (show ¬ Int32.ofInt ((k : Int) - 1) = Int32.ofInt ((n : Int) - 1) by rw [i_eq (by omega) (by omega)]; omega)]
      refine q84 _ ?_
      rw [i_addl, i_add]; congr 1; unfold wn; rw [if_neg h]; omega
/-- the marks of a house -/
theorem mrk {I : Nat → Nat → Int32} {J : Nat → Nat → Int64} {D : Nat → Nat → UInt64} (h : GHouse I J D) {t : Nat} (ht : t < 3) : ∃ n : Nat, n ≤ 6 ∧ I 181 t = Int32.ofInt (n : Int) ∧ (1 ≤ n → ∃ M W : Nat → Int, WsB n M W ∧ (∀ k, k < 6 → I 182 (6 * t + k) = Int32.ofInt (M k)) ∧ (∀ k, k < 6 → I 183 (6 * t + k) = Int32.ofInt (W k))) := by
  obtain ⟨n, n1, n2, e⟩ := h.e27 t ht
  have vx : ∀ k, k < 6 → I 182 (6 * t + k) = Int32.ofInt (I 182 (6 * t + k)).toInt ∧ 0 ≤ (I 182 (6 * t + k)).toInt ∧ (I 182 (6 * t + k)).toInt ≤ 1439 := fun k hk => by
    obtain ⟨v, v1, v2, e⟩ := h.e30 (6 * t + k) (by omega)
    rw [e, ti (by omega) (by omega)]
    exact ⟨rfl, v1, v2⟩
  have vy : ∀ k, k < 6 → I 183 (6 * t + k) = Int32.ofInt (I 183 (6 * t + k)).toInt ∧ -50000 ≤ (I 183 (6 * t + k)).toInt ∧ (I 183 (6 * t + k)).toInt ≤ 60000 := fun k hk => by
    obtain ⟨v, v1, v2, e⟩ := h.e31 (6 * t + k) (by omega)
    rw [e, ti (by omega) (by omega)]
    exact ⟨rfl, v1, v2⟩
  refine ⟨n.toNat, by omega, by rw [e, show (n.toNat : Int) = n by omega], fun g => ⟨fun k => (I 182 (6 * t + k)).toInt, fun k => (I 183 (6 * t + k)).toInt, ⟨g, by omega, fun k hk => ?_, fun k hk => ⟨(vx k hk).2.1, (vx k hk).2.2, (vy k hk).2.1, (vy k hk).2.2⟩⟩, fun k hk => (vx k hk).1, fun k hk => (vy k hk).1⟩⟩
  have a := h.e32 t k ht (by omega) (by rw [e, i_lt (by omega) (by omega)]; omega)
  rwa [show 6 * t + k + 1 = 6 * t + (k + 1) by omega, (vx k (by omega)).1, (vx (k + 1) (by omega)).1, i_lt (by have := vx k (by omega); omega) (by have := vx (k + 1) (by omega); omega)] at a
theorem c_wish {σ : Shp} {I : Nat → Nat → Int32} {J : Nat → Nat → Int64} {D : Nat → Nat → UInt64} {R : Nat → Nat → Option Nat} {x1 x2 : Int32} (h : GHouse I J D) : Tot (gX11_wish σ I R x1 x2) (fun t => Tot (gX12_wish σ I R x1 x2) (fun t2 => t = t2 ∧ True)) := by
  obtain ⟨i, hi1, hi2, rfl⟩ := rep x1
  obtain ⟨x, hx1, hx2, rfl⟩ := rep x2
  by_cases c1 : 0 ≤ i ∧ i ≤ 2
  case neg =>
    exact tt (-100000) (-100000) (by unfold gX11_wish; simp (disch := omega) only [fail_r, no_r, nob_r, fI_o, Nat.reduceLeDiff, ↓reduceIte, not_true_eq_false, not_false_eq_true, false_imp_iff, true_imp_iff, and_true, true_and, and_self, implies_true, false_or, or_false, true_or, or_true, d10, d01, d00, d11, g_tn, Tot_some, Tot_none, Tot_ite, Tot_bind, ob_some, onl_n, onl_s, nat32, Int.toNat_natCast, i_add, i_sub, i_mul, i_addl, i_addr, i_subl, i_subr, i_mulr, i_addn, i_gd, i_tn, i_w, i_ltlT, i_ltlF, i_ltrT, i_ltrF, i_lelT, i_lelF, i_lerT, i_lerF, i_eqlT, i_eqlF, i_eqrT, i_eqrF, i_ltnT, i_ltnF, i_lenT, i_lenF, i_eqnT, i_eqnF, i_ltT, i_ltF, i_leT, i_leF, i_eqT, i_eqF, j_ltlT, j_ltlF, j_ltrT, j_ltrF, j_lelT, j_lelF, j_lerT, j_lerF, j_eqlT, j_eqlF, j_ltT, j_ltF, j_leT, j_leF, j_eqT, j_eqF, i_mull, l_tn, l_lt0, l_ne0, nleF, tX11_isStockT, tX11_isStockF, tX11_isBinT, tX11_isBinF, tX11_isPlanT, tX11_isPlanF, tX11_isValveT, tX11_isValveF, tX11_isLaneT, tX11_isLaneF, tX11_isGridFormT, tX11_isGridFormF, tX11_isFormT, tX11_isFormF, tX11_isTrayFormT, tX11_isTrayFormF, tX11_isPlacesFormT, tX11_isPlacesFormF, tX11_isTableT, tX11_isTableF, tX11_isProbeT, tX11_isProbeF, tX11_isHouseT, tX11_isHouseF, tX11_isPestT, tX11_isPestF, tX11_isStageT, tX11_isStageF, tX11_isPartT, tX11_isPartF, tX12_isBinT, tX12_isBinF, tX12_isTableT, tX12_isTableF, tX12_inT, tX12_inF, tX12_innT, tX12_innF, tX12_ingT, tX12_ingF, tX12_isStageT, tX12_isStageF, tX1_isByteT, tX1_isByteF]) (by unfold gX12_wish; simp (disch := omega) only [fail_r, no_r, nob_r, fI_o, Nat.reduceLeDiff, ↓reduceIte, not_true_eq_false, not_false_eq_true, false_imp_iff, true_imp_iff, and_true, true_and, and_self, implies_true, false_or, or_false, true_or, or_true, d10, d01, d00, d11, g_tn, Tot_some, Tot_none, Tot_ite, Tot_bind, ob_some, onl_n, onl_s, nat32, Int.toNat_natCast, i_add, i_sub, i_mul, i_addl, i_addr, i_subl, i_subr, i_mulr, i_addn, i_gd, i_tn, i_w, i_ltlT, i_ltlF, i_ltrT, i_ltrF, i_lelT, i_lelF, i_lerT, i_lerF, i_eqlT, i_eqlF, i_eqrT, i_eqrF, i_ltnT, i_ltnF, i_lenT, i_lenF, i_eqnT, i_eqnF, i_ltT, i_ltF, i_leT, i_leF, i_eqT, i_eqF, j_ltlT, j_ltlF, j_ltrT, j_ltrF, j_lelT, j_lelF, j_lerT, j_lerF, j_eqlT, j_eqlF, j_ltT, j_ltF, j_leT, j_leF, j_eqT, j_eqF, i_mull, l_tn, l_lt0, l_ne0, nleF, tX11_isStockT, tX11_isStockF, tX11_isBinT, tX11_isBinF, tX11_isPlanT, tX11_isPlanF, tX11_isValveT, tX11_isValveF, tX11_isLaneT, tX11_isLaneF, tX11_isGridFormT, tX11_isGridFormF, tX11_isFormT, tX11_isFormF, tX11_isTrayFormT, tX11_isTrayFormF, tX11_isPlacesFormT, tX11_isPlacesFormF, tX11_isTableT, tX11_isTableF, tX11_isProbeT, tX11_isProbeF, tX11_isHouseT, tX11_isHouseF, tX11_isPestT, tX11_isPestF, tX11_isStageT, tX11_isStageF, tX11_isPartT, tX11_isPartF, tX12_isBinT, tX12_isBinF, tX12_isTableT, tX12_isTableF, tX12_inT, tX12_inF, tX12_innT, tX12_innF, tX12_ingT, tX12_ingF, tX12_isStageT, tX12_isStageF, tX1_isByteT, tX1_isByteF]) ⟨rfl, trivial⟩
  by_cases c2 : 0 ≤ x
  case neg =>
    exact tt (-100000) (-100000) (by unfold gX11_wish; simp (disch := omega) only [fail_r, no_r, nob_r, fI_o, Nat.reduceLeDiff, ↓reduceIte, not_true_eq_false, not_false_eq_true, false_imp_iff, true_imp_iff, and_true, true_and, and_self, implies_true, false_or, or_false, true_or, or_true, d10, d01, d00, d11, g_tn, Tot_some, Tot_none, Tot_ite, Tot_bind, ob_some, onl_n, onl_s, nat32, Int.toNat_natCast, i_add, i_sub, i_mul, i_addl, i_addr, i_subl, i_subr, i_mulr, i_addn, i_gd, i_tn, i_w, i_ltlT, i_ltlF, i_ltrT, i_ltrF, i_lelT, i_lelF, i_lerT, i_lerF, i_eqlT, i_eqlF, i_eqrT, i_eqrF, i_ltnT, i_ltnF, i_lenT, i_lenF, i_eqnT, i_eqnF, i_ltT, i_ltF, i_leT, i_leF, i_eqT, i_eqF, j_ltlT, j_ltlF, j_ltrT, j_ltrF, j_lelT, j_lelF, j_lerT, j_lerF, j_eqlT, j_eqlF, j_ltT, j_ltF, j_leT, j_leF, j_eqT, j_eqF, i_mull, l_tn, l_lt0, l_ne0, nleF, tX11_isStockT, tX11_isStockF, tX11_isBinT, tX11_isBinF, tX11_isPlanT, tX11_isPlanF, tX11_isValveT, tX11_isValveF, tX11_isLaneT, tX11_isLaneF, tX11_isGridFormT, tX11_isGridFormF, tX11_isFormT, tX11_isFormF, tX11_isTrayFormT, tX11_isTrayFormF, tX11_isPlacesFormT, tX11_isPlacesFormF, tX11_isTableT, tX11_isTableF, tX11_isProbeT, tX11_isProbeF, tX11_isHouseT, tX11_isHouseF, tX11_isPestT, tX11_isPestF, tX11_isStageT, tX11_isStageF, tX11_isPartT, tX11_isPartF, tX12_isBinT, tX12_isBinF, tX12_isTableT, tX12_isTableF, tX12_inT, tX12_inF, tX12_innT, tX12_innF, tX12_ingT, tX12_ingF, tX12_isStageT, tX12_isStageF, tX1_isByteT, tX1_isByteF]) (by unfold gX12_wish; simp (disch := omega) only [fail_r, no_r, nob_r, fI_o, Nat.reduceLeDiff, ↓reduceIte, not_true_eq_false, not_false_eq_true, false_imp_iff, true_imp_iff, and_true, true_and, and_self, implies_true, false_or, or_false, true_or, or_true, d10, d01, d00, d11, g_tn, Tot_some, Tot_none, Tot_ite, Tot_bind, ob_some, onl_n, onl_s, nat32, Int.toNat_natCast, i_add, i_sub, i_mul, i_addl, i_addr, i_subl, i_subr, i_mulr, i_addn, i_gd, i_tn, i_w, i_ltlT, i_ltlF, i_ltrT, i_ltrF, i_lelT, i_lelF, i_lerT, i_lerF, i_eqlT, i_eqlF, i_eqrT, i_eqrF, i_ltnT, i_ltnF, i_lenT, i_lenF, i_eqnT, i_eqnF, i_ltT, i_ltF, i_leT, i_leF, i_eqT, i_eqF, j_ltlT, j_ltlF, j_ltrT, j_ltrF, j_lelT, j_lelF, j_lerT, j_lerF, j_eqlT, j_eqlF, j_ltT, j_ltF, j_leT, j_leF, j_eqT, j_eqF, i_mull, l_tn, l_lt0, l_ne0, nleF, tX11_isStockT, tX11_isStockF, tX11_isBinT, tX11_isBinF, tX11_isPlanT, tX11_isPlanF, tX11_isValveT, tX11_isValveF, tX11_isLaneT, tX11_isLaneF, tX11_isGridFormT, tX11_isGridFormF, tX11_isFormT, tX11_isFormF, tX11_isTrayFormT, tX11_isTrayFormF, tX11_isPlacesFormT, tX11_isPlacesFormF, tX11_isTableT, tX11_isTableF, tX11_isProbeT, tX11_isProbeF, tX11_isHouseT, tX11_isHouseF, tX11_isPestT, tX11_isPestF, tX11_isStageT, tX11_isStageF, tX11_isPartT, tX11_isPartF, tX12_isBinT, tX12_isBinF, tX12_isTableT, tX12_isTableF, tX12_inT, tX12_inF, tX12_innT, tX12_innF, tX12_ingT, tX12_ingF, tX12_isStageT, tX12_isStageF, tX1_isByteT, tX1_isByteF]) ⟨rfl, trivial⟩
  by_cases c2' : x ≤ 1439
  case neg =>
    exact tt (-100000) (-100000) (by unfold gX11_wish; simp (disch := omega) only [fail_r, no_r, nob_r, fI_o, Nat.reduceLeDiff, ↓reduceIte, not_true_eq_false, not_false_eq_true, false_imp_iff, true_imp_iff, and_true, true_and, and_self, implies_true, false_or, or_false, true_or, or_true, d10, d01, d00, d11, g_tn, Tot_some, Tot_none, Tot_ite, Tot_bind, ob_some, onl_n, onl_s, nat32, Int.toNat_natCast, i_add, i_sub, i_mul, i_addl, i_addr, i_subl, i_subr, i_mulr, i_addn, i_gd, i_tn, i_w, i_ltlT, i_ltlF, i_ltrT, i_ltrF, i_lelT, i_lelF, i_lerT, i_lerF, i_eqlT, i_eqlF, i_eqrT, i_eqrF, i_ltnT, i_ltnF, i_lenT, i_lenF, i_eqnT, i_eqnF, i_ltT, i_ltF, i_leT, i_leF, i_eqT, i_eqF, j_ltlT, j_ltlF, j_ltrT, j_ltrF, j_lelT, j_lelF, j_lerT, j_lerF, j_eqlT, j_eqlF, j_ltT, j_ltF, j_leT, j_leF, j_eqT, j_eqF, i_mull, l_tn, l_lt0, l_ne0, nleF, tX11_isStockT, tX11_isStockF, tX11_isBinT, tX11_isBinF, tX11_isPlanT, tX11_isPlanF, tX11_isValveT, tX11_isValveF, tX11_isLaneT, tX11_isLaneF, tX11_isGridFormT, tX11_isGridFormF, tX11_isFormT, tX11_isFormF, tX11_isTrayFormT, tX11_isTrayFormF, tX11_isPlacesFormT, tX11_isPlacesFormF, tX11_isTableT, tX11_isTableF, tX11_isProbeT, tX11_isProbeF, tX11_isHouseT, tX11_isHouseF, tX11_isPestT, tX11_isPestF, tX11_isStageT, tX11_isStageF, tX11_isPartT, tX11_isPartF, tX12_isBinT, tX12_isBinF, tX12_isTableT, tX12_isTableF, tX12_inT, tX12_inF, tX12_innT, tX12_innF, tX12_ingT, tX12_ingF, tX12_isStageT, tX12_isStageF, tX1_isByteT, tX1_isByteF]) (by unfold gX12_wish; simp (disch := omega) only [fail_r, no_r, nob_r, fI_o, Nat.reduceLeDiff, ↓reduceIte, not_true_eq_false, not_false_eq_true, false_imp_iff, true_imp_iff, and_true, true_and, and_self, implies_true, false_or, or_false, true_or, or_true, d10, d01, d00, d11, g_tn, Tot_some, Tot_none, Tot_ite, Tot_bind, ob_some, onl_n, onl_s, nat32, Int.toNat_natCast, i_add, i_sub, i_mul, i_addl, i_addr, i_subl, i_subr, i_mulr, i_addn, i_gd, i_tn, i_w, i_ltlT, i_ltlF, i_ltrT, i_ltrF, i_lelT, i_lelF, i_lerT, i_lerF, i_eqlT, i_eqlF, i_eqrT, i_eqrF, i_ltnT, i_ltnF, i_lenT, i_lenF, i_eqnT, i_eqnF, i_ltT, i_ltF, i_leT, i_leF, i_eqT, i_eqF, j_ltlT, j_ltlF, j_ltrT, j_ltrF, j_lelT, j_lelF, j_lerT, j_lerF, j_eqlT, j_eqlF, j_ltT, j_ltF, j_leT, j_leF, j_eqT, j_eqF, i_mull, l_tn, l_lt0, l_ne0, nleF, tX11_isStockT, tX11_isStockF, tX11_isBinT, tX11_isBinF, tX11_isPlanT, tX11_isPlanF, tX11_isValveT, tX11_isValveF, tX11_isLaneT, tX11_isLaneF, tX11_isGridFormT, tX11_isGridFormF, tX11_isFormT, tX11_isFormF, tX11_isTrayFormT, tX11_isTrayFormF, tX11_isPlacesFormT, tX11_isPlacesFormF, tX11_isTableT, tX11_isTableF, tX11_isProbeT, tX11_isProbeF, tX11_isHouseT, tX11_isHouseF, tX11_isPestT, tX11_isPestF, tX11_isStageT, tX11_isStageF, tX11_isPartT, tX11_isPartF, tX12_isBinT, tX12_isBinF, tX12_isTableT, tX12_isTableF, tX12_inT, tX12_inF, tX12_innT, tX12_innF, tX12_ingT, tX12_ingF, tX12_isStageT, tX12_isStageF, tX1_isByteT, tX1_isByteF]) ⟨rfl, trivial⟩
  replace c2 := And.intro c2 c2'
  obtain ⟨t, rfl⟩ : ∃ k : Nat, i = (k : Int) := ⟨i.toNat, by omega⟩
  have ht : t < 3 := by omega
  obtain ⟨n, n1, e1, e2⟩ := mrk h ht
  by_cases c3 : n = 0
  · have f1 : I 181 t = 0 := by rw [e1, c3]; rfl
    refine tt (-100001) (-100001) ?_ ?_ ⟨rfl, trivial⟩
    · unfold gX11_wish gX4_hasWish
      rw [tX11_isHouseT (by omega), if_neg n10, if_neg (by rw [i_ltl (by omega)]; omega), if_pos (by rw [i_lel (by omega)]; omega), if_pos (i3 ht), t41 (t := t) (by omega), h.e26 t ht, f1]
      rfl
    · unfold gX12_wish
      rw [tX12_inT (by omega), if_neg n10, tX12_inT (by omega), if_neg n10, if_pos (i3 ht), t41 (t := t) (by omega), f1]
      rfl
  · obtain ⟨M, W, g1, g2, g3⟩ := e2 (by omega)
    have km : ∀ k, k < 6 → I (63 + t) k = Int32.ofInt (M k) := fun k hk => by rw [h.e28 t k ht hk]; exact g2 k hk
    have kw : ∀ k, k < 6 → I (67 + t) k = Int32.ofInt (W k) := fun k hk => by rw [h.e29 t k ht hk]; exact g3 k hk
    obtain ⟨v, v1, v2, v3⟩ := wsC (σ := σ) (R := R) ht g1 c2 (by rw [h.e26 t ht]; exact e1) km kw
    obtain ⟨v', w1, w2⟩ := wsM (σ := σ) (R := R) ht g1 c2 e1 g2 g3
    obtain rfl := WsV.uq v2 w2
    refine tt (Int32.ofInt v) (Int32.ofInt v) ?_ ?_ ⟨rfl, trivial⟩
    · unfold gX11_wish gX4_hasWish
      rw [tX11_isHouseT (by omega), if_neg n10, if_neg (by rw [i_ltl (by omega)]; omega), if_pos (by rw [i_lel (by omega)]; omega), if_pos (i3 ht), t41 (t := t) (by omega), h.e26 t ht, e1, if_neg (by rw [i_lel (by omega)]; omega), ob_some, if_neg n10, v1, ob_some]
    · unfold gX12_wish
      rw [tX12_inT (by omega), if_neg n10, tX12_inT (by omega), if_neg n10, if_pos (i3 ht), t41 (t := t) (by omega), e1, if_neg (by rw [i_eql (by omega)]; omega), w1, ob_some]
