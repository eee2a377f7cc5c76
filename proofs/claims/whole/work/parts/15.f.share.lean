/-! ===== whole numbers parted: the greatest rests ===== -/
def bst (r : Nat → Int64) : Nat → Nat → Nat → Nat
  | 0, g, _ => g
  | w + 1, g, k => if r k ≤ r g then bst r w g (k + 1) else bst r w k (k + 1)
def p3 (z : Nat) : Nat → (Nat → Int64) → (Nat → Int64) → (Nat → Int64) × (Nat → Int64)
  | 0, o, r => (o, r)
  | m + 1, o, r => p3 z m (u1 o (bst r (z - 1) 0 1) (o (bst r (z - 1) 0 1) + 1)) (u1 r (bst r (z - 1) 0 1) (-1))
theorem bst_lt {r : Nat → Int64} {z : Nat} : ∀ (w g k : Nat), g < z → k + w = z → bst r w g k < z := by
  intro w
  induction w with
  | zero => intro g k hg _; exact hg
  | succ w ih =>
    intro g k hg hk
    unfold bst
    split
    · exact ih g (k + 1) hg (by omega)
    · exact ih k (k + 1) (by omega) (by omega)
theorem bst_eq {r r' : Nat → Int64} {z : Nat} (h : ∀ k, k < z → r k = r' k) : ∀ (w g k : Nat), g < z → k + w = z → bst r w g k = bst r' w g k := by
  intro w
  induction w with
  | zero => intro g k _ _; rfl
  | succ w ih =>
    intro g k hg hk
    unfold bst
    rw [h k (by omega), h g hg, ih g (k + 1) hg (by omega), ih k (k + 1) (by omega) (by omega)]
theorem p3_eq {z : Nat} (hz : 1 ≤ z) : ∀ (m : Nat) (o o' r r' : Nat → Int64), (∀ k, k < z → o k = o' k) → (∀ k, k < z → r k = r' k) → (∀ k, k < z → (p3 z m o r).1 k = (p3 z m o' r').1 k) := by
  intro m
  induction m with
  | zero => intro o o' r r' h _; exact h
  | succ m ih =>
    intro o o' r r' h h2
    unfold p3
    have e := bst_eq h2 (z - 1) 0 1 (by omega) (by omega)
    have l := bst_lt (r := r') (z := z) (z - 1) 0 1 (by omega) (by omega)
    rw [e]
    refine ih _ _ _ _ (fun k hk => ?_) (fun k hk => ?_)
    · unfold u1
      rw [h _ l, h k hk]
    · unfold u1
      rw [h2 k hk]
/-- two rows of the memory set anew -/
def rw2 (J : Nat → Nat → Int64) (O Q : Nat) (o r : Nat → Int64) : Nat → Nat → Int64 := fun a k => if a = O then o k else if a = Q then r k else J a k
theorem rw2_s {J : Nat → Nat → Int64} {O Q g : Nat} {o r : Nat → Int64} {x y : Int64} (h : O ≠ Q) : u2 (u2 (rw2 J O Q o r) O g x) Q g y = rw2 J O Q (u1 o g x) (u1 r g y) := by
  funext a k
  unfold u2 rw2 u1
  by_cases c1 : a = O
  · subst c1
    by_cases c3 : k = g
    · simp [h, c3]
    · simp [h, c3]
  · by_cases c2 : a = Q
    · subst c2
      by_cases c3 : k = g
      · simp [c1, c3]
      · simp [c1, c3]
    · simp [c1, c2]
theorem rw2_0 {J : Nat → Nat → Int64} {O Q : Nat} : rw2 J O Q (J O) (J Q) = J := by
  funext a k
  unfold rw2
  split
  · rename_i h; rw [h]
  · split
    · rename_i h; rw [h]
    · rfl
theorem rw2_O {J : Nat → Nat → Int64} {O Q k : Nat} {o r : Nat → Int64} : rw2 J O Q o r O k = o k := if_pos rfl
theorem rw2_Q {J : Nat → Nat → Int64} {O Q k : Nat} {o r : Nat → Int64} (h : O ≠ Q) : rw2 J O Q o r Q k = r k := by
  unfold rw2
  rw [if_neg (fun e => h e.symm), if_pos rfl]
theorem rw2_n {J : Nat → Nat → Int64} {O Q a k : Nat} {o r : Nat → Int64} (h1 : a ≠ O) (h2 : a ≠ Q) : rw2 J O Q o r a k = J a k := by
  unfold rw2
  rw [if_neg h1, if_neg h2]
theorem gL {t z : Nat} (h : t < z) (hz : z ≤ 1000) : ¬ (Int32.ofInt (t : Int) < 0 ∨ z ≤ Int32.toNatClampNeg (Int32.ofInt (t : Int))) := by rw [i_gd (by omega)]; exact id
theorem gLp {t z : Nat} (h : t < z) (hz : z ≤ 1000) : ¬ (Int32.ofInt (t : Int) < 0 ∨ z ≤ t) := by rw [i_ltl (by omega)]; omega
/-- the class's search and its step -/
theorem s113 {σ : Shp} {J : Nat → Nat → Int64} {O Q z lo lq : Nat} {o r : Nat → Int64} {x8 : Int64} {x10 : Int32} {q : (Nat → Nat → Int64) → Int32 → Option Nat → Option Nat → Int64 → Int32 → Option (Nat → Nat → Int64)} (hOQ : O ≠ Q) (k1 : kdx σ O = 21) (k2 : kdx σ Q = 21) (l1 : lnx σ O = lo) (l2 : lnx σ Q = lq) (hlo : z ≤ lo ∧ lo ≤ 1000) (hlq : z ≤ lq ∧ lq ≤ 1000) : ∀ (w g k n : Nat), w < n → g < z → k + w = z → gX11_shareOut_l113 q σ n (rw2 J O Q o r) (Int32.ofInt z) (some O) (some Q) x8 x10 (Int32.ofInt g) (Int32.ofInt k) = q (rw2 J O Q (u1 o (bst r w g k) (o (bst r w g k) + 1)) (u1 r (bst r w g k) (-1))) (Int32.ofInt z) (some O) (some Q) (x8 - 1) (x10 + 1) := by
  intro w
  induction w with
  | zero =>
    intro g k n hn hg hk
    obtain ⟨n, rfl⟩ : ∃ m, n = m + 1 := ⟨n - 1, by omega⟩
    rw [gX11_shareOut_l113, if_pos (by rw [i_le (by omega) (by omega)]; omega), ob_some, if_pos k1, l1, if_pos (gL (by omega) hlo.2), t41 (by omega)]
    dsimp only
    rw [ob_some, if_pos k2, l2, if_pos (gLp (by omega) hlq.2), rw2_O, rw2_s hOQ]
    rfl
  | succ w ih =>
    intro g k n hn hg hk
    obtain ⟨n, rfl⟩ : ∃ m, n = m + 1 := ⟨n - 1, by omega⟩
    rw [gX11_shareOut_l113, if_neg (by rw [i_le (by omega) (by omega)]; omega), ob_some, if_pos k2, l2, if_pos (gL (by omega) hlq.2), if_pos (gL (by omega) hlq.2), t41 (by omega), t41 (by omega), rw2_Q hOQ, rw2_Q hOQ]
    dsimp only
    rw [iadd1]
    unfold bst
    by_cases c : r k ≤ r g
    · rw [if_pos c, if_pos c]
      exact ih g (k + 1) n (by omega) hg (by omega)
    · rw [if_neg c, if_neg c]
      exact ih k (k + 1) n (by omega) (by omega) (by omega)
theorem j1s {L : Nat} (h : L < 1000) : Int64.ofInt ((L + 1 : Nat) : Int) - 1 = Int64.ofInt (L : Int) := by
  rw [j_subl, show ((L + 1 : Nat) : Int) - 1 = (L : Int) by omega]
theorem s94 {σ : Shp} {J : Nat → Nat → Int64} {O Q z lo lq : Nat} (hOQ : O ≠ Q) (k1 : kdx σ O = 21) (k2 : kdx σ Q = 21) (l1 : lnx σ O = lo) (l2 : lnx σ Q = lq) (hlo : z ≤ lo ∧ lo ≤ 1000) (hlq : z ≤ lq ∧ lq ≤ 1000) (hz : 1 ≤ z) : ∀ (L kk n : Nat) (o r : Nat → Int64), L < n → kk + L ≤ z → gX11_shareOut_l94 σ n (rw2 J O Q o r) (Int32.ofInt z) (some O) (some Q) (Int64.ofInt (L : Int)) (Int32.ofInt kk) = some (rw2 J O Q (p3 z L o r).1 (p3 z L o r).2) := by
  intro L
  induction L with
  | zero =>
    intro kk n o r hn hk
    obtain ⟨n, rfl⟩ : ∃ m, n = m + 1 := ⟨n - 1, by omega⟩
    rw [gX11_shareOut_l94]
    by_cases c : Int32.ofInt (z : Int) ≤ Int32.ofInt (kk : Int)
    · rw [if_pos c]; rfl
    · rw [if_neg c, if_pos (by decide)]; rfl
  | succ L ih =>
    intro kk n o r hn hk
    obtain ⟨n, rfl⟩ : ∃ m, n = m + 1 := ⟨n - 1, by omega⟩
    rw [gX11_shareOut_l94, if_neg (by rw [i_le (by omega) (by omega)]; omega), if_neg (by rw [j_lel (by omega)]; omega)]
    rw [show (0 : Int32) = Int32.ofInt ((0 : Nat) : Int) from rfl, show (1 : Int32) = Int32.ofInt ((1 : Nat) : Int) from rfl, s113 hOQ k1 k2 l1 l2 hlo hlq (z - 1) 0 1 FUx (by rw [FUx_eq]; omega) (by omega) (by omega), j1s (by omega)]
    rw [iadd1, ih (kk + 1) n _ _ (by omega) (by omega)]
    rfl
theorem m111 {σ : Shp} {R : Nat → Nat → Option Nat} {J : Nat → Nat → Int64} {z : Nat} {o r : Nat → Int64} {x6 : Int64} {q : (Nat → Nat → Int64) → Int32 → Int64 → Option (Nat → Nat → Int64)} (hz : z ≤ 40) : ∀ (w g k n : Nat), w < n → g < z → k + w = z → gX12_partWhole_l111 q σ R n (rw2 J 184 185 o r) (Int32.ofInt z) x6 (Int32.ofInt g) (Int32.ofInt k) = q (rw2 J 184 185 (u1 o (bst r w g k) (o (bst r w g k) + 1)) (u1 r (bst r w g k) (-1))) (Int32.ofInt z) (x6 - 1) := by
  intro w
  induction w with
  | zero =>
    intro g k n hn hg hk
    obtain ⟨n, rfl⟩ : ∃ m, n = m + 1 := ⟨n - 1, by omega⟩
    rw [gX12_partWhole_l111, if_pos (by rw [i_le (by omega) (by omega)]; omega), if_pos (g4h (by omega)), t41 (by omega)]
    dsimp only
    rw [if_pos (gLp (z := 40) (by omega) (by omega)), rw2_O, rw2_s (by omega)]
    rfl
  | succ w ih =>
    intro g k n hn hg hk
    obtain ⟨n, rfl⟩ : ∃ m, n = m + 1 := ⟨n - 1, by omega⟩
    rw [gX12_partWhole_l111, if_neg (by rw [i_le (by omega) (by omega)]; omega), if_pos (g4h (by omega)), if_pos (g4h (by omega)), t41 (by omega), t41 (by omega), rw2_Q (by omega), rw2_Q (by omega)]
    dsimp only
    rw [iadd1]
    unfold bst
    by_cases c : r k ≤ r g
    · rw [if_pos c, if_pos c]
      exact ih g (k + 1) n (by omega) hg (by omega)
    · rw [if_neg c, if_neg c]
      exact ih k (k + 1) n (by omega) (by omega) (by omega)
theorem m98 {σ : Shp} {R : Nat → Nat → Option Nat} {J : Nat → Nat → Int64} {z : Nat} (hz : 1 ≤ z ∧ z ≤ 40) : ∀ (L n : Nat) (o r : Nat → Int64), L < n → L ≤ 40 → gX12_partWhole_l98 σ R n (rw2 J 184 185 o r) (Int32.ofInt z) (Int64.ofInt (L : Int)) = some (rw2 J 184 185 (p3 z L o r).1 (p3 z L o r).2) := by
  intro L
  induction L with
  | zero =>
    intro n o r hn hk
    obtain ⟨n, rfl⟩ : ∃ m, n = m + 1 := ⟨n - 1, by omega⟩
    rw [gX12_partWhole_l98, if_pos (by decide)]; rfl
  | succ L ih =>
    intro n o r hn hk
    obtain ⟨n, rfl⟩ : ∃ m, n = m + 1 := ⟨n - 1, by omega⟩
    rw [gX12_partWhole_l98, if_neg (by rw [j_lel (by omega)]; omega)]
    rw [show (0 : Int32) = Int32.ofInt ((0 : Nat) : Int) from rfl, show (1 : Int32) = Int32.ofInt ((1 : Nat) : Int) from rfl, m111 hz.2 (z - 1) 0 1 FUx (by rw [FUx_eq]; omega) (by omega) (by omega), j1s (by omega)]
    rw [ih n _ _ (by omega) (by omega)]
    rfl
/-- sums -/
def sm (w : Nat → Nat) : Nat → Nat
  | 0 => 0
  | k + 1 => sm w k + w k
def sq (n S : Nat) (w : Nat → Nat) : Nat → Nat
  | 0 => 0
  | k + 1 => sq n S w k + n * w k / S
theorem sq_b {n S : Nat} {w : Nat → Nat} (hS : 1 ≤ S) : ∀ k, S * sq n S w k ≤ n * sm w k ∧ n * sm w k ≤ S * sq n S w k + k * (S - 1) := by
  intro k
  induction k with
  | zero => exact ⟨by show S * 0 ≤ n * 0; omega, by show n * 0 ≤ S * 0 + 0 * (S - 1); omega⟩
  | succ k ih =>
    have d := Nat.div_add_mod (n * w k) S
    have m := Nat.mod_lt (n * w k) (show 0 < S by omega)
    have e1 : S * sq n S w (k + 1) = S * sq n S w k + S * (n * w k / S) := by
      show S * (sq n S w k + n * w k / S) = _
      rw [Nat.mul_add]
    have e2 : n * sm w (k + 1) = n * sm w k + n * w k := by
      show n * (sm w k + w k) = _
      rw [Nat.mul_add]
    have e3 : (k + 1) * (S - 1) = k * (S - 1) + (S - 1) := by rw [Nat.succ_mul]
    rw [e1, e2, e3]
    omega
theorem sq_l {n z : Nat} {w : Nat → Nat} (hS : 1 ≤ sm w z) (hz : 1 ≤ z) : sq n (sm w z) w z ≤ n ∧ n < sq n (sm w z) w z + z := by
  obtain ⟨a, b⟩ := sq_b (n := n) (w := w) hS z
  generalize sq n (sm w z) w z = F at *
  generalize sm w z = S at *
  refine ⟨Nat.le_of_mul_le_mul_left (by rw [Nat.mul_comm S n]; exact a) (show 0 < S by omega), ?_⟩
  have c : z * (S - 1) < z * S := Nat.mul_lt_mul_of_pos_left (by omega) (by omega)
  have d : n * S < S * (F + z) := by
    rw [Nat.mul_add, Nat.mul_comm S z]
    omega
  rw [Nat.mul_comm n S] at d
  exact Nat.lt_of_mul_lt_mul_left d
theorem sm_le {w : Nat → Nat} {b : Nat} (h : ∀ k, w k ≤ b) : ∀ z, sm w z ≤ z * b := by
  intro z
  induction z with
  | zero => exact Nat.zero_le _
  | succ z ih =>
    show sm w z + w z ≤ (z + 1) * b
    rw [Nat.succ_mul]
    have := h z
    omega
theorem j_div {a b : Nat} (ha : a < 9223372036854775808) (hb : b < 9223372036854775808) : Int64.ofInt (a : Int) / Int64.ofInt (b : Int) = Int64.ofInt ((a / b : Nat) : Int) := by
  have q : a / b ≤ a := Nat.div_le_self a b
  have h : Int64.ofInt (a : Int) ≠ Int64.minValue := fun e => by
    have := congrArg Int64.toInt e
    rw [tiJ (by omega) (by omega), Int64.toInt_minValue] at this
    omega
  have r : ((a : Int) / (b : Int)) = ((a / b : Nat) : Int) := rfl
  obtain ⟨c, hc⟩ : ∃ c, c = a / b := ⟨_, rfl⟩
  rw [← hc] at q r ⊢
  rw [← Int64.toInt_inj, Int64.toInt_div_of_ne_left _ _ h, tiJ (i := (a : Int)) (by omega) (by omega), tiJ (i := (b : Int)) (by omega) (by omega), tiJ (i := (c : Int)) (by omega) (by omega), Int.tdiv_eq_ediv_of_nonneg (by omega), r]
def fo (f : Nat → Nat) (o : Nat → Int64) (k : Nat) : Nat → Int64 := fun q => if q < k then Int64.ofInt (f q : Int) else o q
theorem fo_0 {f : Nat → Nat} {o : Nat → Int64} : fo f o 0 = o := by
  funext q
  unfold fo
  rw [if_neg (by omega)]
theorem fo_s {f : Nat → Nat} {o : Nat → Int64} {k : Nat} : u1 (fo f o k) k (Int64.ofInt (f k : Int)) = fo f o (k + 1) := by
  funext q
  unfold u1 fo
  by_cases c : q = k
  · subst c
    rw [if_pos rfl, if_pos (by omega)]
  · rw [if_neg c]
    by_cases d : q < k
    · rw [if_pos d, if_pos (by omega)]
    · rw [if_neg d, if_neg (by omega)]
theorem md_e {a S : Nat} (ha : a < 4611686018427387904) (hS : 1 ≤ S ∧ S < 4611686018427387904) : Int64.ofInt (a : Int) - Int64.ofInt (a : Int) / Int64.ofInt (S : Int) * Int64.ofInt (S : Int) = Int64.ofInt ((a % S : Nat) : Int) := by
  rw [j_div (by omega) (by omega), j_mul, j_sub]
  have d := Nat.div_add_mod a S
  rw [Nat.mul_comm] at d
  have e : (a : Int) = ((a / S * S : Nat) : Int) + ((a % S : Nat) : Int) := by omega
  rw [show ((a / S : Nat) : Int) * (S : Int) = ((a / S * S : Nat) : Int) from by push_cast; rfl, show (a : Int) - ((a / S * S : Nat) : Int) = ((a % S : Nat) : Int) by omega]
theorem s41 {σ : Shp} {J : Nat → Nat → Int64} {W O Q z lw lo lq n S : Nat} {w : Nat → Nat} {o r : Nat → Int64} (hWO : W ≠ O) (hWQ : W ≠ Q) (hOQ : O ≠ Q) (k0 : kdx σ W = 21) (k1 : kdx σ O = 21) (k2 : kdx σ Q = 21) (l0 : lnx σ W = lw) (l1 : lnx σ O = lo) (l2 : lnx σ Q = lq) (hlw : z ≤ lw ∧ lw ≤ 1000) (hlo : z ≤ lo ∧ lo ≤ 1000) (hlq : z ≤ lq ∧ lq ≤ 1000) (hz : 1 ≤ z) (hw : ∀ k, k < z → J W k = Int64.ofInt (w k : Int)) (hb : ∀ k, n * w k < 4611686018427387904) (hS : 1 ≤ S ∧ S < 4611686018427387904) (hn : n < 4611686018427387904) (hq : ∀ k, k ≤ z → sq n S w k ≤ n) (hl : n - sq n S w z ≤ z) : ∀ (v k n' : Nat), v < n' → k + v = z → gX11_shareOut_l41 σ n' (rw2 J O Q (fo (fun k => n * w k / S) o k) (fo (fun k => n * w k % S) r k)) (Int64.ofInt (n : Int)) (some W) (Int32.ofInt z) (some O) (some Q) (Int64.ofInt (S : Int)) (Int64.ofInt ((n - sq n S w k : Nat) : Int)) (Int32.ofInt k) = some (rw2 J O Q (p3 z (n - sq n S w z) (fo (fun k => n * w k / S) o z) (fo (fun k => n * w k % S) r z)).1 (p3 z (n - sq n S w z) (fo (fun k => n * w k / S) o z) (fo (fun k => n * w k % S) r z)).2) := by
  intro v
  induction v with
  | zero =>
    intro k n' hn' hk
    obtain ⟨n', rfl⟩ : ∃ m, n' = m + 1 := ⟨n' - 1, by omega⟩
    obtain rfl : k = z := by omega
    rw [gX11_shareOut_l41, if_pos (by rw [i_le (by omega) (by omega)]; omega)]
    exact s94 hOQ k1 k2 l1 l2 hlo hlq hz (n - sq n S w k) 0 FUx _ _ (by rw [FUx_eq]; omega) (by omega)
  | succ v ih =>
    intro k n' hn' hk
    obtain ⟨n', rfl⟩ : ∃ m, n' = m + 1 := ⟨n' - 1, by omega⟩
    have nz : ¬ Int64.ofInt (S : Int) = 0 := by rw [j_eql (by omega)]; omega
    have e1 : Int64.ofInt (n : Int) * Int64.ofInt (w k : Int) = Int64.ofInt ((n * w k : Nat) : Int) := by rw [j_mul]; rfl
    have bk := hb k
    have q1 := hq (k + 1) (by omega)
    have q0 : sq n S w (k + 1) = sq n S w k + n * w k / S := rfl
    have e9 : ∀ D : Nat, sq n S w (k + 1) = sq n S w k + D → ((n - sq n S w k : Nat) : Int) - (D : Int) = ((n - sq n S w (k + 1) : Nat) : Int) := fun D h => by omega
    rw [gX11_shareOut_l41, if_neg (by rw [i_le (by omega) (by omega)]; omega), ob_some, if_pos k0, l0, if_pos (gL (by omega) hlw.2), if_pos nz, ob_some, if_pos k1, l1, if_pos (gL (by omega) hlo.2), t41 (by omega), rw2_n hWO hWQ, hw k (by omega), e1, j_div (by omega) (by omega)]
    dsimp only
    rw [ob_some, if_pos k2, l2, if_pos (gLp (by omega) hlq.2), u2n (show ¬ (W = O ∧ k = k) by omega), rw2_n hWO hWQ, hw k (by omega), e1, md_e bk hS, u2n (show ¬ (O = Q ∧ k = k) by omega), u2_self, rw2_s hOQ, fo_s (f := fun k => n * w k / S), fo_s (f := fun k => n * w k % S), iadd1, j_sub, e9 _ q0]
    exact ih (k + 1) n' (by omega) (by omega)
theorem s6 {σ : Shp} {J : Nat → Nat → Int64} {W z lw : Nat} {w : Nat → Nat} {x0 : Int64} {x4 x5 : Option Nat} (k0 : kdx σ W = 21) (l0 : lnx σ W = lw) (hlw : z ≤ lw ∧ lw ≤ 1000) (hw : ∀ k, k < z → J W k = Int64.ofInt (w k : Int)) (hS : 1 ≤ sm w z ∧ sm w z < 4611686018427387904) : ∀ (v k n' : Nat), v < n' → k + v = z → gX11_shareOut_l6 σ n' J x0 (some W) (Int32.ofInt z) x4 x5 (Int64.ofInt (sm w k : Int)) (Int32.ofInt k) = gX11_shareOut_l41 σ FUx J x0 (some W) (Int32.ofInt z) x4 x5 (Int64.ofInt (sm w z : Int)) x0 0 := by
  intro v
  induction v with
  | zero =>
    intro k n' hn' hk
    obtain ⟨n', rfl⟩ : ∃ m, n' = m + 1 := ⟨n' - 1, by omega⟩
    obtain rfl : k = z := by omega
    rw [gX11_shareOut_l6, if_pos (by rw [i_le (by omega) (by omega)]; omega), if_pos (by rw [j_ltr (by omega)]; omega)]
  | succ v ih =>
    intro k n' hn' hk
    obtain ⟨n', rfl⟩ : ∃ m, n' = m + 1 := ⟨n' - 1, by omega⟩
    rw [gX11_shareOut_l6, if_neg (by rw [i_le (by omega) (by omega)]; omega), ob_some, if_pos k0, l0, if_pos (gL (by omega) hlw.2), t41 (by omega), hw k (by omega)]
    dsimp only
    rw [j_add, iadd1, show (sm w k : Int) + (w k : Int) = (sm w (k + 1) : Int) from rfl]
    exact ih (k + 1) n' (by omega) (by omega)
theorem sq_m {n S : Nat} {w : Nat → Nat} : ∀ (v k : Nat), sq n S w k ≤ sq n S w (k + v) := by
  intro v
  induction v with
  | zero => intro k; exact Nat.le_refl _
  | succ v ih =>
    intro k
    exact Nat.le_trans (ih k) (Nat.le_add_right _ _)
/-- the class shares out -/
theorem sO_C {σ : Shp} {J : Nat → Nat → Int64} {W O Q z lw lo lq n : Nat} {w : Nat → Nat} (hWO : W ≠ O) (hWQ : W ≠ Q) (hOQ : O ≠ Q) (k0 : kdx σ W = 21) (k1 : kdx σ O = 21) (k2 : kdx σ Q = 21) (l0 : lnx σ W = lw) (l1 : lnx σ O = lo) (l2 : lnx σ Q = lq) (hlw : z ≤ lw ∧ lw ≤ 1000) (hlo : z ≤ lo ∧ lo ≤ 1000) (hlq : z ≤ lq ∧ lq ≤ 1000) (hz : 1 ≤ z) (hw : ∀ k, k < z → J W k = Int64.ofInt (w k : Int)) (hb : ∀ k, n * w k < 4611686018427387904) (hS : 1 ≤ sm w z ∧ sm w z < 4611686018427387904) (hn : n < 4611686018427387904) : gX11_shareOut σ J (Int64.ofInt (n : Int)) (some W) (Int32.ofInt z) (some O) (some Q) = some (rw2 J O Q (p3 z (n - sq n (sm w z) w z) (fo (fun k => n * w k / sm w z) (J O) z) (fo (fun k => n * w k % sm w z) (J Q) z)).1 (p3 z (n - sq n (sm w z) w z) (fo (fun k => n * w k / sm w z) (J O) z) (fo (fun k => n * w k % sm w z) (J Q) z)).2) := by
  have l := sq_l (n := n) hS.1 hz
  have q : ∀ k, k ≤ z → sq n (sm w z) w k ≤ n := fun k hk => by
    have := sq_m (n := n) (S := sm w z) (w := w) (z - k) k
    rw [show k + (z - k) = z by omega] at this
    omega
  have h41 := s41 (o := J O) (r := J Q) hWO hWQ hOQ k0 k1 k2 l0 l1 l2 hlw hlo hlq hz hw hb hS hn q (by omega) z 0 FUx (by rw [FUx_eq]; omega) (by omega)
  rw [fo_0, fo_0, rw2_0] at h41
  have h6 := s6 (x0 := Int64.ofInt (n : Int)) (x4 := some O) (x5 := some Q) k0 l0 hlw hw hS z 0 FUx (by rw [FUx_eq]; omega) (by omega)
  unfold gX11_shareOut
  show gX11_shareOut_l6 σ FUx J (Int64.ofInt (n : Int)) (some W) (Int32.ofInt z) (some O) (some Q) (Int64.ofInt (sm w 0 : Int)) (Int32.ofInt ((0 : Nat) : Int)) = _
  rw [h6]
  exact h41
theorem m36 {σ : Shp} {R : Nat → Nat → Option Nat} {J : Nat → Nat → Int64} {z n S : Nat} {w : Nat → Nat} {o r : Nat → Int64} (hz : 1 ≤ z ∧ z ≤ 40) (hw : ∀ k, k < z → J 186 k = Int64.ofInt (w k : Int)) (hb : ∀ k, n * w k < 4611686018427387904) (hS : 1 ≤ S ∧ S < 4611686018427387904) (hn : n < 4611686018427387904) (hq : ∀ k, k ≤ z → sq n S w k ≤ n) (hl : n - sq n S w z ≤ z) : ∀ (v k n' : Nat), v < n' → k + v = z → gX12_partWhole_l36 σ R n' (rw2 J 184 185 (fo (fun k => n * w k / S) o k) (fo (fun k => n * w k % S) r k)) (Int64.ofInt (n : Int)) (Int32.ofInt z) (Int64.ofInt (S : Int)) (Int64.ofInt ((n - sq n S w k : Nat) : Int)) (Int32.ofInt k) = some (rw2 J 184 185 (p3 z (n - sq n S w z) (fo (fun k => n * w k / S) o z) (fo (fun k => n * w k % S) r z)).1 (p3 z (n - sq n S w z) (fo (fun k => n * w k / S) o z) (fo (fun k => n * w k % S) r z)).2) := by
  intro v
  induction v with
  | zero =>
    intro k n' hn' hk
    obtain ⟨n', rfl⟩ : ∃ m, n' = m + 1 := ⟨n' - 1, by omega⟩
    obtain rfl : k = z := by omega
    rw [gX12_partWhole_l36, if_pos (by rw [i_le (by omega) (by omega)]; omega)]
    exact m98 hz (n - sq n S w k) FUx _ _ (by rw [FUx_eq]; omega) (by omega)
  | succ v ih =>
    intro k n' hn' hk
    obtain ⟨n', rfl⟩ : ∃ m, n' = m + 1 := ⟨n' - 1, by omega⟩
    have nz : ¬ Int64.ofInt (S : Int) = 0 := by rw [j_eql (by omega)]; omega
    have e1 : Int64.ofInt (n : Int) * Int64.ofInt (w k : Int) = Int64.ofInt ((n * w k : Nat) : Int) := by rw [j_mul]; rfl
    have bk := hb k
    have q1 := hq (k + 1) (by omega)
    have q0 : sq n S w (k + 1) = sq n S w k + n * w k / S := rfl
    have e9 : ∀ D : Nat, sq n S w (k + 1) = sq n S w k + D → ((n - sq n S w k : Nat) : Int) - (D : Int) = ((n - sq n S w (k + 1) : Nat) : Int) := fun D h => by omega
    rw [gX12_partWhole_l36, if_neg (by rw [i_le (by omega) (by omega)]; omega), if_pos (g4h (by omega)), if_pos nz, if_pos (g4h (by omega)), t41 (by omega), rw2_n (by omega) (by omega), hw k (by omega), e1, j_div (by omega) (by omega)]
    dsimp only
    rw [if_pos (gLp (z := 40) (by omega) (by omega)), u2n (show ¬ (186 = 184 ∧ k = k) by omega), rw2_n (by omega) (by omega), hw k (by omega), e1, md_e bk hS, u2n (show ¬ (184 = 185 ∧ k = k) by omega), u2_self, rw2_s (by omega), fo_s (f := fun k => n * w k / S), fo_s (f := fun k => n * w k % S), iadd1, j_sub, e9 _ q0]
    exact ih (k + 1) n' (by omega) (by omega)
theorem m6 {σ : Shp} {R : Nat → Nat → Option Nat} {J : Nat → Nat → Int64} {z : Nat} {w : Nat → Nat} {x0 : Int64} (hz : z ≤ 40) (hw : ∀ k, k < z → J 186 k = Int64.ofInt (w k : Int)) : ∀ (v k n' : Nat), v < n' → k + v = z → gX12_partWhole_l6 σ R n' J x0 (Int32.ofInt z) (Int64.ofInt (sm w k : Int)) (Int32.ofInt k) = gX12_partWhole_l36 σ R FUx J x0 (Int32.ofInt z) (Int64.ofInt (sm w z : Int)) x0 0 := by
  intro v
  induction v with
  | zero =>
    intro k n' hn' hk
    obtain ⟨n', rfl⟩ : ∃ m, n' = m + 1 := ⟨n' - 1, by omega⟩
    obtain rfl : k = z := by omega
    rw [gX12_partWhole_l6, if_pos (by rw [i_le (by omega) (by omega)]; omega)]
  | succ v ih =>
    intro k n' hn' hk
    obtain ⟨n', rfl⟩ : ∃ m, n' = m + 1 := ⟨n' - 1, by omega⟩
    rw [gX12_partWhole_l6, if_neg (by rw [i_le (by omega) (by omega)]; omega), if_pos (g4h (by omega)), t41 (by omega), hw k (by omega)]
    dsimp only
    rw [j_add, iadd1, show (sm w k : Int) + (w k : Int) = (sm w (k + 1) : Int) from rfl]
    exact ih (k + 1) n' (by omega) (by omega)
theorem sO_M {σ : Shp} {R : Nat → Nat → Option Nat} {J : Nat → Nat → Int64} {z n : Nat} {w : Nat → Nat} (hz : 1 ≤ z ∧ z ≤ 40) (hw : ∀ k, k < z → J 186 k = Int64.ofInt (w k : Int)) (hb : ∀ k, n * w k < 4611686018427387904) (hS : 1 ≤ sm w z ∧ sm w z < 4611686018427387904) (hn : n < 4611686018427387904) : gX12_partWhole σ J R (Int64.ofInt (n : Int)) (Int32.ofInt z) = some (rw2 J 184 185 (p3 z (n - sq n (sm w z) w z) (fo (fun k => n * w k / sm w z) (J 184) z) (fo (fun k => n * w k % sm w z) (J 185) z)).1 (p3 z (n - sq n (sm w z) w z) (fo (fun k => n * w k / sm w z) (J 184) z) (fo (fun k => n * w k % sm w z) (J 185) z)).2) := by
  have l := sq_l (n := n) hS.1 hz.1
  have q : ∀ k, k ≤ z → sq n (sm w z) w k ≤ n := fun k hk => by
    have := sq_m (n := n) (S := sm w z) (w := w) (z - k) k
    rw [show k + (z - k) = z by omega] at this
    omega
  have h36 := m36 (σ := σ) (R := R) (o := J 184) (r := J 185) hz hw hb hS hn q (by omega) z 0 FUx (by rw [FUx_eq]; omega) (by omega)
  rw [fo_0, fo_0, rw2_0] at h36
  have h6 := m6 (σ := σ) (R := R) (x0 := Int64.ofInt (n : Int)) hz.2 hw z 0 FUx (by rw [FUx_eq]; omega) (by omega)
  unfold gX12_partWhole
  show gX12_partWhole_l6 σ R FUx J (Int64.ofInt (n : Int)) (Int32.ofInt z) (Int64.ofInt (sm w 0 : Int)) (Int32.ofInt ((0 : Nat) : Int)) = _
  rw [h6]
  exact h36
