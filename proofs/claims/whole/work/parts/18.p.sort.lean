/-! ===== real: what is gathered, and sorted ===== -/
def updJ (f : Nat → Int64) (k : Nat) (v : Int64) : Nat → Int64 := fun i => if i = k then v else f i
theorem updJ_s {f : Nat → Int64} {k : Nat} {v : Int64} : updJ f k v k = v := if_pos rfl
theorem updJ_n {f : Nat → Int64} {k i : Nat} {v : Int64} (h : i ≠ k) : updJ f k v i = f i := if_neg h
theorem u2_J {J : Nat → Nat → Int64} {a k : Nat} {v : Int64} : u2 J a k v a = updJ (J a) k v := by
  funext i
  unfold updJ
  by_cases c : i = k
  · rw [u2s ⟨rfl, c⟩, if_pos c]
  · rw [u2n (by omega), if_neg c]
/-- all in order, -0.0 below 0.0 -/
def okk (b : Int64) : Int := if b.toUInt64.toNat < 2 ^ 63 then (b.toUInt64.toNat : Int) else 2 ^ 63 - (b.toUInt64.toNat : Int) - 1
theorem okk_b (b : Int64) : -9223372036854775808 ≤ okk b ∧ okk b < 9223372036854775808 := by
  have := b.toUInt64.toNat_lt
  unfold okk
  split <;> omega
theorem ok_le (a b : Int64) : (fX11_orderKey a ≤ fX11_orderKey b) = (okk a ≤ okk b) := by
  rw [okey, okey]
  exact j_le (okk_b a) (okk_b b)
theorem ok_lt (a b : Int64) : (fX11_orderKey a < fX11_orderKey b) = (okk a < okk b) := by
  rw [okey, okey]
  exact j_lt (okk_b a) (okk_b b)
/-- a value goes to its place among the first k -/
def ins (v : Int64) : Nat → (Nat → Int64) → (Nat → Int64)
  | 0, f => updJ f 0 v
  | k + 1, f => if okk (f k) ≤ okk v then updJ f (k + 1) v else ins v k (updJ f (k + 1) (f k))
theorem ins_far {v : Int64} : ∀ (k : Nat) (f : Nat → Int64) (i : Nat), k < i → ins v k f i = f i := by
  intro k
  induction k with
  | zero => exact fun f i h => updJ_n (by omega)
  | succ k ih =>
    intro f i h
    unfold ins
    by_cases c : okk (f k) ≤ okk v
    · rw [if_pos c, updJ_n (by omega)]
    · rw [if_neg c, ih _ i (by omega), updJ_n (by omega)]
theorem ins_cong {v : Int64} : ∀ (k : Nat) (f g : Nat → Int64), (∀ i, i < k → f i = g i) → ∀ i, i ≤ k → ins v k f i = ins v k g i := by
  intro k
  induction k with
  | zero =>
    intro f g h i hi
    have : i = 0 := by omega
    subst this
    exact updJ_s.trans updJ_s.symm
  | succ k ih =>
    intro f g h i hi
    have e := h k (by omega)
    unfold ins
    rw [e]
    by_cases c : okk (g k) ≤ okk v
    · rw [if_pos c, if_pos c]
      by_cases z : i = k + 1
      · rw [z, updJ_s, updJ_s]
      · rw [updJ_n z, updJ_n z, h i (by omega)]
    · rw [if_neg c, if_neg c]
      by_cases z : i = k + 1
      · rw [z, ins_far _ _ _ (by omega), ins_far _ _ _ (by omega), updJ_s, updJ_s]
      · refine ih _ _ (fun j hj => ?_) i (by omega)
        rw [updJ_n (by omega), updJ_n (by omega), h j (by omega)]
theorem ins_P {P : Int64 → Prop} {v : Int64} (hv : P v) : ∀ (k : Nat) (f : Nat → Int64), (∀ i, i < k → P (f i)) → ∀ i, i ≤ k → P (ins v k f i) := by
  intro k
  induction k with
  | zero =>
    intro f h i hi
    have : i = 0 := by omega
    subst this
    rw [show ins v 0 f 0 = v from updJ_s]
    exact hv
  | succ k ih =>
    intro f h i hi
    unfold ins
    by_cases c : okk (f k) ≤ okk v
    · rw [if_pos c]
      by_cases z : i = k + 1
      · rw [z, updJ_s]; exact hv
      · rw [updJ_n z]; exact h i (by omega)
    · rw [if_neg c]
      by_cases z : i = k + 1
      · rw [z, ins_far _ _ _ (by omega), updJ_s]; exact h k (by omega)
      · refine ih _ (fun j hj => ?_) i (by omega)
        rw [updJ_n (by omega)]; exact h j (by omega)
/-- the first i sorted -/
def srt (f : Nat → Int64) : Nat → (Nat → Int64)
  | 0 => f
  | i + 1 => ins (srt f i i) i (srt f i)
theorem srt_far {f : Nat → Int64} : ∀ (i k : Nat), i ≤ k → srt f i k = f k := by
  intro i
  induction i with
  | zero => exact fun _ _ => rfl
  | succ i ih =>
    intro k h
    unfold srt
    rw [ins_far _ _ _ (by omega), ih k (by omega)]
theorem srt_cong {f g : Nat → Int64} : ∀ (i : Nat), (∀ k, k < i → f k = g k) → ∀ k, k < i → srt f i k = srt g i k := by
  intro i
  induction i with
  | zero => exact fun _ k h => absurd h (Nat.not_lt_zero k)
  | succ i ih =>
    intro h k hk
    unfold srt
    rw [srt_far i i (Nat.le_refl _), srt_far i i (Nat.le_refl _), h i (by omega)]
    exact ins_cong i _ _ (fun j hj => ih (fun q hq => h q (by omega)) j hj) k (by omega)
theorem srt_P {P : Int64 → Prop} {f : Nat → Int64} : ∀ (i : Nat), (∀ k, k < i → P (f k)) → ∀ k, k < i → P (srt f i k) := by
  intro i
  induction i with
  | zero => exact fun _ k h => absurd h (Nat.not_lt_zero k)
  | succ i ih =>
    intro h k hk
    unfold srt
    rw [srt_far i i (Nat.le_refl _)]
    exact ins_P (h i (by omega)) i _ (fun j hj => ih (fun q hq => h q (by omega)) j hj) k (by omega)
theorem srt_1 {f : Nat → Int64} : srt f 1 = f := by
  funext i
  show updJ f 0 (f 0) i = f i
  by_cases c : i = 0
  · rw [c, updJ_s]
  · rw [updJ_n c]
theorem sort_in {q9 : (Nat → Nat → Int64) → (Option Nat) → (Int32) → (Int32) → (Option ((Nat → Nat → Int64)))} {σ : Shp} {a z : Nat} {x2 x3 : Int32} {v : Int64} (ha : kdx σ a = 21) (hl : lnx σ a = z) (hz : z ≤ 1000) (ho : a ≠ 114 ∧ a ≠ 4) : ∀ (k n : Nat) (J : Nat → Nat → Int64), k < n → k < z → ∃ J', gX11_sortByOrder_l22 q9 σ n J (some a) x2 x3 v (Int32.ofInt (k : Int)) = q9 J' (some a) x2 (x3 + 1) ∧ J' a = ins v k (J a) ∧ Ag [(a, a + 1)] J J' := by
  have hw : ∀ j, inW [(a, a + 1)] (key a j) = true := fun j => by
    rw [key_o ho.1 ho.2]
    unfold inW
    simp
  intro k
  induction k with
  | zero =>
    intro n J hn hk
    obtain ⟨n, rfl⟩ : ∃ n', n = n' + 1 := ⟨n - 1, by omega⟩
    refine ⟨u2 J a 0 v, ?_, u2_J, Ag.st Ag.rf (hw 0)⟩
    rw [gX11_sortByOrder_l22, if_pos (by decide), ob_some, if_pos ha, hl, if_pos (by rw [i_gd (by omega)]; exact not_false), i_tn (by omega)]
    rfl
  | succ k ih =>
    intro n J hn hk
    obtain ⟨n, rfl⟩ : ∃ n', n = n' + 1 := ⟨n - 1, by omega⟩
    rw [gX11_sortByOrder_l22, if_neg (by rw [i_pos (by omega)]; omega), ob_some, if_pos ha, hl, i_subl, show ((k + 1 : Nat) : Int) - 1 = (k : Int) by omega, if_pos (by rw [i_gd (by omega)]; exact not_false), i_tn (by omega), i_tn (by omega), Int.toNat_natCast, Int.toNat_natCast]
    simp only [ok_le]
    by_cases c : okk (J a k) ≤ okk v
    · rw [if_pos c, if_pos (by rw [i_ltl (by omega)]; omega)]
      refine ⟨u2 J a (k + 1) v, rfl, ?_, Ag.st Ag.rf (hw _)⟩
      rw [u2_J]
      unfold ins
      rw [if_pos c]
    · rw [if_neg c, if_pos (by rw [i_ltl (by omega)]; omega)]
      try simp only []
      rw [i_addn, show ((k + 1 : Nat) : Int) + -1 = (k : Int) by omega]
      obtain ⟨J', r1, r2, r3⟩ := ih n (u2 J a (k + 1) (J a k)) (by omega) (by omega)
      refine ⟨J', r1, ?_, Ag.tr (Ag.st Ag.rf (hw _)) r3⟩
      rw [r2, u2_J]
      conv => rhs; unfold ins
      rw [if_neg c]
theorem sort_out {σ : Shp} {a z many : Nat} {f : Nat → Int64} (ha : kdx σ a = 21) (hl : lnx σ a = z) (hz : z ≤ 1000) (ho : a ≠ 114 ∧ a ≠ 4) (hm : many ≤ z) : ∀ (m n i : Nat) (J : Nat → Nat → Int64), i + m = many → m < n → J a = srt f i → ∃ J', gX11_sortByOrder_l9 σ n J (some a) (Int32.ofInt (many : Int)) (Int32.ofInt (i : Int)) = some J' ∧ J' a = srt f many ∧ Ag [(a, a + 1)] J J' := by
  obtain ⟨F, hF⟩ : ∃ F, FUx = F := ⟨_, rfl⟩
  have hF' : F = 2000000 := by rw [← hF, FUx_eq]
  intro m
  induction m with
  | zero =>
    intro n i J hi hn hJ
    obtain ⟨n, rfl⟩ : ∃ n', n = n' + 1 := ⟨n - 1, by omega⟩
    have : i = many := by omega
    subst this
    rw [gX11_sortByOrder_l9, if_pos (by rw [i_le (by omega) (by omega)]; omega)]
    exact ⟨J, rfl, hJ, Ag.rf⟩
  | succ m ih =>
    intro n i J hi hn hJ
    obtain ⟨n, rfl⟩ : ∃ n', n = n' + 1 := ⟨n - 1, by omega⟩
    rw [gX11_sortByOrder_l9, if_neg (by rw [i_le (by omega) (by omega)]; omega), ob_some, if_pos ha, hl, if_pos (by rw [i_gd (by omega)]; exact not_false), i_tn (by omega), Int.toNat_natCast, hF]
    try simp only []
    obtain ⟨J1, r1, r2, r3⟩ := sort_in (q9 := gX11_sortByOrder_l9 σ n) (x2 := Int32.ofInt (many : Int)) (x3 := Int32.ofInt (i : Int)) (v := J a i) ha hl hz ho i F J (by omega) (by omega)
    rw [r1, i_addl, show (i : Int) + 1 = ((i + 1 : Nat) : Int) by omega]
    obtain ⟨J2, s1, s2, s3⟩ := ih n (i + 1) J1 (by omega) (by omega) (by rw [r2, hJ]; rfl)
    exact ⟨J2, s1, s2, r3.tr s3⟩
theorem sort_all {σ : Shp} {a z many : Nat} {J : Nat → Nat → Int64} (ha : kdx σ a = 21) (hl : lnx σ a = z) (hz : z ≤ 1000) (ho : a ≠ 114 ∧ a ≠ 4) (hm : many ≤ z) (h1 : 1 ≤ many) : ∃ J', gX11_sortByOrder σ J (some a) (Int32.ofInt (many : Int)) = some J' ∧ J' a = srt (J a) many ∧ Ag [(a, a + 1)] J J' := by
  obtain ⟨F, hF⟩ : ∃ F, FUx = F := ⟨_, rfl⟩
  have hF' : F = 2000000 := by rw [← hF, FUx_eq]
  unfold gX11_sortByOrder
  rw [ob_some, if_pos ha, hF, hl]
  have e : fXM_minI (Int32.ofInt (many : Int)) (Int32.ofNat z) = Int32.ofInt (many : Int) := by
    unfold fXM_minI
    rw [nat32, if_neg (by rw [i_lt (by omega) (by omega)]; omega)]
  try simp only []
  rw [e]
  exact sort_out (f := J a) ha hl hz ho hm (many - 1) F 1 J (by omega) (by omega) srt_1.symm
/-- how many of the first k are numbers -/
def cn (v : Nat → Int64) : Nat → Nat
  | 0 => 0
  | k + 1 => if fX11_isNumber (v k) = 0 then cn v k else cn v k + 1
/-- those in their order -/
def rf (v : Nat → Int64) : Nat → (Nat → Int64)
  | 0 => fun _ => 0
  | k + 1 => if fX11_isNumber (v k) = 0 then rf v k else updJ (rf v k) (cn v k) (v k)
theorem cn_le {v : Nat → Int64} : ∀ k, cn v k ≤ k := by
  intro k
  induction k with
  | zero => exact Nat.le_refl _
  | succ k ih => unfold cn; split <;> omega
theorem rf_num {v : Nat → Int64} : ∀ k i, i < cn v k → isNum (rf v k i) := by
  intro k
  induction k with
  | zero => exact fun i h => absurd h (Nat.not_lt_zero i)
  | succ k ih =>
    intro i h
    unfold cn at h
    unfold rf
    by_cases c : isNum (v k)
    · rw [isn_T c, if_neg (by decide)] at h
      rw [isn_T c, if_neg (by decide)]
      by_cases z : i = cn v k
      · rw [z, updJ_s]; exact c
      · rw [updJ_n z]; exact ih i (by omega)
    · rw [isn_F c, if_pos rfl] at h
      rw [isn_F c, if_pos rfl]
      exact ih i h
/-- the class gathers -/
theorem gat {σ : Shp} {R : Nat → Nat → Option Nat} {a z : Nat} {lane : Int32} {v c : Nat → Int64} (hl : lnx σ 112 = 40) (h1 : kdx σ a = 11) (h2 : R a 1 = some (a + 1)) (h3 : kdx σ (a + 1) = 21) (h4 : lnx σ (a + 1) = z) (hz : z ≤ 40) (ha : 202 ≤ a) (hv : ∀ k, k < z → fX11_doubleBits lane (c k) = v k) : ∀ (m n k : Nat) (J : Nat → Nat → Int64), k + m = z → m < n → (∀ i, i < z → J (a + 1) i = c i) → (∀ i, i < cn v k → J 112 i = rf v k i) → ∃ J', gX11_gatherNumbers_l5 σ R n J (some a) lane (Int32.ofInt (cn v k : Int)) (Int32.ofInt (k : Int)) = some (J', Int32.ofInt (cn v z : Int)) ∧ (∀ i, i < cn v z → J' 112 i = rf v z i) ∧ Ag [(112, 113)] J J' := by
  intro m
  induction m with
  | zero =>
    intro n k J hk hn hc hr
    obtain ⟨n, rfl⟩ : ∃ n', n = n' + 1 := ⟨n - 1, by omega⟩
    have : k = z := by omega
    subst this
    rw [gX11_gatherNumbers_l5, ob_some, if_pos h1, h2, ob_some, if_pos h3, h4, nat32, if_pos (by rw [i_le (by omega) (by omega)]; omega)]
    exact ⟨J, rfl, hr, Ag.rf⟩
  | succ m ih =>
    intro n k J hk hn hc hr
    obtain ⟨n, rfl⟩ : ∃ n', n = n' + 1 := ⟨n - 1, by omega⟩
    have hcn := cn_le (v := v) k
    rw [gX11_gatherNumbers_l5, ob_some, if_pos h1, h2, ob_some, if_pos h3, h4, hl, nat32, if_neg (by rw [i_le (by omega) (by omega)]; omega), nat32, if_neg (by rw [i_le (by omega) (by omega)]; omega), if_pos (by rw [i_gd (by omega)]; exact not_false), i_tn (by omega), Int.toNat_natCast, hc k (by omega), hv k (by omega)]
    try simp only []
    rw [i_addl, show (k : Int) + 1 = ((k + 1 : Nat) : Int) by omega]
    by_cases q : fX11_isNumber (v k) = 0
    · rw [if_pos q]
      have e1 : cn v (k + 1) = cn v k := if_pos q
      have e2 : rf v (k + 1) = rf v k := if_pos q
      have := ih n (k + 1) J (by omega) (by omega) hc (by rw [e1, e2]; exact hr)
      rw [e1] at this
      exact this
    · rw [if_neg q, if_pos (by rw [i_gd (by omega)]; exact not_false), i_tn (by omega), Int.toNat_natCast, i_addl, show (cn v k : Int) + 1 = ((cn v k + 1 : Nat) : Int) by omega]
      have e1 : cn v (k + 1) = cn v k + 1 := if_neg q
      have e2 : rf v (k + 1) = updJ (rf v k) (cn v k) (v k) := if_neg q
      obtain ⟨J', r1, r2, r3⟩ := ih n (k + 1) (u2 J 112 (cn v k) (v k)) (by omega) (by omega) (fun i hi => by rw [u2n (by omega)]; exact hc i hi) (fun i hi => by
        rw [e1] at hi
        rw [e2]
        by_cases w : i = cn v k
        · rw [w, u2_self, updJ_s]
        · rw [u2n (by omega), updJ_n w]; exact hr i (by omega))
      rw [e1] at r1
      exact ⟨J', r1, r2, Ag.tr (Ag.st Ag.rf rfl) r3⟩
theorem isLess_n {a b : Int64} (ha : isNum a) (hb : isNum b) : fX12_isLess a.toUInt64 b.toUInt64 = some (if okk a < okk b then 1 else 0) := by
  have h1 := a.toUInt64.toNat_lt
  have h2 := b.toUInt64.toNat_lt
  have na := num_ne ha
  have nb := num_ne hb
  have n1 := (FP.Core.ne_nan _).mp na
  have n2 := (FP.Core.ne_nan _).mp nb
  obtain ⟨f1, -, -, -, -⟩ := cv (w := .g) na nb
  obtain ⟨-, -, -, -, g1⟩ := cv (w := .l) na nb
  unfold fX12_isLess
  simp only [f1, g1]
  rw [isMinus_n na, isMinus_n nb]
  unfold okk FP.Core.dkey
  generalize a.toUInt64.toNat = p at *
  generalize b.toUInt64.toNat = q at *
  by_cases c1 : 2 ^ 63 ≤ p <;> by_cases c2 : 2 ^ 63 ≤ q
  · simp only [if_pos c1, if_pos c2, if_neg (show ¬ p < 2 ^ 63 by omega), if_neg (show ¬ q < 2 ^ 63 by omega)]
    by_cases d : ((2 ^ 63 : Nat) : Int) - (p : Int) < ((2 ^ 63 : Nat) : Int) - (q : Int)
    · rw [if_pos d, if_pos (show (2 : Int) ^ 63 - (p : Int) - 1 < 2 ^ 63 - (q : Int) - 1 by omega)]
    · rw [if_neg d, if_neg (show ¬ (2 : Int) ^ 63 - (p : Int) - 1 < 2 ^ 63 - (q : Int) - 1 by omega)]
      split <;> rfl
  · simp only [if_pos c1, if_neg c2, if_neg (show ¬ p < 2 ^ 63 by omega), if_pos (show q < 2 ^ 63 by omega)]
    rw [if_pos (show (2 : Int) ^ 63 - (p : Int) - 1 < (q : Int) by omega)]
    by_cases d : ((2 ^ 63 : Nat) : Int) - (p : Int) < (q : Int)
    · rw [if_pos d]
    · rw [if_neg d, if_pos (show ((2 ^ 63 : Nat) : Int) - (p : Int) = (q : Int) by omega)]
      rfl
  · simp only [if_neg c1, if_pos c2, if_pos (show p < 2 ^ 63 by omega), if_neg (show ¬ q < 2 ^ 63 by omega)]
    rw [if_neg (show ¬ (p : Int) < ((2 ^ 63 : Nat) : Int) - (q : Int) by omega), if_neg (show ¬ (p : Int) < (2 : Int) ^ 63 - (q : Int) - 1 by omega)]
    split <;> rfl
  · simp only [if_neg c1, if_neg c2, if_pos (show p < 2 ^ 63 by omega), if_pos (show q < 2 ^ 63 by omega)]
    by_cases d : (p : Int) < (q : Int)
    · rw [if_pos d, if_pos d]
    · rw [if_neg d, if_neg d]
      split <;> rfl
/-- the model puts one in -/
theorem ins_m {q77 : (Nat → Nat → Int32) → (Nat → Nat → Int64) → (Nat → Nat → UInt64) → (Int32) → (Int32) → (Int32) → (Int32) → (UInt64) → (Int32) → (Option ((Nat → Nat → Int32) × (Nat → Nat → Int64) × (Nat → Nat → UInt64) × (Int64)))} {σ : Shp} {R : Nat → Nat → Option Nat} {I : Nat → Nat → Int32} {J : Nat → Nat → Int64} {x1 x3 x4 x5 x8 : Int32} {x6 : UInt64} {v : Int64} (hv : isNum v) : ∀ (k n : Nat) (D : Nat → Nat → UInt64) (f : Nat → Int64), k < n → k < 40 → (∀ i, i < k → D 187 i = (f i).toUInt64 ∧ isNum (f i)) → ∃ D', gX12_real_l131 q77 σ R n I J D x1 x3 x4 x5 x6 x8 v.toUInt64 (Int32.ofInt (k : Int)) = q77 I J D' x1 x3 x4 (x5 + 1) x6 (x8 + 1) ∧ (∀ i, i ≤ k → D' 187 i = (ins v k f i).toUInt64) ∧ (∀ i, k < i → D' 187 i = D 187 i) ∧ Ag [(187, 188)] D D' := by
  intro k
  induction k with
  | zero =>
    intro n D f hn hk hf
    obtain ⟨n, rfl⟩ : ∃ n', n = n' + 1 := ⟨n - 1, by omega⟩
    refine ⟨u2 D 187 0 v.toUInt64, ?_, fun i hi => ?_, fun i hi => u2n (by omega), Ag.st Ag.rf rfl⟩
    · rw [gX12_real_l131, if_pos (by decide), if_pos (by decide)]
      rfl
    · have : i = 0 := by omega
      subst this
      rw [u2_self, show ins v 0 f 0 = v from updJ_s]
  | succ k ih =>
    intro n D f hn hk hf
    obtain ⟨n, rfl⟩ : ∃ n', n = n' + 1 := ⟨n - 1, by omega⟩
    obtain ⟨e1, e2⟩ := hf k (by omega)
    rw [gX12_real_l131, if_neg (by rw [i_pos (by omega)]; omega), i_subl, show ((k + 1 : Nat) : Int) - 1 = (k : Int) by omega, if_pos (by rw [i_gd (by omega)]; exact not_false), i_tn (by omega), Int.toNat_natCast, e1, isLess_n hv e2, ob_some]
    by_cases c : okk (f k) ≤ okk v
    · rw [if_neg (by omega : ¬ okk v < okk (f k)), if_pos rfl, if_pos (by rw [i_gd (by omega)]; exact not_false), i_tn (by omega), Int.toNat_natCast]
      refine ⟨u2 D 187 (k + 1) v.toUInt64, rfl, fun i hi => ?_, fun i hi => u2n (by omega), Ag.st Ag.rf rfl⟩
      unfold ins
      rw [if_pos c]
      by_cases z : i = k + 1
      · rw [z, u2_self, updJ_s]
      · rw [u2n (by omega), updJ_n z]
        exact (hf i (by omega)).1
    · rw [if_pos (by omega : okk v < okk (f k)), if_neg (by decide), if_pos (by rw [i_gd (by omega)]; exact not_false), i_tn (by omega), Int.toNat_natCast]
      try simp only []
      rw [i_addn, show ((k + 1 : Nat) : Int) + -1 = (k : Int) by omega]
      obtain ⟨D', r1, r2, r3, r4⟩ := ih n (u2 D 187 (k + 1) (f k).toUInt64) (updJ f (k + 1) (f k)) (by omega) (by omega) (fun i hi => by rw [u2n (by omega), updJ_n (by omega)]; exact hf i (by omega))
      refine ⟨D', r1, fun i hi => ?_, fun i hi => by rw [r3 i (by omega), u2n (by omega)], Ag.tr (Ag.st Ag.rf rfl) r4⟩
      unfold ins
      rw [if_neg c]
      by_cases z : i = k + 1
      · rw [z, r3 (k + 1) (by omega), u2_self, ins_far _ _ _ (by omega), updJ_s]
      · exact r2 i (by omega)
/-- the model's turns over the cells -/
theorem real_m {σ : Shp} {R : Nat → Nat → Option Nat} {I : Nat → Nat → Int32} {J : Nat → Nat → Int64} {x3 : Int32} {lane : Int} {t z s : Nat} {v c : Nat → Int64} (hl : lane = 6 ∨ lane = 7) (ht : t < 4100) (m1 : I 117 t = Int32.ofInt (z : Int)) (m2 : I 118 t = Int32.ofInt (s : Int)) (hz : z ≤ 40) (hs : s + z ≤ 162000) (hc : ∀ k, k < z → J 119 (s + k) = c k) (hx : ∀ k, k < z → lane = 6 → Int32.toInt64 (Int64.toInt32 (c k)) = c k) (hv : ∀ k, k < z → fX11_doubleBits (Int32.ofInt lane) (c k) = v k) : ∀ (m n k : Nat) (D : Nat → Nat → UInt64), k + m = z → m < n → (∀ i, i < cn v k → D 187 i = (srt (rf v k) (cn v k) i).toUInt64) → ∃ D', gX12_real_l77 σ R n I J D (Int32.ofInt lane) x3 (Int32.ofInt (t : Int)) (Int32.ofInt (cn v k : Int)) (smV (sumN (rf v k) (cn v k))) (Int32.ofInt (k : Int)) = gX12_real_l77 σ R (n - m) I J D' (Int32.ofInt lane) x3 (Int32.ofInt (t : Int)) (Int32.ofInt (cn v z : Int)) (smV (sumN (rf v z) (cn v z))) (Int32.ofInt (z : Int)) ∧ (∀ i, i < cn v z → D' 187 i = (srt (rf v z) (cn v z) i).toUInt64) ∧ Ag [(187, 188)] D D' := by
  obtain ⟨F, hF⟩ : ∃ F, FUx = F := ⟨_, rfl⟩
  have hF' : F = 2000000 := by rw [← hF, FUx_eq]
  intro m
  induction m with
  | zero =>
    intro n k D hk hn hD
    have : k = z := by omega
    subst this
    exact ⟨D, rfl, hD, Ag.rf⟩
  | succ m ih =>
    intro n k D hk hn hD
    obtain ⟨n, rfl⟩ : ∃ n', n = n' + 1 := ⟨n - 1, by omega⟩
    have hcn := cn_le (v := v) k
    obtain ⟨r, y1, y2⟩ := dblr hl (hx k (by omega))
    rw [hv k (by omega)] at y2
    have hok := sumN_ok (f := rf v k) (cn v k) (fun i hi => rf_num k i hi)
    rw [gX12_real_l77, if_pos (by rw [i_gd (by omega)]; exact not_false), i_tn (by omega), Int.toNat_natCast, m1, if_neg (by rw [i_le (by omega) (by omega)]; omega), if_pos (by rw [i_ltl (by omega)]; omega), m2, i_add, if_pos (by rw [i_gd (by omega)]; exact not_false), i_tn (by omega), show ((s : Int) + (k : Int)).toNat = s + k by omega, hc k (by omega), y1, ob_some, i_addl, show (k : Int) + 1 = ((k + 1 : Nat) : Int) by omega]
    rcases y2 with ⟨n1, rfl⟩ | ⟨n1, rfl⟩
    · have q : ¬ fX11_isNumber (v k) = 0 := by rw [isn_T n1]; decide
      have e1 : cn v (k + 1) = cn v k + 1 := if_neg q
      have e2 : rf v (k + 1) = updJ (rf v k) (cn v k) (v k) := if_neg q
      have ec : ∀ i, i < cn v k → rf v (k + 1) i = rf v k i := fun i hi => by rw [e2, updJ_n (by omega)]
      have ez : rf v (k + 1) (cn v k) = v k := by rw [e2, updJ_s]
      rw [if_pos (cself (num_ne n1)), plus_m hok (num_ne n1), ob_some, hF]
      obtain ⟨D1, r1, r2, r3, r4⟩ := ins_m (q77 := gX12_real_l77 σ R n) (σ := σ) (R := R) (I := I) (J := J) (x1 := Int32.ofInt lane) (x3 := x3) (x4 := Int32.ofInt (t : Int)) (x5 := Int32.ofInt (cn v k : Int)) (x8 := Int32.ofInt (k : Int)) (x6 := smV (sstep (sumN (rf v k) (cn v k)) (v k).toUInt64)) n1 (cn v k) F D (srt (rf v k) (cn v k)) (by omega) (by omega) (fun i hi => ⟨hD i hi, srt_P (P := isNum) (cn v k) (fun j hj => rf_num k j hj) i hi⟩)
      rw [r1, i_addl, i_addl, show (k : Int) + 1 = ((k + 1 : Nat) : Int) by omega, show (cn v k : Int) + 1 = ((cn v k + 1 : Nat) : Int) by omega, ← e1]
      have es : sumN (rf v (k + 1)) (cn v (k + 1)) = sstep (sumN (rf v k) (cn v k)) (v k).toUInt64 := by
        rw [e1]
        show sstep (sumN (rf v (k + 1)) (cn v k)) (rf v (k + 1) (cn v k)).toUInt64 = _
        rw [ez, sumN_cong (cn v k) ec]
      rw [← es]
      obtain ⟨D2, s1, s2, s3⟩ := ih n (k + 1) D1 (by omega) (by omega) (fun i hi => by
        rw [e1] at hi
        rw [r2 i (by omega), e1]
        congr 1
        conv => rhs; unfold srt
        rw [srt_far _ _ (Nat.le_refl _), ez]
        exact ins_cong _ _ _ (fun j hj => (srt_cong (cn v k) ec j hj).symm) i (by omega))
      rw [show n + 1 - (m + 1) = n - m by omega]
      exact ⟨D2, s1, s2, r4.tr s3⟩
    · have q : fX11_isNumber (v k) = 0 := isn_F n1
      have e1 : cn v (k + 1) = cn v k := if_pos q
      have e2 : rf v (k + 1) = rf v k := if_pos q
      rw [cvn (Or.inl nan_v), if_neg (by decide)]
      have := ih n (k + 1) D (by omega) (by omega) (by rw [e1, e2]; exact hD)
      rw [e1, e2] at this
      rw [show n + 1 - (m + 1) = n - m by omega]
      exact this
