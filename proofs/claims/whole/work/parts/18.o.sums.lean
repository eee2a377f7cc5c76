/-! ===== doubles: sums and means ===== -/
/-- an infinity -/
abbrev en (x : UInt64) : Prop := x.toNat % 2 ^ 63 = 9218868437227405312
theorem en_or {x : UInt64} (h : en x) : x = 9218868437227405312 ∨ x = 18442240474082181120 := by
  have hx := x.toNat_lt
  unfold en at h
  by_cases z : x.toNat < 2 ^ 63
  · exact Or.inl (UInt64.toNat.inj (by show _ = 9218868437227405312; omega))
  · exact Or.inr (UInt64.toNat.inj (by show _ = 18442240474082181120; omega))
theorem en_v {x : UInt64} (h : en x) : FP.Core.val64 x = .inf (decide (2 ^ 63 ≤ x.toNat)) := by
  rcases en_or h with rfl | rfl <;> decide +kernel
theorem en_fin {x : UInt64} (hn : FP.Core.val64 x ≠ .nan) (h : ¬ en x) : FP.Core.DFin x := by
  have := (FP.Core.ne_nan x).mp hn
  unfold en at h
  exact (FP.Core.fin_bits x).mpr (by omega)
theorem half_ne' {x : UInt64} (h : FP.Core.DFin x) (hz : ¬ x.toNat % 2 ^ 63 = 0) : Zv (FP.dmul x 4602678819172646912) ≠ Zv x := by
  have hx := x.toNat_lt
  have hf := (FP.Core.fin_bits x).mp h
  by_cases z : x.toNat < 2 ^ 63
  · obtain ⟨c, q, h1, h2, h3, h4⟩ := fin_c (x := x) (by omega)
    exact half_ne h1 (h4 (by omega)) h2 h3
  · have e := dneg_n (x := x) (by omega)
    obtain ⟨c, q, h1, h2, h3, h4⟩ := fin_c (x := FP.dneg x) (by rw [e]; omega)
    have r := half_ne h1 (h4 (by rw [e]; omega)) h2 h3
    have hn : FP.Core.dIsNaN x = false := h.notNaN
    have m : FP.dmul (FP.dneg x) 4602678819172646912 = FP.dneg (FP.dmul x 4602678819172646912) := by
      have h5 : FP.Core.dIsNaN (FP.Core.dmul x 4602678819172646912) = false := FP.Core.dmul_out h ex_half.fin
      rw [FP.dneg_core hn, FP.dneg_core h5]
      exact FP.Core.dmul_dneg _ _
    rw [m, zv_neg (nn_to (gmul h ex_half.fin)), zv_neg h.ne_nan] at r
    omega
/-- the class asks for an infinity -/
theorem endC {x : UInt64} (hn : FP.Core.val64 x ≠ .nan) : fX11_isEndless x = some (if en x then 1 else 0) := by
  have hx := x.toNat_lt
  have hm := (FP.Core.ne_nan x).mp hn
  by_cases h : en x
  · rw [if_pos h]
    rcases en_or h with rfl | rfl <;> decide +kernel
  · rw [if_neg h]
    have hf := en_fin hn h
    unfold fX11_isEndless
    obtain ⟨-, -, -, -, g1⟩ := cvZ (w := .l) hn nan0
    simp only [g1]
    by_cases z : Zv x = Zv FP.dconst0
    · rw [if_pos z]
    · rw [if_neg z]
      have z2 : ¬ x.toNat % 2 ^ 63 = 0 := fun q => z (by rw [ex0_z]; exact (FP.Core.zval_eq_zero hn).mpr q)
      rw [if_pos (gmul hf ex_half.fin)]
      obtain ⟨-, -, -, -, g2⟩ := cvZ (w := .l) (nn_to (gmul hf ex_half.fin)) hn
      simp only [g2]
      rw [if_neg (half_ne' hf z2)]
theorem ky_M : FP.Core.dkey 9218868437227405311 = 9218868437227405311 := by decide +kernel
theorem ky_m : FP.Core.dkey 18442240474082181119 = -9218868437227405311 := by decide +kernel
theorem nan_M : FP.Core.val64 9218868437227405311 ≠ .nan := by decide +kernel
theorem nan_m : FP.Core.val64 18442240474082181119 ≠ .nan := by decide +kernel
/-- the model asks for an infinity -/
theorem ensM {x : UInt64} (hn : FP.Core.val64 x ≠ .nan) : fX12_isEndless x = if en x then 1 else 0 := by
  have hx := x.toNat_lt
  have hm := (FP.Core.ne_nan x).mp hn
  unfold fX12_isEndless
  obtain ⟨-, -, -, f1, -⟩ := cv (w := .l) hn nan_M
  obtain ⟨-, -, f2, -, -⟩ := cv (w := .g) hn nan_m
  simp only [f1, f2, ky_M, ky_m]
  unfold en FP.Core.dkey
  by_cases z : 2 ^ 63 ≤ x.toNat
  · rw [if_pos z, if_neg (by omega)]
    by_cases c : x.toNat % 2 ^ 63 = 9218868437227405312
    · rw [if_pos c, if_neg (by omega)]
    · rw [if_neg c, if_pos (by omega)]
  · rw [if_neg z]
    by_cases c : x.toNat % 2 ^ 63 = 9218868437227405312
    · rw [if_pos c, if_pos (by omega)]
    · rw [if_neg c, if_neg (by omega), if_pos (by omega)]
theorem endN : fX12_isEndless 9221120237041090560 = 0 := by decide +kernel
/-- endless less endless -/
abbrev clash (x v : UInt64) : Prop := en x ∧ en v ∧ ¬ (2 ^ 63 ≤ x.toNat ↔ 2 ^ 63 ≤ v.toNat)
theorem add_nn {x v : UInt64} (hx : FP.Core.val64 x ≠ .nan) (hv : FP.Core.val64 v ≠ .nan) (h : ¬ clash x v) : FP.Core.val64 (FP.dadd x v) ≠ .nan := by
  refine (FP.Core.notNaN_iff _).mp (FP.Core.not_true (FP.Core.dadd_nan_iff x v) ?_)
  rintro (q | q | ⟨s, q1, q2⟩)
  · exact hx q
  · exact hv q
  · apply h
    have e1 : en x := by
      by_cases c : en x
      · exact c
      · obtain ⟨a, b, d, e⟩ := en_fin hx c
        rw [e] at q1; cases q1
    have e2 : en v := by
      by_cases c : en v
      · exact c
      · obtain ⟨a, b, d, e⟩ := en_fin hv c
        rw [e] at q2; cases q2
    refine ⟨e1, e2, fun w => ?_⟩
    rw [en_v e1] at q1
    rw [en_v e2] at q2
    injection q1 with q1
    injection q2 with q2
    rw [← q1] at q2
    by_cases c : 2 ^ 63 ≤ x.toNat
    · rw [decide_eq_true c, decide_eq_true (w.mp c)] at q2; cases q2
    · rw [decide_eq_false c, decide_eq_false (fun z => c (w.mpr z))] at q2; cases q2
theorem val_min : FP.Core.val64 9223372036854775808 = .fin true 0 (-1074) := by decide +kernel
/-- a sum is -0.0 only of two of them -/
theorem add_nz {x v : UInt64} (hx : FP.Core.val64 x ≠ .nan) (hv : FP.Core.val64 v ≠ .nan) (hz : x ≠ 9223372036854775808) : FP.dadd x v ≠ 9223372036854775808 := by
  intro h
  have e : FP.Core.val64 (FP.Core.dadd x v) = .fin true 0 (-1074) := by rw [show FP.Core.dadd x v = 9223372036854775808 from h]; exact val_min
  rw [FP.Core.val64_dadd] at e
  have fx := FP.Core.val64_fits x
  have fv := FP.Core.val64_fits v
  cases c1 : FP.Core.val64 x with
  | nan => exact hx c1
  | inf s =>
    rw [c1] at e
    cases c2 : FP.Core.val64 v with
    | nan => exact hv c2
    | inf t =>
      rw [c2] at e
      by_cases st : s = t
      · have : FP.Core.exactSum (.inf s) (.inf t) = .inf s := if_pos st
        rw [this] at e; cases e
      · have : FP.Core.exactSum (.inf s) (.inf t) = .nan := if_neg st
        rw [this] at e; cases e
    | fin t d r => rw [c2] at e; cases e
  | fin s c q =>
    rw [c1] at e fx
    cases c2 : FP.Core.val64 v with
    | nan => exact hv c2
    | inf t => rw [c2] at e; cases e
    | fin t d r =>
      rw [c2] at e fv
      have z0 : FP.Core.zval FP.Core.b64 (FP.Core.round FP.Core.b64 (FP.Core.exactSum (.fin s c q) (.fin t d r))) = 0 := by
        rw [e]
        show - ((FP.Core.inUnits 0 (-1074) FP.Core.b64.qmin : Nat) : Int) = 0
        unfold FP.Core.inUnits
        simp
      have f1 : FP.Core.fits FP.Core.b64 (.fin false 1 (-1074)) := ⟨by decide, by rw [qm]; decide, by rw [qx]; decide, Or.inl qm.symm⟩
      have f2 : FP.Core.fits FP.Core.b64 (.fin true 1 (-1074)) := f1
      have v1 : FP.Core.zval FP.Core.b64 (.fin false 1 (-1074)) = 1 := by decide +kernel
      have v2 : FP.Core.zval FP.Core.b64 (.fin true 1 (-1074)) = -1 := by decide +kernel
      have hp : ¬ 1 ≤ FP.Core.zval FP.Core.b64 (.fin s c q) + FP.Core.zval FP.Core.b64 (.fin t d r) := fun g => by
        have := FP.Core.sum_ge FP.Core.good_b64 ⟨s, c, q, rfl⟩ ⟨t, d, r, rfl⟩ fx fv f1 (by intro z; cases z) (by rw [v1]; exact g)
        rw [v1, z0] at this
        omega
      have hm : ¬ FP.Core.zval FP.Core.b64 (.fin s c q) + FP.Core.zval FP.Core.b64 (.fin t d r) ≤ -1 := fun g => by
        have := FP.Core.sum_le FP.Core.good_b64 ⟨s, c, q, rfl⟩ ⟨t, d, r, rfl⟩ fx fv f2 (by intro z; cases z) (by rw [v2]; exact g)
        rw [v2, z0] at this
        omega
      have hs : FP.Core.sumSign s t (FP.Core.sumUnits s c q t d r (min q r)) = true := by
        have : FP.Core.sgn (FP.Core.roundRatio FP.Core.b64 (FP.Core.sumSign s t (FP.Core.sumUnits s c q t d r (min q r))) (FP.Core.sumUnits s c q t d r (min q r)).natAbs 1 (min q r)) = true := by
          have e' : FP.Core.roundRatio FP.Core.b64 (FP.Core.sumSign s t (FP.Core.sumUnits s c q t d r (min q r))) (FP.Core.sumUnits s c q t d r (min q r)).natAbs 1 (min q r) = .fin true 0 (-1074) := e
          rw [e']; rfl
        rwa [FP.Core.sgn_roundRatio] at this
      obtain ⟨sg, n, ee, g1, g2, g3⟩ := FP.Core.sum_units fx fv
      have g1' : FP.Core.Datum.fin (FP.Core.sumSign s t (FP.Core.sumUnits s c q t d r (min q r))) (FP.Core.sumUnits s c q t d r (min q r)).natAbs (min q r) = .fin sg n ee := g1
      injection g1' with j1 j2 j3
      have n0 : n = 0 := by
        have : FP.Core.signed sg (FP.Core.inUnits n ee FP.Core.b64.qmin) = 0 := by rw [g3]; omega
        have := (FP.Core.signed_eq_zero _ _).mp this
        unfold FP.Core.inUnits at this
        rcases Nat.mul_eq_zero.mp this with w | w
        · exact w
        · have := Nat.two_pow_pos (ee - FP.Core.b64.qmin).toNat; omega
      have u0 : FP.Core.sumUnits s c q t d r (min q r) = 0 := Int.natAbs_eq_zero.mp (j2.trans n0)
      rw [u0] at hs
      have hs : (s && t) = true := hs
      rw [Bool.and_eq_true] at hs
      obtain ⟨rfl, rfl⟩ := hs
      have zx : FP.Core.zval FP.Core.b64 (.fin true c q) = -((FP.Core.inUnits c q FP.Core.b64.qmin : Nat) : Int) := rfl
      have zy : FP.Core.zval FP.Core.b64 (.fin true d r) = -((FP.Core.inUnits d r FP.Core.b64.qmin : Nat) : Int) := rfl
      have cz : FP.Core.zval FP.Core.b64 (.fin true c q) = 0 := by omega
      apply hz
      have k1 := (FP.Core.zval_eq_zero hx).mp (by rw [c1]; exact cz)
      have k2 := (FP.Core.sign_bits (a := x) (s := true) (Or.inl ⟨c, q, c1⟩)).mp rfl
      have := x.toNat_lt
      exact UInt64.toNat.inj (by show _ = 9223372036854775808; omega)
/-- a step of the sum, none: no number -/
def sstep (s : Option UInt64) (v : UInt64) : Option UInt64 := s.bind fun x => if clash x v then none else some (FP.dadd x v)
def sumN (f : Nat → Int64) : Nat → Option UInt64
  | 0 => some 0
  | i + 1 => sstep (sumN f i) (f i).toUInt64
theorem sumN_cong {f g : Nat → Int64} : ∀ n : Nat, (∀ i, i < n → f i = g i) → sumN f n = sumN g n := by
  intro n
  induction n with
  | zero => exact fun _ => rfl
  | succ n ih =>
    intro h
    show sstep (sumN f n) (f n).toUInt64 = sstep (sumN g n) (g n).toUInt64
    rw [ih (fun i hi => h i (by omega)), h n (by omega)]
theorem sumN_none {f : Nat → Int64} {i : Nat} (h : sumN f i = none) : ∀ d : Nat, sumN f (i + d) = none := by
  intro d
  induction d with
  | zero => exact h
  | succ d ih =>
    show sstep (sumN f (i + d)) _ = none
    rw [ih]; rfl
def SumOk (s : Option UInt64) : Prop := ∀ x, s = some x → FP.Core.val64 x ≠ .nan ∧ x ≠ 9223372036854775808
theorem SumOk.step {s : Option UInt64} {v : UInt64} (h : SumOk s) (hv : FP.Core.val64 v ≠ .nan) : SumOk (sstep s v) := by
  intro y hy
  cases s with
  | none => cases hy
  | some x =>
    obtain ⟨h1, h2⟩ := h x rfl
    have hy : (if clash x v then none else some (FP.dadd x v)) = some y := hy
    by_cases c : clash x v
    · rw [if_pos c] at hy; cases hy
    · rw [if_neg c] at hy
      injection hy with hy
      rw [← hy]
      exact ⟨add_nn h1 hv c, add_nz h1 hv h2⟩
theorem sumN_ok {f : Nat → Int64} : ∀ n : Nat, (∀ i, i < n → isNum (f i)) → SumOk (sumN f n) := by
  intro n
  induction n with
  | zero =>
    intro _ x hx
    injection hx with hx
    rw [← hx]
    exact ⟨nan0, by decide⟩
  | succ n ih => exact fun h => (ih (fun i hi => h i (by omega))).step (num_ne (h n (by omega)))
/-- the model's sum -/
def smV (s : Option UInt64) : UInt64 := s.getD 9221120237041090560
theorem b44_o {x v : UInt64} (hx : FP.Core.val64 x ≠ .nan) (hv : FP.Core.val64 v ≠ .nan) (h : ¬ clash x v) : fX12_plusReal_b44 x v 0 = some (FP.dadd x v) := by
  unfold fX12_plusReal_b44
  rw [if_pos (cself hx), if_pos (cself hv), if_pos rfl, if_pos (nn_of (add_nn hx hv h))]
theorem b44_n {x v : UInt64} (hx : FP.Core.val64 x ≠ .nan) (hv : FP.Core.val64 v ≠ .nan) : fX12_plusReal_b44 x v 1 = some 9221120237041090560 := by
  unfold fX12_plusReal_b44
  rw [if_pos (cself hx), if_pos (cself hv), if_neg (by decide)]
theorem en_le {x : UInt64} (h : en x) : (FP.Core.dkey x ≤ 0) = (2 ^ 63 ≤ x.toNat) ∧ (0 ≤ FP.Core.dkey x) = (¬ 2 ^ 63 ≤ x.toNat) := by
  have hx := x.toNat_lt
  unfold en at h
  unfold FP.Core.dkey
  constructor
  · apply propext
    split <;> omega
  · apply propext
    split <;> omega
theorem plus_m {s : Option UInt64} {v : UInt64} (h : SumOk s) (hv : FP.Core.val64 v ≠ .nan) : fX12_plusReal (smV s) v = some (smV (sstep s v)) := by
  cases s with
  | none =>
    show fX12_plusReal 9221120237041090560 v = some 9221120237041090560
    unfold fX12_plusReal fX12_plusReal_b44
    rw [endN, if_pos rfl, cvn (Or.inl nan_v), if_neg (by decide)]
  | some x =>
    obtain ⟨h1, h2⟩ := h x rfl
    show fX12_plusReal x v = some (smV (if clash x v then none else some (FP.dadd x v)))
    unfold fX12_plusReal
    rw [ensM h1, ensM hv]
    by_cases c1 : en x
    · rw [if_pos c1, if_neg (by decide)]
      by_cases c2 : en v
      · rw [if_pos c2, if_neg (by decide)]
        obtain ⟨-, g1, -, -, -⟩ := cv (w := .l) h1 nan0
        obtain ⟨-, g2, -, -, -⟩ := cv (w := .l) hv nan0
        unfold fX12_plusReal_b25
        simp only [g1, g2, ky0, (en_le c1).1, (en_le c2).1]
        by_cases z1 : 2 ^ 63 ≤ x.toNat
        · rw [if_pos z1]
          by_cases z2 : 2 ^ 63 ≤ v.toNat
          · rw [if_pos z2, if_pos trivial, if_neg (fun w => w.2.2 ⟨fun _ => z2, fun _ => z1⟩)]
            exact b44_o h1 hv (fun w => w.2.2 ⟨fun _ => z2, fun _ => z1⟩)
          · rw [if_neg z2, if_neg (by decide), if_pos ⟨c1, c2, fun w => z2 (w.mp z1)⟩]
            exact b44_n h1 hv
        · rw [if_neg z1]
          by_cases z2 : 2 ^ 63 ≤ v.toNat
          · rw [if_pos z2, if_neg (by decide), if_pos ⟨c1, c2, fun w => z1 (w.mpr z2)⟩]
            exact b44_n h1 hv
          · rw [if_neg z2, if_pos trivial, if_neg (fun w => w.2.2 ⟨fun q => absurd q z1, fun q => absurd q z2⟩)]
            exact b44_o h1 hv (fun w => w.2.2 ⟨fun q => absurd q z1, fun q => absurd q z2⟩)
      · rw [if_neg c2, if_pos rfl, if_neg (fun w => c2 w.2.1)]
        exact b44_o h1 hv (fun w => c2 w.2.1)
    · rw [if_neg c1, if_pos rfl, if_neg (fun w => c1 w.1)]
      exact b44_o h1 hv (fun w => c1 w.1)
/-- the class's sum -/
theorem mean_l {σ : Shp} {J : Nat → Nat → Int64} {R : Nat → Nat → Option Nat} {f : Nat → Int64} {many : Nat} (h40 : many ≤ 40) (hl : lnx σ 112 = 40) (hf : ∀ i, i < many → J 112 i = f i) (hn : ∀ i, i < many → isNum (f i)) : ∀ (m n i : Nat) (x : UInt64), i + m = many → m < n → sumN f i = some x → gX11_meanBits_l5 σ J R n (Int32.ofInt (many : Int)) x (Int32.ofInt (i : Int)) = ((sumN f many).elim (some 9221120237041090560) (fun y => gX11_meanBits_b89 σ J R (Int32.ofInt (many : Int)) y)) := by
  intro m
  induction m with
  | zero =>
    intro n i x hi hm hs
    obtain ⟨n, rfl⟩ : ∃ n', n = n' + 1 := ⟨n - 1, by omega⟩
    have : i = many := by omega
    subst this
    rw [gX11_meanBits_l5, if_pos (by rw [i_le (by omega) (by omega)]; omega), hs]
    rfl
  | succ m ih =>
    intro n i x hi hm hs
    obtain ⟨n, rfl⟩ : ∃ n', n = n' + 1 := ⟨n - 1, by omega⟩
    have nf := hn i (by omega)
    obtain ⟨x1, x2⟩ := sumN_ok i (fun k hk => hn k (by omega)) x hs
    have vn := num_ne nf
    have sn : sumN f (i + 1) = if clash x (f i).toUInt64 then none else some (FP.dadd x (f i).toUInt64) := by
      show sstep (sumN f i) _ = _
      rw [hs]; rfl
    have go : ¬ clash x (f i).toUInt64 → gX11_meanBits_l5 σ J R n (Int32.ofInt (many : Int)) (FP.dadd x (f i).toUInt64) (Int32.ofInt (i : Int) + 1) = ((sumN f many).elim (some 9221120237041090560) (fun y => gX11_meanBits_b89 σ J R (Int32.ofInt (many : Int)) y)) := fun c => by
      rw [i_addl, show (i : Int) + 1 = ((i + 1 : Nat) : Int) by omega]
      exact ih n (i + 1) _ (by omega) (by omega) (by rw [sn, if_neg c])
    have st : clash x (f i).toUInt64 → ((sumN f many).elim (some (9221120237041090560 : Int64)) (fun y => gX11_meanBits_b89 σ J R (Int32.ofInt (many : Int)) y)) = some 9221120237041090560 := fun c => by
      have h0 : sumN f (i + 1) = none := by rw [sn, if_pos c]
      have := sumN_none h0 m
      rw [show i + 1 + m = many by omega] at this
      rw [this]; rfl
    rw [gX11_meanBits_l5, if_neg (by rw [i_le (by omega) (by omega)]; omega), hl, nat32, if_neg (by rw [i_le (by omega) (by omega)]; omega), if_pos (by rw [i_gd (by omega)]; exact not_false), i_tn (by omega), Int.toNat_natCast, hf i (by omega), realOf_num nf, ob_some, endC x1, ob_some]
    by_cases c1 : en x
    · rw [if_pos c1, if_neg (by decide), endC vn, ob_some]
      by_cases c2 : en (f i).toUInt64
      · rw [if_pos c2, if_neg (by decide)]
        obtain ⟨-, -, g1, -, -⟩ := cv (w := .g) x1 nan0
        obtain ⟨-, -, g2, -, -⟩ := cv (w := .g) vn nan0
        unfold gX11_meanBits_b59
        simp only [g1, g2, ky0, (en_le c1).2, (en_le c2).2]
        by_cases z1 : 2 ^ 63 ≤ x.toNat
        · rw [if_neg (fun q => q z1)]
          by_cases z2 : 2 ^ 63 ≤ (f i).toUInt64.toNat
          · have nc : ¬ clash x (f i).toUInt64 := fun w => w.2.2 ⟨fun _ => z2, fun _ => z1⟩
            rw [if_neg (fun q => q z2), if_pos trivial, if_pos (nn_of (add_nn x1 vn nc))]
            exact go nc
          · have nc : clash x (f i).toUInt64 := ⟨c1, c2, fun w => z2 (w.mp z1)⟩
            rw [if_pos z2, if_neg (by decide)]
            exact (st nc).symm
        · rw [if_pos z1]
          by_cases z2 : 2 ^ 63 ≤ (f i).toUInt64.toNat
          · have nc : clash x (f i).toUInt64 := ⟨c1, c2, fun w => z1 (w.mpr z2)⟩
            rw [if_neg (fun q => q z2), if_neg (by decide)]
            exact (st nc).symm
          · have nc : ¬ clash x (f i).toUInt64 := fun w => w.2.2 ⟨fun q => absurd q z1, fun q => absurd q z2⟩
            rw [if_pos z2, if_pos trivial, if_pos (nn_of (add_nn x1 vn nc))]
            exact go nc
      · have nc : ¬ clash x (f i).toUInt64 := fun w => c2 w.2.1
        rw [if_neg c2, if_pos rfl, if_pos (nn_of (add_nn x1 vn nc))]
        exact go nc
    · have nc : ¬ clash x (f i).toUInt64 := fun w => c1 w.1
      rw [if_neg c1, if_pos rfl, if_pos (nn_of (add_nn x1 vn nc))]
      exact go nc
/-- the class's bits of a number not below 0 -/
theorem bitsOf_n {y : UInt64} (hy : y.toNat ≤ 9218868437227405312) : fX11_bitsOf y = some y.toInt64 := by
  have hn : FP.Core.val64 y ≠ .nan := (FP.Core.ne_nan y).mpr (by omega)
  by_cases z1 : y.toNat = 0
  · rw [show y = 0 from UInt64.toNat.inj z1]
    unfold fX11_bitsOf
    rw [if_pos (by decide +kernel)]; rfl
  unfold fX11_bitsOf
  obtain ⟨-, -, -, -, g1⟩ := cv (w := .l) hn nan0
  simp only [g1, ky0]
  rw [if_neg (by unfold FP.Core.dkey; rw [if_neg (by omega)]; omega), endC hn, ob_some]
  by_cases z2 : en y
  · rw [if_pos z2, if_neg (by decide)]
    unfold en at z2
    rw [show y = 9218868437227405312 from UInt64.toNat.inj (by show _ = 9218868437227405312; omega)]; rfl
  · rw [if_neg z2, if_pos rfl]
    unfold en at z2
    obtain ⟨c, q, h1, h2, h3, h4⟩ := fin_c (x := y) (by omega)
    exact bitsOf_pos h1 (h4 z1) h2 h3
theorem i2d_n {n : Nat} (h : n ≤ 40) : Ex (FP.i2d (Int32.ofInt (n : Int))) false n 0 := by
  show Ex (FP.Core.i2d (Int32.ofInt (n : Int))) false n 0
  rw [FP.Core.i2d_l2d, i_w (by omega)]
  exact Ex.l2d (by omega)
theorem sgn_div {x d : UInt64} {n : Nat} (hx : FP.Core.val64 x ≠ .nan) (hd : Ex d false n 0) (hn : 1 ≤ n) : FP.Core.val64 (FP.ddiv x d) ≠ .nan ∧ (2 ^ 63 ≤ (FP.ddiv x d).toNat ↔ 2 ^ 63 ≤ x.toNat) := by
  have nz : ¬ FP.Core.DZero d := FP.Core.dnot_zero hd.ne (by
    have := hd.zp
    show Zv d ≠ 0
    rw [this]
    have : 0 < n * 2 ^ (0 + 1074 : Int).toNat := Nat.mul_pos (by omega) (Nat.two_pow_pos _)
    omega)
  have h1 : FP.Core.val64 (FP.ddiv x d) ≠ .nan := (FP.Core.notNaN_iff _).mp (FP.Core.ddiv_out ((FP.Core.notNaN_iff _).mpr hx) hd.fin nz)
  refine ⟨h1, ?_⟩
  have e : FP.Core.sgn (FP.Core.val64 (FP.ddiv x d)) = FP.Core.sgn (FP.Core.val64 x) := by
    show FP.Core.sgn (FP.Core.val64 (FP.Core.ddiv x d)) = _
    rw [FP.Core.val64_ddiv]
    obtain ⟨-, c', q', e1, -⟩ := hd
    rw [e1]
    cases c : FP.Core.val64 x with
    | nan => exact absurd c hx
    | inf s => show (s != false) = s; cases s <;> rfl
    | fin s a b =>
      have c0 : ¬ c' = 0 := fun z => nz ⟨false, q', by rw [e1, z]⟩
      have : FP.Core.quotient FP.Core.b64 (.fin s a b) (.fin false c' q') = FP.Core.roundRatio FP.Core.b64 (s != false) a c' (b - q') := if_neg c0
      rw [this, FP.Core.sgn_roundRatio]
      show (s != false) = s
      cases s <;> rfl
  rw [FP.Core.sgn_bits h1, FP.Core.sgn_bits hx] at e
  constructor
  · intro h
    rw [decide_eq_true h] at e
    exact of_decide_eq_true e.symm
  · intro h
    rw [decide_eq_true h] at e
    exact of_decide_eq_true e
/-- means alike -/
theorem mean_b {σ : Shp} {J : Nat → Nat → Int64} {R : Nat → Nat → Option Nat} {x : UInt64} {n : Nat} (hx : FP.Core.val64 x ≠ .nan) (hz : x ≠ 9223372036854775808) (h1 : 1 ≤ n) (h2 : n ≤ 40) : gX11_meanBits_b89 σ J R (Int32.ofInt (n : Int)) x = some (FP.ddiv x (FP.i2d (Int32.ofInt (n : Int)))).toInt64 := by
  have hd := i2d_n h2
  unfold gX11_meanBits_b89
  generalize FP.i2d (Int32.ofInt (n : Int)) = d at *
  have hb := x.toNat_lt
  obtain ⟨s1, s2⟩ := sgn_div hx hd h1
  have hn := (FP.Core.ne_nan _).mp s1
  obtain ⟨-, -, g1, -, -⟩ := cv (w := .g) hx nan0
  rw [if_pos (by rw [i_ler (by omega)]; omega)]
  simp only [g1, ky0]
  by_cases z : 2 ^ 63 ≤ x.toNat
  · have z3 : x.toNat ≠ 2 ^ 63 := fun q => hz (UInt64.toNat.inj q)
    rw [if_neg (by unfold FP.Core.dkey; rw [if_pos z]; omega)]
    have z2 := s2.mpr z
    have hd0 : FP.Core.dIsNaN x = false := (FP.Core.notNaN_iff _).mpr hx
    have hd1 : FP.Core.dIsNaN (FP.Core.ddiv x d) = false := (FP.Core.notNaN_iff _).mpr s1
    have m : FP.ddiv (FP.dneg x) d = FP.dneg (FP.ddiv x d) := by
      rw [FP.dneg_core hd0, FP.dneg_core hd1]
      exact FP.Core.ddiv_dneg _ _
    have e := dneg_n z2
    have b := (FP.ddiv x d).toNat_lt
    rw [m, if_pos (nn_of ((FP.Core.ne_nan _).mpr (by rw [e]; omega))), bitsOf_n (by rw [e]; omega), ob_some, or_min' (by rw [e]; omega), e, show (FP.ddiv x d).toNat - 2 ^ 63 + 2 ^ 63 = (FP.ddiv x d).toNat by omega, ← to_j (x := FP.ddiv x d) rfl]
  · rw [if_pos (by unfold FP.Core.dkey; rw [if_neg z]; omega)]
    have z2 : ¬ 2 ^ 63 ≤ (FP.ddiv x d).toNat := fun q => z (s2.mp q)
    rw [if_pos (nn_of s1), bitsOf_n (by omega), ob_some]
theorem over_m {x : UInt64} {n : Nat} (hx : FP.Core.val64 x ≠ .nan) (h1 : 1 ≤ n) (h2 : n ≤ 40) : fX12_overReal x (FP.i2d (Int32.ofInt (n : Int))) = some (FP.ddiv x (FP.i2d (Int32.ofInt (n : Int)))) := by
  have hd := i2d_n h2
  generalize FP.i2d (Int32.ofInt (n : Int)) = d at *
  obtain ⟨s1, s2⟩ := sgn_div hx hd h1
  have b : fX12_overReal_b31 x d 0 = some (FP.ddiv x d) := by
    unfold fX12_overReal_b31
    rw [if_pos (cself hx), if_pos (cself hd.ne), if_pos rfl, if_pos (nn_of s1)]
  have e2 : fX12_isEndless d = 0 := by
    rw [ensM hd.ne, if_neg]
    have := (FP.Core.fin_bits d).mp hd.fin
    unfold en
    omega
  obtain ⟨-, -, -, -, g3⟩ := cvZ (w := .l) hd.ne nan0
  have dz : ¬ Zv d = Zv FP.dconst0 := by
    rw [ex0_z, hd.zp]
    have : 0 < n * 2 ^ (0 + 1074 : Int).toNat := Nat.mul_pos (by omega) (Nat.two_pow_pos _)
    omega
  unfold fX12_overReal
  simp only [g3]
  rw [if_neg dz, e2, if_pos rfl, b]
  by_cases c1 : Op.cmpValue (FP.dcmp x FP.dconst0) .l = 0
  · rw [if_pos c1]
    by_cases c2 : fX12_isEndless x = 0
    · rw [if_pos c2]
    · rw [if_neg c2]
  · rw [if_neg c1]
    by_cases c2 : fX12_isEndless x = 0
    · rw [if_pos c2]
    · rw [if_neg c2]
theorem over_n {n : Nat} (h1 : 1 ≤ n) (h2 : n ≤ 40) : fX12_overReal 9221120237041090560 (FP.i2d (Int32.ofInt (n : Int))) = some 9221120237041090560 := by
  have hd := i2d_n h2
  generalize FP.i2d (Int32.ofInt (n : Int)) = d at *
  unfold fX12_overReal fX12_overReal_b31
  rw [endN, if_pos rfl, if_neg (by decide +kernel), if_neg (by decide +kernel)]
