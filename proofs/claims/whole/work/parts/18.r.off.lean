/-! ===== minute: OFF or NEAR ===== -/
theorem zk {a b : UInt64} (ha : FP.Core.val64 a ≠ .nan) (hb : FP.Core.val64 b ≠ .nan) : (Zv a ≤ Zv b) = (FP.Core.dkey a ≤ FP.Core.dkey b) := (cvZ (w := .g) ha hb).2.1.symm.trans (cv (w := .g) ha hb).2.1
theorem sub_nn {x v : UInt64} (hx : FP.Core.val64 x ≠ .nan) (hv : FP.Core.val64 v ≠ .nan) (h : x ≠ v) : FP.Core.val64 (FP.dsub x v) ≠ .nan := by
  refine (FP.Core.notNaN_iff _).mp (FP.Core.not_true (FP.Core.dsub_nan_iff x v) ?_)
  rintro (q | q | ⟨s, q1, q2⟩)
  · exact hx q
  · exact hv q
  · exact h (FP.Core.val64_inj hx (q1.trans q2.symm))
theorem inf_k {x v : UInt64} {s : Bool} (hx : FP.Core.val64 x = .inf s) (hv : FP.Core.val64 v ≠ .nan) (h : x ≠ v) : (s = false → ¬ Zv x ≤ Zv v) ∧ (s = true → ¬ Zv v ≤ Zv x) := by
  have nx : FP.Core.val64 x ≠ .nan := by rw [hx]; intro z; cases z
  have ex : en x := by
    by_cases c : en x
    · exact c
    · obtain ⟨a, b, d, e⟩ := en_fin nx c
      rw [e] at hx; cases hx
  have e2 := en_v ex
  rw [hx] at e2
  injection e2 with e2
  have bx := x.toNat_lt
  have bv := v.toNat_lt
  have nv := (FP.Core.ne_nan v).mp hv
  rw [zk nx hv, zk hv nx]
  unfold en at ex
  have hne : x.toNat ≠ v.toNat := fun q => h (UInt64.toNat.inj q)
  constructor
  · intro hs
    rw [hs] at e2
    have z := of_decide_eq_false e2.symm
    unfold FP.Core.dkey
    rw [if_neg z]
    split <;> omega
  · intro hs
    rw [hs] at e2
    have z := of_decide_eq_true e2.symm
    unfold FP.Core.dkey
    rw [if_pos z]
    split <;> omega
theorem zv0_fits : FP.Core.fits FP.Core.b64 (.fin false 0 (-1074)) := ⟨by decide, by rw [qm]; decide, by rw [qx]; decide, Or.inl qm.symm⟩
theorem zv0 : FP.Core.zval FP.Core.b64 (.fin false 0 (-1074)) = 0 := by decide +kernel
theorem sub_s {x v : UInt64} (hx : FP.Core.val64 x ≠ .nan) (hv : FP.Core.val64 v ≠ .nan) (h : x ≠ v) : (Zv x ≤ Zv v → Zv (FP.dsub x v) ≤ 0) ∧ (Zv v ≤ Zv x → 0 ≤ Zv (FP.dsub x v)) := by
  have e : FP.Core.val64 (FP.dsub x v) = FP.Core.round FP.Core.b64 (FP.Core.exactSum (FP.Core.val64 x) (FP.Core.negate (FP.Core.val64 v))) := FP.Core.val64_dsub x v
  show (Zv x ≤ Zv v → FP.Core.zval FP.Core.b64 (FP.Core.val64 (FP.dsub x v)) ≤ 0) ∧ (Zv v ≤ Zv x → 0 ≤ FP.Core.zval FP.Core.b64 (FP.Core.val64 (FP.dsub x v)))
  rw [e]
  cases c1 : FP.Core.val64 x with
  | nan => exact absurd c1 hx
  | inf s =>
    have k := inf_k c1 hv h
    have r : FP.Core.exactSum (.inf s) (FP.Core.negate (FP.Core.val64 v)) = .inf s := by
      cases c2 : FP.Core.val64 v with
      | nan => exact absurd c2 hv
      | inf t =>
        have : s ≠ t := fun q => h (FP.Core.val64_inj hx (by rw [c1, c2, q]))
        have : s = !t := by cases s <;> cases t <;> first | rfl | exact absurd rfl this
        exact if_pos this
      | fin t d r => rfl
    rw [r]
    show (_ → FP.Core.zval FP.Core.b64 (.inf s) ≤ 0) ∧ (_ → 0 ≤ FP.Core.zval FP.Core.b64 (.inf s))
    cases s with
    | false => exact ⟨fun q => absurd q (k.1 rfl), fun _ => by decide +kernel⟩
    | true => exact ⟨fun _ => by decide +kernel, fun q => absurd q (k.2 rfl)⟩
  | fin s c q =>
    cases c2 : FP.Core.val64 v with
    | nan => exact absurd c2 hv
    | inf t =>
      have k := inf_k c2 hx (fun z => h z.symm)
      show (_ → FP.Core.zval FP.Core.b64 (.inf (!t)) ≤ 0) ∧ (_ → 0 ≤ FP.Core.zval FP.Core.b64 (.inf (!t)))
      cases t with
      | false => exact ⟨fun _ => by decide +kernel, fun q => absurd q (k.1 rfl)⟩
      | true => exact ⟨fun q => absurd q (k.2 rfl), fun _ => by decide +kernel⟩
    | fin t d r =>
      have fx := FP.Core.val64_fits x
      have fv := FP.Core.val64_fits v
      rw [c1] at fx
      rw [c2] at fv
      have zx : Zv x = FP.Core.zval FP.Core.b64 (.fin s c q) := by show FP.Core.zval FP.Core.b64 (FP.Core.val64 x) = _; rw [c1]
      have zv : Zv v = FP.Core.zval FP.Core.b64 (.fin t d r) := by show FP.Core.zval FP.Core.b64 (FP.Core.val64 v) = _; rw [c2]
      have zn : FP.Core.zval FP.Core.b64 (.fin (!t) d r) = - FP.Core.zval FP.Core.b64 (.fin t d r) := FP.Core.zval_negate _ (.fin t d r)
      have fn : FP.Core.fits FP.Core.b64 (FP.Core.negate (.fin t d r)) := FP.Core.negate_fits fv
      constructor
      · intro g
        have := FP.Core.sum_le FP.Core.good_b64 ⟨s, c, q, rfl⟩ ⟨!t, d, r, rfl⟩ fx fn zv0_fits (by intro z; cases z) (by rw [zv0, zn]; omega)
        rw [zv0] at this
        exact this
      · intro g
        have := FP.Core.sum_ge FP.Core.good_b64 ⟨s, c, q, rfl⟩ ⟨!t, d, r, rfl⟩ fx fn zv0_fits (by intro z; cases z) (by rw [zv0, zn]; omega)
        rw [zv0] at this
        exact this
theorem sub_n {x v : UInt64} (hx : FP.Core.val64 x ≠ .nan) (hv : FP.Core.val64 v ≠ .nan) (h : x ≠ v) : Zv (FP.dsub v x) = - Zv (FP.dsub x v) := by
  have e1 : FP.Core.val64 (FP.dsub x v) = FP.Core.round FP.Core.b64 (FP.Core.exactSum (FP.Core.val64 x) (FP.Core.negate (FP.Core.val64 v))) := FP.Core.val64_dsub x v
  have e2 : FP.Core.val64 (FP.dsub v x) = FP.Core.round FP.Core.b64 (FP.Core.exactSum (FP.Core.val64 v) (FP.Core.negate (FP.Core.val64 x))) := FP.Core.val64_dsub v x
  show FP.Core.zval FP.Core.b64 (FP.Core.val64 (FP.dsub v x)) = - FP.Core.zval FP.Core.b64 (FP.Core.val64 (FP.dsub x v))
  rw [e1, e2]
  cases c1 : FP.Core.val64 x with
  | nan => exact absurd c1 hx
  | inf s =>
    cases c2 : FP.Core.val64 v with
    | nan => exact absurd c2 hv
    | inf t =>
      have : s ≠ t := fun q => h (FP.Core.val64_inj hx (by rw [c1, c2, q]))
      cases s <;> cases t <;> first | exact absurd rfl this | decide +kernel
    | fin t d r => cases s <;> exact FP.Core.zval_negate FP.Core.b64 (.inf _)
  | fin s c q =>
    cases c2 : FP.Core.val64 v with
    | nan => exact absurd c2 hv
    | inf t =>
      cases t
      · exact FP.Core.zval_negate FP.Core.b64 (.inf true)
      · exact FP.Core.zval_negate FP.Core.b64 (.inf false)
    | fin t d r =>
      have u : FP.Core.sumUnits t d r (!s) c q (min r q) = - FP.Core.sumUnits s c q (!t) d r (min q r) := by
        unfold FP.Core.sumUnits
        have g : ∀ (b : Bool) (m : Nat), FP.Core.signed (!b) m = - FP.Core.signed b m := fun b m => by cases b <;> simp [FP.Core.signed]
        rw [g, g, Int.min_comm]
        omega
      have z1 : ∀ (S : Bool) (n : Nat) (E : Int), FP.Core.zval FP.Core.b64 (FP.Core.round FP.Core.b64 (.fin (!S) n E)) = - FP.Core.zval FP.Core.b64 (FP.Core.round FP.Core.b64 (.fin S n E)) := fun S n E => by
        rw [show FP.Core.Datum.fin (!S) n E = FP.Core.negate (.fin S n E) from rfl, ← FP.Core.negate_round, FP.Core.zval_negate]
      show FP.Core.zval FP.Core.b64 (FP.Core.round FP.Core.b64 (.fin (FP.Core.sumSign t (!s) (FP.Core.sumUnits t d r (!s) c q (min r q))) (FP.Core.sumUnits t d r (!s) c q (min r q)).natAbs (min r q))) = - FP.Core.zval FP.Core.b64 (FP.Core.round FP.Core.b64 (.fin (FP.Core.sumSign s (!t) (FP.Core.sumUnits s c q (!t) d r (min q r))) (FP.Core.sumUnits s c q (!t) d r (min q r)).natAbs (min q r)))
      rw [u, Int.natAbs_neg, Int.min_comm r q]
      generalize FP.Core.sumUnits s c q (!t) d r (min q r) = U
      by_cases u0 : U = 0
      · subst u0
        have zz : ∀ (S : Bool) (E : Int), FP.Core.zval FP.Core.b64 (FP.Core.round FP.Core.b64 (.fin S (0 : Int).natAbs E)) = 0 := fun S E => by
          show FP.Core.zval FP.Core.b64 (.fin S 0 FP.Core.b64.qmin) = 0
          cases S <;> decide +kernel
        rw [show (-0 : Int) = 0 from rfl, zz, zz]
        rfl
      · have sg : FP.Core.sumSign t (!s) (-U) = !(FP.Core.sumSign s (!t) U) := by
          unfold FP.Core.sumSign
          rw [if_neg (by omega), if_neg u0]
          by_cases g : U < 0
          · rw [decide_eq_true g, decide_eq_false (by omega)]; rfl
          · rw [decide_eq_false g, decide_eq_true (by omega)]; rfl
        rw [sg, z1]
/-- off, the model's way and the class's -/
def offP (x v part : UInt64) : Prop := Zv part < (if Zv x ≤ Zv v then - Zv (FP.dsub x v) else Zv (FP.dsub x v))
theorem off_m {x v part : UInt64} (hx : FP.Core.val64 x ≠ .nan) (hv : FP.Core.val64 v ≠ .nan) (hp : FP.Core.val64 part ≠ .nan) (h : x ≠ v) : (if (Op.cmpValue (FP.dcmp x v) .l) ≤ 0 then if (FP.dsub v x) &&& 0x7fffffffffffffff ≤ 0x7ff0000000000000 then (if (Op.cmpValue (FP.dcmp (FP.dsub v x) part) .l) ≤ 0 then some (0 : Int32) else some 1) else none else if (FP.dsub x v) &&& 0x7fffffffffffffff ≤ 0x7ff0000000000000 then (if (Op.cmpValue (FP.dcmp (FP.dsub x v) part) .l) ≤ 0 then some (0 : Int32) else some 1) else none) = some (if Zv part < (if Zv x ≤ Zv v then - Zv (FP.dsub x v) else Zv (FP.dsub x v)) then 1 else 0) := by
  have n1 := sub_nn hx hv h
  have n2 := sub_nn hv hx (fun q => h q.symm)
  simp only [(cvZ (w := .l) hx hv).2.1, (cvZ (w := .l) n2 hp).2.1, (cvZ (w := .l) n1 hp).2.1, sub_n hx hv h]
  by_cases c : Zv x ≤ Zv v
  · rw [if_pos c, if_pos c, if_pos (nn_of n2)]
    by_cases d : - Zv (FP.dsub x v) ≤ Zv part
    · rw [if_pos d, if_neg (by omega)]
    · rw [if_neg d, if_pos (by omega)]
  · rw [if_neg c, if_neg c, if_pos (nn_of n1)]
    by_cases d : Zv (FP.dsub x v) ≤ Zv part
    · rw [if_pos d, if_neg (by omega)]
    · rw [if_neg d, if_pos (by omega)]
theorem off_c {x v part : UInt64} {α : Type} {A B : α} (hx : FP.Core.val64 x ≠ .nan) (hv : FP.Core.val64 v ≠ .nan) (hp : FP.Core.val64 part ≠ .nan) (h : x ≠ v) : (if 0 ≤ (Op.cmpValue (FP.dcmp (FP.dsub x v) FP.dconst0) .g) then (if (Op.cmpValue (FP.dcmp (FP.dsub x v) part) .l) ≤ 0 then A else B) else if (Op.cmpValue (FP.dcmp (FP.dneg (FP.dsub x v)) part) .l) ≤ 0 then A else B) = (if Zv part < (if Zv x ≤ Zv v then - Zv (FP.dsub x v) else Zv (FP.dsub x v)) then B else A) := by
  have n1 := sub_nn hx hv h
  have n3 : FP.Core.val64 (FP.dneg (FP.dsub x v)) ≠ .nan := by rw [FP.val64_dneg]; exact FP.Core.negate_ne_nan n1
  obtain ⟨s1, s2⟩ := sub_s hx hv h
  simp only [(cvZ (w := .g) n1 nan0).2.2.1, (cvZ (w := .l) n1 hp).2.1, (cvZ (w := .l) n3 hp).2.1, zv_neg n1, ex0_z]
  generalize Zv (FP.dsub x v) = a at *
  generalize Zv x = p at *
  generalize Zv v = q at *
  generalize Zv part = w at *
  by_cases c : p ≤ q
  · have := s1 c
    rw [if_pos c]
    by_cases d : 0 ≤ a
    · rw [if_pos d]
      by_cases e : a ≤ w
      · rw [if_pos e, if_neg (by omega)]
      · rw [if_neg e, if_pos (by omega)]
    · rw [if_neg d]
      by_cases e : -a ≤ w
      · rw [if_pos e, if_neg (by omega)]
      · rw [if_neg e, if_pos (by omega)]
  · have := s2 (by omega)
    rw [if_neg c, if_pos this]
    by_cases e : a ≤ w
    · rw [if_pos e, if_neg (by omega)]
    · rw [if_neg e, if_pos (by omega)]
