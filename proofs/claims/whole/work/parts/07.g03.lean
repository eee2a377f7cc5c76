abbrev WX7_divideStock (G : Gx) (l : Launch) (σ0 : Shp) (X1 : Stt) (rv : Option SV) : Stt → Nat → List (Nat × SV) → List SV → Prop := Wm G l yX7_divideStock cX7_divideStock 3 none (fun _ => True) (rmx 2 47 σ0 X1.1) σ0 (Qmx G σ0 X1 rv)
def fX7_divideStock (σ : Shp) (I : Nat → Nat → Int32) (J : Nat → Nat → Int64) (R : Nat → Nat → Option Nat) (t : Nat) (x1 : Int32) (x2 : Int32) : Option ((Nat → Nat → Int32) × (Nat → Nat → Int64) × (Nat → Nat → Option Nat)) :=
  if x2 = 0 then
    if kdx σ t = 8 then
    (fX7_arise σ I R t (6 : Int32) (0 : Int32)).bind fun I13 =>
    some (I13, J, R)
    else none
  else
    if kdx σ t = 8 then
    ((R t 3) : Option Nat).bind fun a2 =>
    if kdx σ a2 = 9 then
    ((R a2 0) : Option Nat).bind fun a4 =>
    if kdx σ a4 = 21 then
    if ¬ (x1 < 0 ∨ lnx σ a4 ≤ Int32.toNatClampNeg x1) then
    if ¬ (Int32.toInt64 x2) = 0 then
    (fX8_changeStock σ I J R a2 x1 ((J a4 (Int32.toNatClampNeg x1)) / (Int32.toInt64 x2))).bind fun (I8, J9, R10) =>
    some (I8, J9, R10)
    else none
    else none
    else none
    else none
    else none
theorem kX7_divideStock {G : Gx} {l : Launch} {σ : Shp} {I : Nat → Nat → Int32} {J : Nat → Nat → Int64} {D : Nat → Nat → UInt64} {R : Nat → Nat → Option Nat} {t : Nat} {x1 : Int32} {x2 : Int32} {I9 : Nat → Nat → Int32} {J9 : Nat → Nat → Int64} {R9 : Nat → Nat → Option Nat} (h : fX7_divideStock σ I J R t x1 x2 = some (I9, J9, R9)) : Con G l yX7_divideStock cX7_divideStock 3 none 2 47 [vR (some t), vI x1, vI x2] (σ, I, J, D, R) (σ, I9, J9, D, R9) none := by
  unfold fX7_divideStock at h
  refine Con.mk (by decide +kernel) rfl (Nat.le_of_ble_eq_true rfl) ?_
  show WX7_divideStock G l σ (σ, I9, J9, D, R9) none (σ, I, J, D, R) 0 _ []
  refine r_iload_n (pc := 0) dX7_divideStock_0 rfl 2 rfl ?_
  refine r_ifne (pc := 1) (tgt := 14) dX7_divideStock_1 rfl (fun c => ?_) (fun c => ?_)
  · have h := ie h c
    refine r_aload_n (pc := 14) dX7_divideStock_14 rfl 0 rfl ?_
    obtain ⟨g1, h⟩ := gd h
    obtain ⟨a2, ha2, h⟩ := ob h
    refine r_getS (pc := 15) dX7_divideStock_15 fgX7_34 rfl g1 ha2 ?_
    refine r_iload_n (pc := 18) dX7_divideStock_18 rfl 1 rfl ?_
    refine r_aload_n (pc := 19) dX7_divideStock_19 rfl 0 rfl ?_
    refine r_getS (pc := 20) dX7_divideStock_20 fgX7_34 rfl g1 ha2 ?_
    obtain ⟨g3, h⟩ := gd h
    obtain ⟨a4, ha4, h⟩ := ob h
    refine r_getS (pc := 23) dX7_divideStock_23 fgX7_185 rfl g3 ha4 ?_
    refine r_iload_n (pc := 26) dX7_divideStock_26 rfl 1 rfl ?_
    obtain ⟨g5, h⟩ := gd h
    obtain ⟨g6, h⟩ := gd h
    refine r_laload (pc := 27) dX7_divideStock_27 g5 g6 ?_
    refine r_iload_n (pc := 28) dX7_divideStock_28 rfl 2 rfl ?_
    refine r_i2l (pc := 29) dX7_divideStock_29 ?_
    obtain ⟨g7, h⟩ := gd h
    refine r_ldiv (pc := 30) dX7_divideStock_30 g7 ?_
    obtain ⟨⟨I8, J9, R10⟩, hc11, h⟩ := ob h
    refine r_callV0 (pc := 31) (av := [vI x1, vL ((J a4 (Int32.toNatClampNeg x1)) / (Int32.toInt64 x2))]) (S := []) dX7_divideStock_31 (kX8_changeStock hc11) g3 rfl mkX7_189 mwX8_changeStock rfl ⟨Nat.le_of_ble_eq_true rfl, Nat.le_of_ble_eq_true rfl⟩ (Nat.le_of_ble_eq_true rfl) ⟨Nat.le_refl _, Nat.le_refl _⟩ (fun b => b) ?_
    cases h
    exact r_vret dX7_divideStock_34
  · have h := it h c
    refine r_aload_n (pc := 4) dX7_divideStock_4 rfl 0 rfl ?_
    refine r_bipush (pc := 5) dX7_divideStock_5 kc_bipush_6 ?_
    refine r_iconst (pc := 7) dX7_divideStock_7 kc_iconst_0 ?_
    obtain ⟨g12, h⟩ := gd h
    obtain ⟨I13, hc14, h⟩ := ob h
    refine r_callV0 (pc := 8) (av := [vI (6 : Int32), vI (0 : Int32)]) (S := []) dX7_divideStock_8 (kX7_arise hc14) g12 rfl mkX7_182 mwX7_arise rfl ⟨Nat.le_of_ble_eq_true rfl, Nat.le_of_ble_eq_true rfl⟩ (Nat.le_of_ble_eq_true rfl) ⟨Nat.le_refl _, Nat.le_refl _⟩ (fun b => b) ?_
    refine r_goto (pc := 11) (tgt := 34) dX7_divideStock_11 rfl ?_
    cases h
    exact r_vret dX7_divideStock_34
abbrev WX7_doPlan (G : Gx) (l : Launch) (σ0 : Shp) (X1 : Stt) (rv : Option SV) : Stt → Nat → List (Nat × SV) → List SV → Prop := Wm G l yX7_doPlan cX7_doPlan 2 none (fun _ => True) (rmx 4 84 σ0 X1.1) σ0 (Qmx G σ0 X1 rv)
def fX7_doPlan_b60  (σ : Shp) (I : Nat → Nat → Int32) (R : Nat → Nat → Option Nat) : Option ((Shp) × (Nat → Nat → Int32) × (Nat → Nat → Option Nat)) :=
  some (σ, I, R)
theorem mX7_doPlan_b60 {σ : Shp} {I : Nat → Nat → Int32} {R : Nat → Nat → Option Nat} {σ9 : Shp} {I9 : Nat → Nat → Int32} {R9 : Nat → Nat → Option Nat}  (h : fX7_doPlan_b60 σ I R = some (σ9, I9, R9)) : Lex σ σ9 := by
  unfold fX7_doPlan_b60 at h
  cases h
  exact ⟨Nat.le_refl _, Nat.le_refl _⟩
theorem wX7_doPlan_b60 {G : Gx} {l : Launch} {σ0 : Shp} {σ : Shp} {I : Nat → Nat → Int32} {J : Nat → Nat → Int64} {D : Nat → Nat → UInt64} {R : Nat → Nat → Option Nat} {σ9 : Shp} {I9 : Nat → Nat → Int32} {R9 : Nat → Nat → Option Nat}  (h : fX7_doPlan_b60 σ I R = some (σ9, I9, R9)) : WX7_doPlan G l σ0 (σ9, I9, J, D, R9) none (σ, I, J, D, R) 60 [] [] := by
  unfold fX7_doPlan_b60 at h
  cases h
  exact r_vret dX7_doPlan_60
def fX7_doPlan (σ : Shp) (I : Nat → Nat → Int32) (R : Nat → Nat → Option Nat) (t : Nat) (x1 : Int32) : Option ((Shp) × (Nat → Nat → Int32) × (Nat → Nat → Option Nat)) :=
  if kdx σ t = 8 then
  ((R t 2) : Option Nat).bind fun a2 =>
  if kdx σ a2 = 7 then
  (fX6_firstWrong σ I R a2 x1).bind fun (I4, r5) =>
  if r5 = (-1 : Int32) then
    if (I4 t 8) < (6 : Int32) then
      let I7 := u2 I4 t 8 ((I4 t 8) + (1 : Int32))
      (fX7_enterPlan σ I7 R t (10 : Int32) x1).bind fun (σ8, I9, R10) =>
      fX7_doPlan_b60 σ8 I9 R10
    else
      (fX7_arise σ I4 R t (8 : Int32) (99 : Int32)).bind fun I12 =>
      fX7_doPlan_b60 σ I12 R
  else
    (fX7_arise σ I4 R t (8 : Int32) (98 : Int32)).bind fun I14 =>
    fX7_doPlan_b60 σ I14 R
  else none
  else none
theorem mX7_doPlan {σ : Shp} {I : Nat → Nat → Int32} {R : Nat → Nat → Option Nat} {t : Nat} {x1 : Int32} {σ9 : Shp} {I9 : Nat → Nat → Int32} {R9 : Nat → Nat → Option Nat} (h : fX7_doPlan σ I R t x1 = some (σ9, I9, R9)) : Lex σ σ9 := by
  unfold fX7_doPlan at h
  replace h := (gd h).2
  obtain ⟨a2, ha2, h⟩ := ob h
  replace h := (gd h).2
  obtain ⟨⟨I4, r5⟩, hc6, h⟩ := ob h
  rcases itc h with ⟨c, h⟩ | ⟨c, h⟩
  · rcases itc h with ⟨c, h⟩ | ⟨c, h⟩
    · obtain ⟨⟨σ8, I9, R10⟩, hc11, h⟩ := ob h
      refine Lex.trans (mX7_enterPlan hc11) ?_
      exact mX7_doPlan_b60 h
    · obtain ⟨I12, hc13, h⟩ := ob h
      exact mX7_doPlan_b60 h
  · obtain ⟨I14, hc15, h⟩ := ob h
    exact mX7_doPlan_b60 h
theorem kX7_doPlan {G : Gx} {l : Launch} {σ : Shp} {I : Nat → Nat → Int32} {J : Nat → Nat → Int64} {D : Nat → Nat → UInt64} {R : Nat → Nat → Option Nat} {t : Nat} {x1 : Int32} {σ9 : Shp} {I9 : Nat → Nat → Int32} {R9 : Nat → Nat → Option Nat} (h : fX7_doPlan σ I R t x1 = some (σ9, I9, R9)) : Con G l yX7_doPlan cX7_doPlan 2 none 4 84 [vR (some t), vI x1] (σ, I, J, D, R) (σ9, I9, J, D, R9) none := by
  unfold fX7_doPlan at h
  refine Con.mk (by decide +kernel) rfl (Nat.le_of_ble_eq_true rfl) ?_
  show WX7_doPlan G l σ (σ9, I9, J, D, R9) none (σ, I, J, D, R) 0 _ []
  refine r_aload_n (pc := 0) dX7_doPlan_0 rfl 0 rfl ?_
  obtain ⟨g1, h⟩ := gd h
  obtain ⟨a2, ha2, h⟩ := ob h
  refine r_getS (pc := 1) dX7_doPlan_1 fgX7_27 rfl g1 ha2 ?_
  refine r_iload_n (pc := 4) dX7_doPlan_4 rfl 1 rfl ?_
  obtain ⟨g3, h⟩ := gd h
  obtain ⟨⟨I4, r5⟩, hc6, h⟩ := ob h
  refine r_callV1 (pc := 5) (av := [vI x1]) (S := []) dX7_doPlan_5 (kX6_firstWrong hc6) g3 rfl mkX7_243 mwX6_firstWrong rfl ⟨Nat.le_of_ble_eq_true rfl, Nat.le_of_ble_eq_true rfl⟩ (Nat.le_of_ble_eq_true rfl) ⟨Nat.le_refl _, Nat.le_refl _⟩ (fun b => b) ?_
  refine r_iconst (pc := 8) dX7_doPlan_8 kc_iconst_m1 ?_
  refine r_icmp_eq (pc := 9) (tgt := 23) dX7_doPlan_9 rfl (fun c => ?_) (fun c => ?_)
  · have h := it h c
    refine r_aload_n (pc := 23) dX7_doPlan_23 rfl 0 rfl ?_
    refine r_getI (pc := 24) dX7_doPlan_24 fgX7_51 rfl g1 ?_
    refine r_bipush (pc := 27) dX7_doPlan_27 kc_bipush_6 ?_
    refine r_icmp_lt (pc := 29) (tgt := 43) dX7_doPlan_29 rfl (fun c => ?_) (fun c => ?_)
    · have h := it h c
      refine r_aload_n (pc := 43) dX7_doPlan_43 rfl 0 rfl ?_
      refine r_dup (pc := 44) dX7_doPlan_44 rfl ?_
      refine r_getI (pc := 45) dX7_doPlan_45 fgX7_51 rfl g1 ?_
      refine r_iconst (pc := 48) dX7_doPlan_48 kc_iconst_1 ?_
      refine r_iadd (pc := 49) dX7_doPlan_49 ?_
      refine r_putI (pc := 50) dX7_doPlan_50 fwX7_51 rfl g1 ?_
      refine r_aload_n (pc := 53) dX7_doPlan_53 rfl 0 rfl ?_
      refine r_bipush (pc := 54) dX7_doPlan_54 kc_bipush_10 ?_
      refine r_iload_n (pc := 56) dX7_doPlan_56 rfl 1 rfl ?_
      obtain ⟨⟨σ8, I9, R10⟩, hc11, h⟩ := ob h
      refine r_callV0 (pc := 57) (av := [vI (10 : Int32), vI x1]) (S := []) dX7_doPlan_57 (kX7_enterPlan hc11) g1 rfl mkX7_73 mwX7_enterPlan rfl ⟨Nat.le_of_ble_eq_true rfl, Nat.le_of_ble_eq_true rfl⟩ (Nat.le_of_ble_eq_true rfl) (mX7_enterPlan hc11) (bdx_le (mX7_enterPlan hc11) (mX7_doPlan_b60 h)) ?_
      refine r_sub [] rfl ?_
      exact wX7_doPlan_b60 h
    · have h := ie h c
      refine r_aload_n (pc := 32) dX7_doPlan_32 rfl 0 rfl ?_
      refine r_bipush (pc := 33) dX7_doPlan_33 kc_bipush_8 ?_
      refine r_bipush (pc := 35) dX7_doPlan_35 kc_bipush_99 ?_
      obtain ⟨I12, hc13, h⟩ := ob h
      refine r_callV0 (pc := 37) (av := [vI (8 : Int32), vI (99 : Int32)]) (S := []) dX7_doPlan_37 (kX7_arise hc13) g1 rfl mkX7_182 mwX7_arise rfl ⟨Nat.le_of_ble_eq_true rfl, Nat.le_of_ble_eq_true rfl⟩ (Nat.le_of_ble_eq_true rfl) ⟨Nat.le_refl _, Nat.le_refl _⟩ (fun b => b) ?_
      refine r_goto (pc := 40) (tgt := 60) dX7_doPlan_40 rfl ?_
      refine r_sub [] rfl ?_
      exact wX7_doPlan_b60 h
  · have h := ie h c
    refine r_aload_n (pc := 12) dX7_doPlan_12 rfl 0 rfl ?_
    refine r_bipush (pc := 13) dX7_doPlan_13 kc_bipush_8 ?_
    refine r_bipush (pc := 15) dX7_doPlan_15 kc_bipush_98 ?_
    obtain ⟨I14, hc15, h⟩ := ob h
    refine r_callV0 (pc := 17) (av := [vI (8 : Int32), vI (98 : Int32)]) (S := []) dX7_doPlan_17 (kX7_arise hc15) g1 rfl mkX7_182 mwX7_arise rfl ⟨Nat.le_of_ble_eq_true rfl, Nat.le_of_ble_eq_true rfl⟩ (Nat.le_of_ble_eq_true rfl) ⟨Nat.le_refl _, Nat.le_refl _⟩ (fun b => b) ?_
    refine r_goto (pc := 20) (tgt := 60) dX7_doPlan_20 rfl ?_
    refine r_sub [] rfl ?_
    exact wX7_doPlan_b60 h
abbrev WX11_isBin (G : Gx) (l : Launch) (σ0 : Shp) (X1 : Stt) (rv : Option SV) : Stt → Nat → List (Nat × SV) → List SV → Prop := Wm G l yX11_isBin cX11_isBin 1 (some .boolean) (fun _ => True) (rmx 0 0 σ0 X1.1) σ0 (Qmx G σ0 X1 rv)
def fX11_isBin  (x0 : Int32) : (Int32) :=
  if x0 < 0 then
    (0 : Int32)
  else
    if (16 : Int32) ≤ x0 then
      (0 : Int32)
    else
      (1 : Int32)
theorem zX11_isBin  (x0 : Int32) : fX11_isBin x0 = 0 ∨ fX11_isBin x0 = 1 := by
  unfold fX11_isBin
  repeat' (first | refine itz ?_ ?_ | exact Or.inl rfl | exact Or.inr rfl)
theorem kX11_isBin {G : Gx} {l : Launch} {σ : Shp} {I : Nat → Nat → Int32} {J : Nat → Nat → Int64} {D : Nat → Nat → UInt64} {R : Nat → Nat → Option Nat} {x0 : Int32} {r9 : Int32} (h : fX11_isBin x0 = r9) : Con G l yX11_isBin cX11_isBin 1 (some .boolean) 0 0 [vI x0] (σ, I, J, D, R) (σ, I, J, D, R) (some (vI r9)) := by
  unfold fX11_isBin at h
  refine Con.mk (by decide +kernel) rfl (Nat.le_of_ble_eq_true rfl) ?_
  show WX11_isBin G l σ (σ, I, J, D, R) (some (vI r9)) (σ, I, J, D, R) 0 _ []
  refine r_iload_n (pc := 0) dX11_isBin_0 rfl 0 rfl ?_
  refine r_if_lt (pc := 1) (tgt := 14) dX11_isBin_1 rfl (fun c => ?_) (fun c => ?_)
  · have h := it h c
    refine r_iconst (pc := 14) dX11_isBin_14 kc_iconst_0 ?_
    subst h
    exact r_zret dX11_isBin_15 (Or.inl rfl)
  · have h := ie h c
    refine r_iload_n (pc := 4) dX11_isBin_4 rfl 0 rfl ?_
    refine r_bipush (pc := 5) dX11_isBin_5 kc_bipush_16 ?_
    refine r_icmp_ge (pc := 7) (tgt := 14) dX11_isBin_7 rfl (fun c => ?_) (fun c => ?_)
    · have h := it h c
      refine r_iconst (pc := 14) dX11_isBin_14 kc_iconst_0 ?_
      subst h
      exact r_zret dX11_isBin_15 (Or.inl rfl)
    · have h := ie h c
      refine r_iconst (pc := 10) dX11_isBin_10 kc_iconst_1 ?_
      refine r_goto (pc := 11) (tgt := 15) dX11_isBin_11 rfl ?_
      subst h
      exact r_zret dX11_isBin_15 (Or.inr rfl)
abbrev WX11_isPlan (G : Gx) (l : Launch) (σ0 : Shp) (X1 : Stt) (rv : Option SV) : Stt → Nat → List (Nat × SV) → List SV → Prop := Wm G l yX11_isPlan cX11_isPlan 1 (some .boolean) (fun _ => True) (rmx 0 0 σ0 X1.1) σ0 (Qmx G σ0 X1 rv)
def fX11_isPlan  (x0 : Int32) : (Int32) :=
  if x0 < 0 then
    (0 : Int32)
  else
    if (4 : Int32) ≤ x0 then
      (0 : Int32)
    else
      (1 : Int32)
theorem zX11_isPlan  (x0 : Int32) : fX11_isPlan x0 = 0 ∨ fX11_isPlan x0 = 1 := by
  unfold fX11_isPlan
  repeat' (first | refine itz ?_ ?_ | exact Or.inl rfl | exact Or.inr rfl)
theorem kX11_isPlan {G : Gx} {l : Launch} {σ : Shp} {I : Nat → Nat → Int32} {J : Nat → Nat → Int64} {D : Nat → Nat → UInt64} {R : Nat → Nat → Option Nat} {x0 : Int32} {r9 : Int32} (h : fX11_isPlan x0 = r9) : Con G l yX11_isPlan cX11_isPlan 1 (some .boolean) 0 0 [vI x0] (σ, I, J, D, R) (σ, I, J, D, R) (some (vI r9)) := by
  unfold fX11_isPlan at h
  refine Con.mk (by decide +kernel) rfl (Nat.le_of_ble_eq_true rfl) ?_
  show WX11_isPlan G l σ (σ, I, J, D, R) (some (vI r9)) (σ, I, J, D, R) 0 _ []
  refine r_iload_n (pc := 0) dX11_isPlan_0 rfl 0 rfl ?_
  refine r_if_lt (pc := 1) (tgt := 13) dX11_isPlan_1 rfl (fun c => ?_) (fun c => ?_)
  · have h := it h c
    refine r_iconst (pc := 13) dX11_isPlan_13 kc_iconst_0 ?_
    subst h
    exact r_zret dX11_isPlan_14 (Or.inl rfl)
  · have h := ie h c
    refine r_iload_n (pc := 4) dX11_isPlan_4 rfl 0 rfl ?_
    refine r_iconst (pc := 5) dX11_isPlan_5 kc_iconst_4 ?_
    refine r_icmp_ge (pc := 6) (tgt := 13) dX11_isPlan_6 rfl (fun c => ?_) (fun c => ?_)
    · have h := it h c
      refine r_iconst (pc := 13) dX11_isPlan_13 kc_iconst_0 ?_
      subst h
      exact r_zret dX11_isPlan_14 (Or.inl rfl)
    · have h := ie h c
      refine r_iconst (pc := 9) dX11_isPlan_9 kc_iconst_1 ?_
      refine r_goto (pc := 10) (tgt := 14) dX11_isPlan_10 rfl ?_
      subst h
      exact r_zret dX11_isPlan_14 (Or.inr rfl)
abbrev WX11_isValve (G : Gx) (l : Launch) (σ0 : Shp) (X1 : Stt) (rv : Option SV) : Stt → Nat → List (Nat × SV) → List SV → Prop := Wm G l yX11_isValve cX11_isValve 1 (some .boolean) (fun _ => True) (rmx 0 0 σ0 X1.1) σ0 (Qmx G σ0 X1 rv)
def fX11_isValve  (x0 : Int32) : (Int32) :=
  if x0 < 0 then
    (0 : Int32)
  else
    if (3 : Int32) ≤ x0 then
      (0 : Int32)
    else
      (1 : Int32)
theorem zX11_isValve  (x0 : Int32) : fX11_isValve x0 = 0 ∨ fX11_isValve x0 = 1 := by
  unfold fX11_isValve
  repeat' (first | refine itz ?_ ?_ | exact Or.inl rfl | exact Or.inr rfl)
theorem kX11_isValve {G : Gx} {l : Launch} {σ : Shp} {I : Nat → Nat → Int32} {J : Nat → Nat → Int64} {D : Nat → Nat → UInt64} {R : Nat → Nat → Option Nat} {x0 : Int32} {r9 : Int32} (h : fX11_isValve x0 = r9) : Con G l yX11_isValve cX11_isValve 1 (some .boolean) 0 0 [vI x0] (σ, I, J, D, R) (σ, I, J, D, R) (some (vI r9)) := by
  unfold fX11_isValve at h
  refine Con.mk (by decide +kernel) rfl (Nat.le_of_ble_eq_true rfl) ?_
  show WX11_isValve G l σ (σ, I, J, D, R) (some (vI r9)) (σ, I, J, D, R) 0 _ []
  refine r_iload_n (pc := 0) dX11_isValve_0 rfl 0 rfl ?_
  refine r_if_lt (pc := 1) (tgt := 13) dX11_isValve_1 rfl (fun c => ?_) (fun c => ?_)
  · have h := it h c
    refine r_iconst (pc := 13) dX11_isValve_13 kc_iconst_0 ?_
    subst h
    exact r_zret dX11_isValve_14 (Or.inl rfl)
  · have h := ie h c
    refine r_iload_n (pc := 4) dX11_isValve_4 rfl 0 rfl ?_
    refine r_iconst (pc := 5) dX11_isValve_5 kc_iconst_3 ?_
    refine r_icmp_ge (pc := 6) (tgt := 13) dX11_isValve_6 rfl (fun c => ?_) (fun c => ?_)
    · have h := it h c
      refine r_iconst (pc := 13) dX11_isValve_13 kc_iconst_0 ?_
      subst h
      exact r_zret dX11_isValve_14 (Or.inl rfl)
    · have h := ie h c
      refine r_iconst (pc := 9) dX11_isValve_9 kc_iconst_1 ?_
      refine r_goto (pc := 10) (tgt := 14) dX11_isValve_10 rfl ?_
      subst h
      exact r_zret dX11_isValve_14 (Or.inr rfl)
abbrev WX7_firstNumberFits (G : Gx) (l : Launch) (σ0 : Shp) (X1 : Stt) (rv : Option SV) : Stt → Nat → List (Nat × SV) → List SV → Prop := Wm G l yX7_firstNumberFits cX7_firstNumberFits 2 (some .boolean) (fun _ => True) (rmx 1 20 σ0 X1.1) σ0 (Qmx G σ0 X1 rv)
def fX7_firstNumberFits  (x0 : Int32) (x1 : Int32) : (Int32) :=
  if x0 = (1 : Int32) then
    (fX11_isStock x1)
  else
  if x0 = (2 : Int32) then
    (fX11_isStock x1)
  else
  if x0 = (3 : Int32) then
    (fX11_isBin x1)
  else
  if x0 = (4 : Int32) then
    (fX11_isBin x1)
  else
  if x0 = (5 : Int32) then
    (fX11_isBin x1)
  else
  if x0 = (6 : Int32) then
    (fX11_isBin x1)
  else
  if x0 = (7 : Int32) then
    (1 : Int32)
  else
  if x0 = (8 : Int32) then
    (1 : Int32)
  else
  if x0 = (9 : Int32) then
    (fX11_isValve x1)
  else
  if x0 = (10 : Int32) then
    (fX11_isPlan x1)
  else
  if x0 = (11 : Int32) then
    (fX11_isValve x1)
  else
  if x0 = (12 : Int32) then
    (fX11_isStock x1)
  else
  if x0 = (13 : Int32) then
    (fX11_isValve x1)
  else
  if x0 = (14 : Int32) then
    (1 : Int32)
  else
  if x0 = (15 : Int32) then
    (1 : Int32)
  else
  if x0 = (16 : Int32) then
    (1 : Int32)
  else
  if x0 = (17 : Int32) then
    (1 : Int32)
  else
  if x0 = (18 : Int32) then
    (1 : Int32)
  else
  if x0 = (19 : Int32) then
    (fX11_isStock x1)
  else
  if x0 = (20 : Int32) then
    (fX11_isStock x1)
  else
  (1 : Int32)
theorem zX7_firstNumberFits  (x0 : Int32) (x1 : Int32) : fX7_firstNumberFits x0 x1 = 0 ∨ fX7_firstNumberFits x0 x1 = 1 := by
  unfold fX7_firstNumberFits
  repeat' (first | refine itz ?_ ?_ | exact Or.inl rfl | exact Or.inr rfl | exact zX11_isBin _ | exact zX11_isPlan _ | exact zX11_isStock _ | exact zX11_isValve _)
theorem kX7_firstNumberFits {G : Gx} {l : Launch} {σ : Shp} {I : Nat → Nat → Int32} {J : Nat → Nat → Int64} {D : Nat → Nat → UInt64} {R : Nat → Nat → Option Nat} {x0 : Int32} {x1 : Int32} {r9 : Int32} (h : fX7_firstNumberFits x0 x1 = r9) : Con G l yX7_firstNumberFits cX7_firstNumberFits 2 (some .boolean) 1 20 [vI x0, vI x1] (σ, I, J, D, R) (σ, I, J, D, R) (some (vI r9)) := by
  unfold fX7_firstNumberFits at h
  refine Con.mk (by decide +kernel) rfl (Nat.le_of_ble_eq_true rfl) ?_
  show WX7_firstNumberFits G l σ (σ, I, J, D, R) (some (vI r9)) (σ, I, J, D, R) 0 _ []
  refine r_iload_n (pc := 0) dX7_firstNumberFits_0 rfl 0 rfl ?_
  rcases itc h with ⟨c1, h⟩ | ⟨c1, h⟩
  · refine r_tsIn (x := x0) (pc := 1) (tgt := 96) dX7_firstNumberFits_1 (by rw [c1]; decide) (by rw [c1]; decide) (by rw [c1]; rfl) rfl ?_
    refine r_iload_n (pc := 96) dX7_firstNumberFits_96 rfl 1 rfl ?_
    refine r_callSN1 (pc := 97) (av := [vI x1]) (S := []) dX7_firstNumberFits_97 (kX11_isStock rfl) nkX7_165 mwX11_isStock rfl ⟨Nat.le_of_ble_eq_true rfl, Nat.le_of_ble_eq_true rfl⟩ (Nat.le_of_ble_eq_true rfl) ⟨Nat.le_refl _, Nat.le_refl _⟩ (fun b => b) ?_
    subst h
    exact r_zret dX7_firstNumberFits_100 (zX11_isStock x1)
  · rcases itc h with ⟨c2, h⟩ | ⟨c2, h⟩
    · refine r_tsIn (x := x0) (pc := 1) (tgt := 96) dX7_firstNumberFits_1 (by rw [c2]; decide) (by rw [c2]; decide) (by rw [c2]; rfl) rfl ?_
      refine r_iload_n (pc := 96) dX7_firstNumberFits_96 rfl 1 rfl ?_
      refine r_callSN1 (pc := 97) (av := [vI x1]) (S := []) dX7_firstNumberFits_97 (kX11_isStock rfl) nkX7_165 mwX11_isStock rfl ⟨Nat.le_of_ble_eq_true rfl, Nat.le_of_ble_eq_true rfl⟩ (Nat.le_of_ble_eq_true rfl) ⟨Nat.le_refl _, Nat.le_refl _⟩ (fun b => b) ?_
      subst h
      exact r_zret dX7_firstNumberFits_100 (zX11_isStock x1)
    · rcases itc h with ⟨c3, h⟩ | ⟨c3, h⟩
      · refine r_tsIn (x := x0) (pc := 1) (tgt := 101) dX7_firstNumberFits_1 (by rw [c3]; decide) (by rw [c3]; decide) (by rw [c3]; rfl) rfl ?_
        refine r_iload_n (pc := 101) dX7_firstNumberFits_101 rfl 1 rfl ?_
        refine r_callSN1 (pc := 102) (av := [vI x1]) (S := []) dX7_firstNumberFits_102 (kX11_isBin rfl) nkX7_169 mwX11_isBin rfl ⟨Nat.le_of_ble_eq_true rfl, Nat.le_of_ble_eq_true rfl⟩ (Nat.le_of_ble_eq_true rfl) ⟨Nat.le_refl _, Nat.le_refl _⟩ (fun b => b) ?_
        subst h
        exact r_zret dX7_firstNumberFits_105 (zX11_isBin x1)
      · rcases itc h with ⟨c4, h⟩ | ⟨c4, h⟩
        · refine r_tsIn (x := x0) (pc := 1) (tgt := 101) dX7_firstNumberFits_1 (by rw [c4]; decide) (by rw [c4]; decide) (by rw [c4]; rfl) rfl ?_
          refine r_iload_n (pc := 101) dX7_firstNumberFits_101 rfl 1 rfl ?_
          refine r_callSN1 (pc := 102) (av := [vI x1]) (S := []) dX7_firstNumberFits_102 (kX11_isBin rfl) nkX7_169 mwX11_isBin rfl ⟨Nat.le_of_ble_eq_true rfl, Nat.le_of_ble_eq_true rfl⟩ (Nat.le_of_ble_eq_true rfl) ⟨Nat.le_refl _, Nat.le_refl _⟩ (fun b => b) ?_
          subst h
          exact r_zret dX7_firstNumberFits_105 (zX11_isBin x1)
        · rcases itc h with ⟨c5, h⟩ | ⟨c5, h⟩
          · refine r_tsIn (x := x0) (pc := 1) (tgt := 101) dX7_firstNumberFits_1 (by rw [c5]; decide) (by rw [c5]; decide) (by rw [c5]; rfl) rfl ?_
            refine r_iload_n (pc := 101) dX7_firstNumberFits_101 rfl 1 rfl ?_
            refine r_callSN1 (pc := 102) (av := [vI x1]) (S := []) dX7_firstNumberFits_102 (kX11_isBin rfl) nkX7_169 mwX11_isBin rfl ⟨Nat.le_of_ble_eq_true rfl, Nat.le_of_ble_eq_true rfl⟩ (Nat.le_of_ble_eq_true rfl) ⟨Nat.le_refl _, Nat.le_refl _⟩ (fun b => b) ?_
            subst h
            exact r_zret dX7_firstNumberFits_105 (zX11_isBin x1)
          · rcases itc h with ⟨c6, h⟩ | ⟨c6, h⟩
            · refine r_tsIn (x := x0) (pc := 1) (tgt := 101) dX7_firstNumberFits_1 (by rw [c6]; decide) (by rw [c6]; decide) (by rw [c6]; rfl) rfl ?_
              refine r_iload_n (pc := 101) dX7_firstNumberFits_101 rfl 1 rfl ?_
              refine r_callSN1 (pc := 102) (av := [vI x1]) (S := []) dX7_firstNumberFits_102 (kX11_isBin rfl) nkX7_169 mwX11_isBin rfl ⟨Nat.le_of_ble_eq_true rfl, Nat.le_of_ble_eq_true rfl⟩ (Nat.le_of_ble_eq_true rfl) ⟨Nat.le_refl _, Nat.le_refl _⟩ (fun b => b) ?_
              subst h
              exact r_zret dX7_firstNumberFits_105 (zX11_isBin x1)
            · rcases itc h with ⟨c7, h⟩ | ⟨c7, h⟩
              · refine r_tsIn (x := x0) (pc := 1) (tgt := 116) dX7_firstNumberFits_1 (by rw [c7]; decide) (by rw [c7]; decide) (by rw [c7]; rfl) rfl ?_
                refine r_iconst (pc := 116) dX7_firstNumberFits_116 kc_iconst_1 ?_
                subst h
                exact r_zret dX7_firstNumberFits_117 (Or.inr rfl)
              · rcases itc h with ⟨c8, h⟩ | ⟨c8, h⟩
                · refine r_tsIn (x := x0) (pc := 1) (tgt := 116) dX7_firstNumberFits_1 (by rw [c8]; decide) (by rw [c8]; decide) (by rw [c8]; rfl) rfl ?_
                  refine r_iconst (pc := 116) dX7_firstNumberFits_116 kc_iconst_1 ?_
                  subst h
                  exact r_zret dX7_firstNumberFits_117 (Or.inr rfl)
                · rcases itc h with ⟨c9, h⟩ | ⟨c9, h⟩
                  · refine r_tsIn (x := x0) (pc := 1) (tgt := 106) dX7_firstNumberFits_1 (by rw [c9]; decide) (by rw [c9]; decide) (by rw [c9]; rfl) rfl ?_
                    refine r_iload_n (pc := 106) dX7_firstNumberFits_106 rfl 1 rfl ?_
                    refine r_callSN1 (pc := 107) (av := [vI x1]) (S := []) dX7_firstNumberFits_107 (kX11_isValve rfl) nkX7_172 mwX11_isValve rfl ⟨Nat.le_of_ble_eq_true rfl, Nat.le_of_ble_eq_true rfl⟩ (Nat.le_of_ble_eq_true rfl) ⟨Nat.le_refl _, Nat.le_refl _⟩ (fun b => b) ?_
                    subst h
                    exact r_zret dX7_firstNumberFits_110 (zX11_isValve x1)
                  · rcases itc h with ⟨c10, h⟩ | ⟨c10, h⟩
                    · refine r_tsIn (x := x0) (pc := 1) (tgt := 111) dX7_firstNumberFits_1 (by rw [c10]; decide) (by rw [c10]; decide) (by rw [c10]; rfl) rfl ?_
                      refine r_iload_n (pc := 111) dX7_firstNumberFits_111 rfl 1 rfl ?_
                      refine r_callSN1 (pc := 112) (av := [vI x1]) (S := []) dX7_firstNumberFits_112 (kX11_isPlan rfl) nkX7_175 mwX11_isPlan rfl ⟨Nat.le_of_ble_eq_true rfl, Nat.le_of_ble_eq_true rfl⟩ (Nat.le_of_ble_eq_true rfl) ⟨Nat.le_refl _, Nat.le_refl _⟩ (fun b => b) ?_
                      subst h
                      exact r_zret dX7_firstNumberFits_115 (zX11_isPlan x1)
                    · rcases itc h with ⟨c11, h⟩ | ⟨c11, h⟩
                      · refine r_tsIn (x := x0) (pc := 1) (tgt := 106) dX7_firstNumberFits_1 (by rw [c11]; decide) (by rw [c11]; decide) (by rw [c11]; rfl) rfl ?_
                        refine r_iload_n (pc := 106) dX7_firstNumberFits_106 rfl 1 rfl ?_
                        refine r_callSN1 (pc := 107) (av := [vI x1]) (S := []) dX7_firstNumberFits_107 (kX11_isValve rfl) nkX7_172 mwX11_isValve rfl ⟨Nat.le_of_ble_eq_true rfl, Nat.le_of_ble_eq_true rfl⟩ (Nat.le_of_ble_eq_true rfl) ⟨Nat.le_refl _, Nat.le_refl _⟩ (fun b => b) ?_
                        subst h
                        exact r_zret dX7_firstNumberFits_110 (zX11_isValve x1)
                      · rcases itc h with ⟨c12, h⟩ | ⟨c12, h⟩
                        · refine r_tsIn (x := x0) (pc := 1) (tgt := 96) dX7_firstNumberFits_1 (by rw [c12]; decide) (by rw [c12]; decide) (by rw [c12]; rfl) rfl ?_
                          refine r_iload_n (pc := 96) dX7_firstNumberFits_96 rfl 1 rfl ?_
                          refine r_callSN1 (pc := 97) (av := [vI x1]) (S := []) dX7_firstNumberFits_97 (kX11_isStock rfl) nkX7_165 mwX11_isStock rfl ⟨Nat.le_of_ble_eq_true rfl, Nat.le_of_ble_eq_true rfl⟩ (Nat.le_of_ble_eq_true rfl) ⟨Nat.le_refl _, Nat.le_refl _⟩ (fun b => b) ?_
                          subst h
                          exact r_zret dX7_firstNumberFits_100 (zX11_isStock x1)
                        · rcases itc h with ⟨c13, h⟩ | ⟨c13, h⟩
                          · refine r_tsIn (x := x0) (pc := 1) (tgt := 106) dX7_firstNumberFits_1 (by rw [c13]; decide) (by rw [c13]; decide) (by rw [c13]; rfl) rfl ?_
                            refine r_iload_n (pc := 106) dX7_firstNumberFits_106 rfl 1 rfl ?_
                            refine r_callSN1 (pc := 107) (av := [vI x1]) (S := []) dX7_firstNumberFits_107 (kX11_isValve rfl) nkX7_172 mwX11_isValve rfl ⟨Nat.le_of_ble_eq_true rfl, Nat.le_of_ble_eq_true rfl⟩ (Nat.le_of_ble_eq_true rfl) ⟨Nat.le_refl _, Nat.le_refl _⟩ (fun b => b) ?_
                            subst h
                            exact r_zret dX7_firstNumberFits_110 (zX11_isValve x1)
                          · rcases itc h with ⟨c14, h⟩ | ⟨c14, h⟩
                            · refine r_tsIn (x := x0) (pc := 1) (tgt := 116) dX7_firstNumberFits_1 (by rw [c14]; decide) (by rw [c14]; decide) (by rw [c14]; rfl) rfl ?_
                              refine r_iconst (pc := 116) dX7_firstNumberFits_116 kc_iconst_1 ?_
                              subst h
                              exact r_zret dX7_firstNumberFits_117 (Or.inr rfl)
                            · rcases itc h with ⟨c15, h⟩ | ⟨c15, h⟩
                              · refine r_tsIn (x := x0) (pc := 1) (tgt := 116) dX7_firstNumberFits_1 (by rw [c15]; decide) (by rw [c15]; decide) (by rw [c15]; rfl) rfl ?_
                                refine r_iconst (pc := 116) dX7_firstNumberFits_116 kc_iconst_1 ?_
                                subst h
                                exact r_zret dX7_firstNumberFits_117 (Or.inr rfl)
                              · rcases itc h with ⟨c16, h⟩ | ⟨c16, h⟩
                                · refine r_tsIn (x := x0) (pc := 1) (tgt := 116) dX7_firstNumberFits_1 (by rw [c16]; decide) (by rw [c16]; decide) (by rw [c16]; rfl) rfl ?_
                                  refine r_iconst (pc := 116) dX7_firstNumberFits_116 kc_iconst_1 ?_
                                  subst h
                                  exact r_zret dX7_firstNumberFits_117 (Or.inr rfl)
                                · rcases itc h with ⟨c17, h⟩ | ⟨c17, h⟩
                                  · refine r_tsIn (x := x0) (pc := 1) (tgt := 116) dX7_firstNumberFits_1 (by rw [c17]; decide) (by rw [c17]; decide) (by rw [c17]; rfl) rfl ?_
                                    refine r_iconst (pc := 116) dX7_firstNumberFits_116 kc_iconst_1 ?_
                                    subst h
                                    exact r_zret dX7_firstNumberFits_117 (Or.inr rfl)
                                  · rcases itc h with ⟨c18, h⟩ | ⟨c18, h⟩
                                    · refine r_tsIn (x := x0) (pc := 1) (tgt := 116) dX7_firstNumberFits_1 (by rw [c18]; decide) (by rw [c18]; decide) (by rw [c18]; rfl) rfl ?_
                                      refine r_iconst (pc := 116) dX7_firstNumberFits_116 kc_iconst_1 ?_
                                      subst h
                                      exact r_zret dX7_firstNumberFits_117 (Or.inr rfl)
                                    · rcases itc h with ⟨c19, h⟩ | ⟨c19, h⟩
                                      · refine r_tsIn (x := x0) (pc := 1) (tgt := 96) dX7_firstNumberFits_1 (by rw [c19]; decide) (by rw [c19]; decide) (by rw [c19]; rfl) rfl ?_
                                        refine r_iload_n (pc := 96) dX7_firstNumberFits_96 rfl 1 rfl ?_
                                        refine r_callSN1 (pc := 97) (av := [vI x1]) (S := []) dX7_firstNumberFits_97 (kX11_isStock rfl) nkX7_165 mwX11_isStock rfl ⟨Nat.le_of_ble_eq_true rfl, Nat.le_of_ble_eq_true rfl⟩ (Nat.le_of_ble_eq_true rfl) ⟨Nat.le_refl _, Nat.le_refl _⟩ (fun b => b) ?_
                                        subst h
                                        exact r_zret dX7_firstNumberFits_100 (zX11_isStock x1)
                                      · rcases itc h with ⟨c20, h⟩ | ⟨c20, h⟩
                                        · refine r_tsIn (x := x0) (pc := 1) (tgt := 96) dX7_firstNumberFits_1 (by rw [c20]; decide) (by rw [c20]; decide) (by rw [c20]; rfl) rfl ?_
                                          refine r_iload_n (pc := 96) dX7_firstNumberFits_96 rfl 1 rfl ?_
                                          refine r_callSN1 (pc := 97) (av := [vI x1]) (S := []) dX7_firstNumberFits_97 (kX11_isStock rfl) nkX7_165 mwX11_isStock rfl ⟨Nat.le_of_ble_eq_true rfl, Nat.le_of_ble_eq_true rfl⟩ (Nat.le_of_ble_eq_true rfl) ⟨Nat.le_refl _, Nat.le_refl _⟩ (fun b => b) ?_
                                          subst h
                                          exact r_zret dX7_firstNumberFits_100 (zX11_isStock x1)
                                        · refine r_tsOut (x := x0) (pc := 1) (tgt := 116) dX7_firstNumberFits_1 (by have ec1 := i32n c1 (k := 1) rfl; have ec2 := i32n c2 (k := 2) rfl; have ec3 := i32n c3 (k := 3) rfl; have ec4 := i32n c4 (k := 4) rfl; have ec5 := i32n c5 (k := 5) rfl; have ec6 := i32n c6 (k := 6) rfl; have ec7 := i32n c7 (k := 7) rfl; have ec8 := i32n c8 (k := 8) rfl; have ec9 := i32n c9 (k := 9) rfl; have ec10 := i32n c10 (k := 10) rfl; have ec11 := i32n c11 (k := 11) rfl; have ec12 := i32n c12 (k := 12) rfl; have ec13 := i32n c13 (k := 13) rfl; have ec14 := i32n c14 (k := 14) rfl; have ec15 := i32n c15 (k := 15) rfl; have ec16 := i32n c16 (k := 16) rfl; have ec17 := i32n c17 (k := 17) rfl; have ec18 := i32n c18 (k := 18) rfl; have ec19 := i32n c19 (k := 19) rfl; have ec20 := i32n c20 (k := 20) rfl; omega) rfl ?_
                                          refine r_iconst (pc := 116) dX7_firstNumberFits_116 kc_iconst_1 ?_
                                          subst h
                                          exact r_zret dX7_firstNumberFits_117 (Or.inr rfl)
abbrev WX11_goesFor (G : Gx) (l : Launch) (σ0 : Shp) (X1 : Stt) (rv : Option SV) : Stt → Nat → List (Nat × SV) → List SV → Prop := Wm G l yX11_goesFor cX11_goesFor 2 (some .boolean) (fun _ => True) (rmx 0 0 σ0 X1.1) σ0 (Qmx G σ0 X1 rv)
def fX11_goesFor (σ : Shp) (I : Nat → Nat → Int32) (x0 : Option Nat) (x1 : Int32) : Option ((Int32)) :=
  onl x0
    (
      some (1 : Int32))
    (fun a1 =>
      if kdx σ a1 = 11 then
      if (I a1 0) = x1 then
        some (1 : Int32)
      else
        some (0 : Int32)
      else none)
theorem kX11_goesFor {G : Gx} {l : Launch} {σ : Shp} {I : Nat → Nat → Int32} {J : Nat → Nat → Int64} {D : Nat → Nat → UInt64} {R : Nat → Nat → Option Nat} {x0 : Option Nat} {x1 : Int32} {r9 : Int32} (h : fX11_goesFor σ I x0 x1 = some r9) : Con G l yX11_goesFor cX11_goesFor 2 (some .boolean) 0 0 [vR x0, vI x1] (σ, I, J, D, R) (σ, I, J, D, R) (some (vI r9)) := by
  unfold fX11_goesFor at h
  refine Con.mk (by decide +kernel) rfl (Nat.le_of_ble_eq_true rfl) ?_
  show WX11_goesFor G l σ (σ, I, J, D, R) (some (vI r9)) (σ, I, J, D, R) 0 _ []
  refine r_aload_n (pc := 0) dX11_goesFor_0 rfl 0 rfl ?_
  rcases onl_c h with ⟨ea1, h⟩ | ⟨a1, ha1, h⟩
  · refine r_ref0n ea1 ?_
    refine r_ifnull_n (pc := 1) (tgt := 12) dX11_goesFor_1 rfl ?_
    refine r_iconst (pc := 12) dX11_goesFor_12 kc_iconst_1 ?_
    refine r_goto (pc := 13) (tgt := 17) dX11_goesFor_13 rfl ?_
    cases h
    exact r_zret dX11_goesFor_17 (Or.inr rfl)
  · refine r_ref0 ha1 ?_
    refine r_ifnull_s (pc := 1) dX11_goesFor_1 ?_
    refine r_aload_n (pc := 4) dX11_goesFor_4 rfl 0 rfl ?_
    refine r_ref0 ha1 ?_
    obtain ⟨g2, h⟩ := gd h
    refine r_getI (pc := 5) dX11_goesFor_5 fgX11_113 rfl g2 ?_
    refine r_iload_n (pc := 8) dX11_goesFor_8 rfl 1 rfl ?_
    refine r_icmp_ne (pc := 9) (tgt := 16) dX11_goesFor_9 rfl (fun c => ?_) (fun c => ?_)
    · have h := ie h c
      refine r_iconst (pc := 16) dX11_goesFor_16 kc_iconst_0 ?_
      cases h
      exact r_zret dX11_goesFor_17 (Or.inl rfl)
    · have h := it h c
      refine r_iconst (pc := 12) dX11_goesFor_12 kc_iconst_1 ?_
      refine r_goto (pc := 13) (tgt := 17) dX11_goesFor_13 rfl ?_
      cases h
      exact r_zret dX11_goesFor_17 (Or.inr rfl)
abbrev WX11_takenFault (G : Gx) (l : Launch) (σ0 : Shp) (X1 : Stt) (rv : Option SV) : Stt → Nat → List (Nat × SV) → List SV → Prop := Wm G l yX11_takenFault cX11_takenFault 2 (some .int) (fun _ => True) (rmx 1 21 σ0 X1.1) σ0 (Qmx G σ0 X1 rv)
def fX11_takenFault (σ : Shp) (I : Nat → Nat → Int32) (x0 : Option Nat) (x1 : Int32) : Option ((Int32)) :=
  (fX11_goesFor σ I x0 x1).bind fun r1 =>
  if r1 = 0 then
    some (4 : Int32)
  else
    onl x0
      (
        some (1 : Int32))
      (fun a3 =>
        some (0 : Int32))
theorem kX11_takenFault {G : Gx} {l : Launch} {σ : Shp} {I : Nat → Nat → Int32} {J : Nat → Nat → Int64} {D : Nat → Nat → UInt64} {R : Nat → Nat → Option Nat} {x0 : Option Nat} {x1 : Int32} {r9 : Int32} (h : fX11_takenFault σ I x0 x1 = some r9) : Con G l yX11_takenFault cX11_takenFault 2 (some .int) 1 21 [vR x0, vI x1] (σ, I, J, D, R) (σ, I, J, D, R) (some (vI r9)) := by
  unfold fX11_takenFault at h
  refine Con.mk (by decide +kernel) rfl (Nat.le_of_ble_eq_true rfl) ?_
  show WX11_takenFault G l σ (σ, I, J, D, R) (some (vI r9)) (σ, I, J, D, R) 0 _ []
  refine r_aload_n (pc := 0) dX11_takenFault_0 rfl 0 rfl ?_
  refine r_iload_n (pc := 1) dX11_takenFault_1 rfl 1 rfl ?_
  obtain ⟨r1, hc2, h⟩ := ob h
  refine r_callS1 (pc := 2) (av := [vR x0, vI x1]) (S := []) dX11_takenFault_2 (kX11_goesFor hc2) mkX11_164 mwX11_goesFor rfl ⟨Nat.le_of_ble_eq_true rfl, Nat.le_of_ble_eq_true rfl⟩ (Nat.le_of_ble_eq_true rfl) ⟨Nat.le_refl _, Nat.le_refl _⟩ (fun b => b) ?_
  refine r_ifne (pc := 5) (tgt := 10) dX11_takenFault_5 rfl (fun c => ?_) (fun c => ?_)
  · have h := ie h c
    refine r_aload_n (pc := 10) dX11_takenFault_10 rfl 0 rfl ?_
    rcases onl_c h with ⟨ea3, h⟩ | ⟨a3, ha3, h⟩
    · refine r_ref0n ea3 ?_
      refine r_ifnonnull_n (pc := 11) dX11_takenFault_11 ?_
      refine r_iconst (pc := 14) dX11_takenFault_14 kc_iconst_1 ?_
      refine r_goto (pc := 15) (tgt := 19) dX11_takenFault_15 rfl ?_
      cases h
      exact r_iret dX11_takenFault_19
    · refine r_ref0 ha3 ?_
      refine r_ifnonnull_s (pc := 11) (tgt := 18) dX11_takenFault_11 rfl ?_
      refine r_iconst (pc := 18) dX11_takenFault_18 kc_iconst_0 ?_
      cases h
      exact r_iret dX11_takenFault_19
  · have h := it h c
    refine r_iconst (pc := 8) dX11_takenFault_8 kc_iconst_4 ?_
    cases h
    exact r_iret dX11_takenFault_9
abbrev WX11_cellFault (G : Gx) (l : Launch) (σ0 : Shp) (X1 : Stt) (rv : Option SV) : Stt → Nat → List (Nat × SV) → List SV → Prop := Wm G l yX11_cellFault cX11_cellFault 4 (some .int) (fun _ => True) (rmx 2 42 σ0 X1.1) σ0 (Qmx G σ0 X1 rv)
def fX11_cellFault (σ : Shp) (I : Nat → Nat → Int32) (R : Nat → Nat → Option Nat) (x0 : Option Nat) (x1 : Int32) (x2 : Int32) : Option ((Int32)) :=
  (fX11_takenFault σ I x0 x1).bind fun r1 =>
  if r1 = 0 then
    onl x0
      (
        some r1)
      (fun a3 =>
        if x2 < 0 then
          some (2 : Int32)
        else
          if kdx σ a3 = 11 then
          ((R a3 1) : Option Nat).bind fun a5 =>
          if kdx σ a5 = 21 then
          if x2 < (Int32.ofNat (lnx σ a5)) then
            some (0 : Int32)
          else
            some (2 : Int32)
          else none
          else none)
  else
    some r1
theorem kX11_cellFault {G : Gx} {l : Launch} {σ : Shp} {I : Nat → Nat → Int32} {J : Nat → Nat → Int64} {D : Nat → Nat → UInt64} {R : Nat → Nat → Option Nat} {x0 : Option Nat} {x1 : Int32} {x2 : Int32} {r9 : Int32} (h : fX11_cellFault σ I R x0 x1 x2 = some r9) : Con G l yX11_cellFault cX11_cellFault 4 (some .int) 2 42 [vR x0, vI x1, vI x2] (σ, I, J, D, R) (σ, I, J, D, R) (some (vI r9)) := by
  unfold fX11_cellFault at h
  refine Con.mk (by decide +kernel) rfl (Nat.le_of_ble_eq_true rfl) ?_
  show WX11_cellFault G l σ (σ, I, J, D, R) (some (vI r9)) (σ, I, J, D, R) 0 _ []
  refine r_aload_n (pc := 0) dX11_cellFault_0 rfl 0 rfl ?_
  refine r_iload_n (pc := 1) dX11_cellFault_1 rfl 1 rfl ?_
  obtain ⟨r1, hc2, h⟩ := ob h
  refine r_callS1 (pc := 2) (av := [vR x0, vI x1]) (S := []) dX11_cellFault_2 (kX11_takenFault hc2) mkX11_267 mwX11_takenFault rfl ⟨Nat.le_of_ble_eq_true rfl, Nat.le_of_ble_eq_true rfl⟩ (Nat.le_of_ble_eq_true rfl) ⟨Nat.le_refl _, Nat.le_refl _⟩ (fun b => b) ?_
  refine r_istore_n (pc := 5) (L' := [(3, vI r1), (0, vR x0), (1, vI x1), (2, vI x2)]) dX11_cellFault_5 rfl (by decide) rfl ?_
  refine r_iload_n (pc := 6) dX11_cellFault_6 rfl 0 rfl ?_
  refine r_ifne (pc := 7) (tgt := 14) dX11_cellFault_7 rfl (fun c => ?_) (fun c => ?_)
  · have h := ie h c
    refine r_iload_n (pc := 14) dX11_cellFault_14 rfl 0 rfl ?_
    cases h
    exact r_iret dX11_cellFault_15
  · have h := it h c
    refine r_aload_n (pc := 10) dX11_cellFault_10 rfl 1 rfl ?_
    rcases onl_c h with ⟨ea3, h⟩ | ⟨a3, ha3, h⟩
    · refine r_ref0n ea3 ?_
      refine r_ifnonnull_n (pc := 11) dX11_cellFault_11 ?_
      refine r_iload_n (pc := 14) dX11_cellFault_14 rfl 0 rfl ?_
      cases h
      exact r_iret dX11_cellFault_15
    · refine r_ref0 ha3 ?_
      refine r_ifnonnull_s (pc := 11) (tgt := 16) dX11_cellFault_11 rfl ?_
      refine r_iload_n (pc := 16) dX11_cellFault_16 rfl 3 rfl ?_
      refine r_if_lt (pc := 17) (tgt := 29) dX11_cellFault_17 rfl (fun c => ?_) (fun c => ?_)
      · have h := it h c
        refine r_iconst (pc := 29) dX11_cellFault_29 kc_iconst_2 ?_
        refine r_goto (pc := 30) (tgt := 34) dX11_cellFault_30 rfl ?_
        cases h
        exact r_iret dX11_cellFault_34
      · have h := ie h c
        refine r_iload_n (pc := 20) dX11_cellFault_20 rfl 3 rfl ?_
        refine r_aload_n (pc := 21) dX11_cellFault_21 rfl 1 rfl ?_
        refine r_ref0 ha3 ?_
        obtain ⟨g4, h⟩ := gd h
        obtain ⟨a5, ha5, h⟩ := ob h
        refine r_getS (pc := 22) dX11_cellFault_22 fgX11_134 rfl g4 ha5 ?_
        obtain ⟨g6, h⟩ := gd h
        refine r_alen (pc := 25) dX11_cellFault_25 g6 (by decide) ?_
        refine r_icmp_lt (pc := 26) (tgt := 33) dX11_cellFault_26 rfl (fun c => ?_) (fun c => ?_)
        · have h := it h c
          refine r_iconst (pc := 33) dX11_cellFault_33 kc_iconst_0 ?_
          cases h
          exact r_iret dX11_cellFault_34
        · have h := ie h c
          refine r_iconst (pc := 29) dX11_cellFault_29 kc_iconst_2 ?_
          refine r_goto (pc := 30) (tgt := 34) dX11_cellFault_30 rfl ?_
          cases h
          exact r_iret dX11_cellFault_34
abbrev WX8_changeCell (G : Gx) (l : Launch) (σ0 : Shp) (X1 : Stt) (rv : Option SV) : Stt → Nat → List (Nat × SV) → List SV → Prop := Wm G l yX8_changeCell cX8_changeCell 5 none (fun _ => True) (rmx 1 24 σ0 X1.1) σ0 (Qmx G σ0 X1 rv)
def fX8_changeCell (σ : Shp) (I : Nat → Nat → Int32) (J : Nat → Nat → Int64) (R : Nat → Nat → Option Nat) (t : Nat) (x1 : Option Nat) (x2 : Int32) (x3 : Int64) : Option ((Nat → Nat → Int32) × (Nat → Nat → Int64) × (Nat → Nat → Option Nat)) :=
  onl x1
    (
      some (I, J, R))
    (fun a1 =>
      if x2 < 0 then
        some (I, J, R)
      else
        if kdx σ a1 = 11 then
        ((R a1 1) : Option Nat).bind fun a3 =>
        if kdx σ a3 = 21 then
        if x2 < (Int32.ofNat (lnx σ a3)) then
          if ¬ (x2 < 0 ∨ lnx σ a3 ≤ Int32.toNatClampNeg x2) then
          if kdx σ t = 9 then
          (fX8_noteChange σ I J R t (some a1) x2 (J a3 (Int32.toNatClampNeg x2))).bind fun (I7, J8, R9) =>
          ((R9 a1 1) : Option Nat).bind fun a11 =>
          if kdx σ a11 = 21 then
          if ¬ (x2 < 0 ∨ lnx σ a11 ≤ Int32.toNatClampNeg x2) then
          let J14 := u2 J8 a11 (Int32.toNatClampNeg x2) x3
          some (I7, J14, R9)
          else none
          else none
          else none
          else none
        else
          some (I, J, R)
        else none
        else none)
theorem kX8_changeCell {G : Gx} {l : Launch} {σ : Shp} {I : Nat → Nat → Int32} {J : Nat → Nat → Int64} {D : Nat → Nat → UInt64} {R : Nat → Nat → Option Nat} {t : Nat} {x1 : Option Nat} {x2 : Int32} {x3 : Int64} {I9 : Nat → Nat → Int32} {J9 : Nat → Nat → Int64} {R9 : Nat → Nat → Option Nat} (h : fX8_changeCell σ I J R t x1 x2 x3 = some (I9, J9, R9)) : Con G l yX8_changeCell cX8_changeCell 5 none 1 24 [vR (some t), vR x1, vI x2, vL x3] (σ, I, J, D, R) (σ, I9, J9, D, R9) none := by
  unfold fX8_changeCell at h
  refine Con.mk (by decide +kernel) rfl (Nat.le_of_ble_eq_true rfl) ?_
  show WX8_changeCell G l σ (σ, I9, J9, D, R9) none (σ, I, J, D, R) 0 _ []
  refine r_aload_n (pc := 0) dX8_changeCell_0 rfl 1 rfl ?_
  rcases onl_c h with ⟨ea1, h⟩ | ⟨a1, ha1, h⟩
  · refine r_ref0n ea1 ?_
    refine r_ifnull_n (pc := 1) (tgt := 17) dX8_changeCell_1 rfl ?_
    cases h
    exact r_vret dX8_changeCell_17
  · refine r_ref0 ha1 ?_
    refine r_ifnull_s (pc := 1) dX8_changeCell_1 ?_
    refine r_iload_n (pc := 4) dX8_changeCell_4 rfl 2 rfl ?_
    refine r_if_lt (pc := 5) (tgt := 17) dX8_changeCell_5 rfl (fun c => ?_) (fun c => ?_)
    · have h := it h c
      cases h
      exact r_vret dX8_changeCell_17
    · have h := ie h c
      refine r_iload_n (pc := 8) dX8_changeCell_8 rfl 2 rfl ?_
      refine r_aload_n (pc := 9) dX8_changeCell_9 rfl 1 rfl ?_
      refine r_ref0 ha1 ?_
      obtain ⟨g2, h⟩ := gd h
      obtain ⟨a3, ha3, h⟩ := ob h
      refine r_getS (pc := 10) dX8_changeCell_10 fgX8_40 rfl g2 ha3 ?_
      obtain ⟨g4, h⟩ := gd h
      refine r_alen (pc := 13) dX8_changeCell_13 g4 (by decide) ?_
      refine r_icmp_lt (pc := 14) (tgt := 18) dX8_changeCell_14 rfl (fun c => ?_) (fun c => ?_)
      · have h := it h c
        refine r_aload_n (pc := 18) dX8_changeCell_18 rfl 0 rfl ?_
        refine r_aload_n (pc := 19) dX8_changeCell_19 rfl 1 rfl ?_
        refine r_ref0 ha1 ?_
        refine r_iload_n (pc := 20) dX8_changeCell_20 rfl 2 rfl ?_
        refine r_aload_n (pc := 21) dX8_changeCell_21 rfl 1 rfl ?_
        refine r_ref0 ha1 ?_
        refine r_getS (pc := 22) dX8_changeCell_22 fgX8_40 rfl g2 ha3 ?_
        refine r_iload_n (pc := 25) dX8_changeCell_25 rfl 2 rfl ?_
        obtain ⟨g5, h⟩ := gd h
        refine r_laload (pc := 26) dX8_changeCell_26 g4 g5 ?_
        obtain ⟨g6, h⟩ := gd h
        obtain ⟨⟨I7, J8, R9⟩, hc10, h⟩ := ob h
        refine r_callV0 (pc := 27) (av := [vR (some a1), vI x2, vL (J a3 (Int32.toNatClampNeg x2))]) (S := []) dX8_changeCell_27 (kX8_noteChange hc10) g6 rfl mkX8_36 mwX8_noteChange rfl ⟨Nat.le_of_ble_eq_true rfl, Nat.le_of_ble_eq_true rfl⟩ (Nat.le_of_ble_eq_true rfl) ⟨Nat.le_refl _, Nat.le_refl _⟩ (fun b => b) ?_
        refine r_aload_n (pc := 30) dX8_changeCell_30 rfl 1 rfl ?_
        refine r_ref0 ha1 ?_
        obtain ⟨a11, ha11, h⟩ := ob h
        refine r_getS (pc := 31) dX8_changeCell_31 fgX8_40 rfl g2 ha11 ?_
        refine r_iload_n (pc := 34) dX8_changeCell_34 rfl 2 rfl ?_
        refine r_lload_n (pc := 35) dX8_changeCell_35 rfl 3 rfl ?_
        obtain ⟨g12, h⟩ := gd h
        obtain ⟨g13, h⟩ := gd h
        refine r_lastore (pc := 36) dX8_changeCell_36 g12 g13 ?_
        cases h
        exact r_vret dX8_changeCell_37
      · have h := ie h c
        cases h
        exact r_vret dX8_changeCell_17
abbrev WX7_layCell (G : Gx) (l : Launch) (σ0 : Shp) (X1 : Stt) (rv : Option SV) : Stt → Nat → List (Nat × SV) → List SV → Prop := Wm G l yX7_layCell cX7_layCell 5 none (fun _ => True) (rmx 3 65 σ0 X1.1) σ0 (Qmx G σ0 X1 rv)
def fX7_layCell (σ : Shp) (I : Nat → Nat → Int32) (J : Nat → Nat → Int64) (R : Nat → Nat → Option Nat) (t : Nat) (x1 : Int32) (x2 : Int32) (x3 : Int32) : Option ((Nat → Nat → Int32) × (Nat → Nat → Int64) × (Nat → Nat → Option Nat)) :=
  if kdx σ t = 8 then
  ((R t 0) : Option Nat).bind fun a2 =>
  if kdx σ a2 = 26 then
  if ¬ (x1 < 0 ∨ lnx σ a2 ≤ Int32.toNatClampNeg x1) then
  (fX11_cellFault σ I R (R a2 (Int32.toNatClampNeg x1)) (4 : Int32) x2).bind fun r5 =>
  if r5 = 0 then
    ((R t 3) : Option Nat).bind fun a7 =>
    if kdx σ a7 = 9 then
    (fX8_changeCell σ I J R a7 (R a2 (Int32.toNatClampNeg x1)) x2 (Int32.toInt64 x3)).bind fun (I9, J10, R11) =>
    some (I9, J10, R11)
    else none
  else
    (fX7_arise σ I R t r5 (0 : Int32)).bind fun I13 =>
    some (I13, J, R)
  else none
  else none
  else none
theorem kX7_layCell {G : Gx} {l : Launch} {σ : Shp} {I : Nat → Nat → Int32} {J : Nat → Nat → Int64} {D : Nat → Nat → UInt64} {R : Nat → Nat → Option Nat} {t : Nat} {x1 : Int32} {x2 : Int32} {x3 : Int32} {I9 : Nat → Nat → Int32} {J9 : Nat → Nat → Int64} {R9 : Nat → Nat → Option Nat} (h : fX7_layCell σ I J R t x1 x2 x3 = some (I9, J9, R9)) : Con G l yX7_layCell cX7_layCell 5 none 3 65 [vR (some t), vI x1, vI x2, vI x3] (σ, I, J, D, R) (σ, I9, J9, D, R9) none := by
  unfold fX7_layCell at h
  refine Con.mk (by decide +kernel) rfl (Nat.le_of_ble_eq_true rfl) ?_
  show WX7_layCell G l σ (σ, I9, J9, D, R9) none (σ, I, J, D, R) 0 _ []
  refine r_aload_n (pc := 0) dX7_layCell_0 rfl 0 rfl ?_
  obtain ⟨g1, h⟩ := gd h
  obtain ⟨a2, ha2, h⟩ := ob h
  refine r_getS (pc := 1) dX7_layCell_1 fgX7_11 rfl g1 ha2 ?_
  refine r_iload_n (pc := 4) dX7_layCell_4 rfl 1 rfl ?_
  obtain ⟨g3, h⟩ := gd h
  obtain ⟨g4, h⟩ := gd h
  refine r_aaload (pc := 5) dX7_layCell_5 g3 (by decide) g4 ?_
  refine r_iconst (pc := 6) dX7_layCell_6 kc_iconst_4 ?_
  refine r_iload_n (pc := 7) dX7_layCell_7 rfl 2 rfl ?_
  obtain ⟨r5, hc6, h⟩ := ob h
  refine r_callSN1 (pc := 8) (av := [vR (R a2 (Int32.toNatClampNeg x1)), vI (4 : Int32), vI x2]) (S := []) dX7_layCell_8 (kX11_cellFault hc6) nkX7_219 mwX11_cellFault rfl ⟨Nat.le_of_ble_eq_true rfl, Nat.le_of_ble_eq_true rfl⟩ (Nat.le_of_ble_eq_true rfl) ⟨Nat.le_refl _, Nat.le_refl _⟩ (fun b => b) ?_
  refine r_istore (pc := 11) (L' := [(4, vI r5), (0, vR (some t)), (1, vI x1), (2, vI x2), (3, vI x3)]) dX7_layCell_11 (by decide) rfl ?_
  refine r_iload (pc := 13) dX7_layCell_13 0 rfl ?_
  refine r_if_eq (pc := 15) (tgt := 28) dX7_layCell_15 rfl (fun c => ?_) (fun c => ?_)
  · have h := it h c
    refine r_aload_n (pc := 28) dX7_layCell_28 rfl 1 rfl ?_
    obtain ⟨a7, ha7, h⟩ := ob h
    refine r_getS (pc := 29) dX7_layCell_29 fgX7_34 rfl g1 ha7 ?_
    refine r_aload_n (pc := 32) dX7_layCell_32 rfl 1 rfl ?_
    refine r_getS (pc := 33) dX7_layCell_33 fgX7_11 rfl g1 ha2 ?_
    refine r_iload_n (pc := 36) dX7_layCell_36 rfl 2 rfl ?_
    refine r_aaload (pc := 37) dX7_layCell_37 g3 (by decide) g4 ?_
    refine r_iload_n (pc := 38) dX7_layCell_38 rfl 3 rfl ?_
    refine r_iload_n (pc := 39) dX7_layCell_39 rfl 4 rfl ?_
    refine r_i2l (pc := 40) dX7_layCell_40 ?_
    obtain ⟨g8, h⟩ := gd h
    obtain ⟨⟨I9, J10, R11⟩, hc12, h⟩ := ob h
    refine r_callV0 (pc := 41) (av := [vR (R a2 (Int32.toNatClampNeg x1)), vI x2, vL (Int32.toInt64 x3)]) (S := []) dX7_layCell_41 (kX8_changeCell hc12) g8 rfl mkX7_223 mwX8_changeCell rfl ⟨Nat.le_of_ble_eq_true rfl, Nat.le_of_ble_eq_true rfl⟩ (Nat.le_of_ble_eq_true rfl) ⟨Nat.le_refl _, Nat.le_refl _⟩ (fun b => b) ?_
    cases h
    exact r_vret dX7_layCell_44
  · have h := ie h c
    refine r_aload_n (pc := 18) dX7_layCell_18 rfl 1 rfl ?_
    refine r_iload (pc := 19) dX7_layCell_19 0 rfl ?_
    refine r_iconst (pc := 21) dX7_layCell_21 kc_iconst_0 ?_
    obtain ⟨I13, hc14, h⟩ := ob h
    refine r_callV0 (pc := 22) (av := [vI r5, vI (0 : Int32)]) (S := []) dX7_layCell_22 (kX7_arise hc14) g1 rfl mkX7_182 mwX7_arise rfl ⟨Nat.le_of_ble_eq_true rfl, Nat.le_of_ble_eq_true rfl⟩ (Nat.le_of_ble_eq_true rfl) ⟨Nat.le_refl _, Nat.le_refl _⟩ (fun b => b) ?_
    refine r_goto (pc := 25) (tgt := 44) dX7_layCell_25 rfl ?_
    cases h
    exact r_vret dX7_layCell_44
abbrev WX7_readCell (G : Gx) (l : Launch) (σ0 : Shp) (X1 : Stt) (rv : Option SV) : Stt → Nat → List (Nat × SV) → List SV → Prop := Wm G l yX7_readCell cX7_readCell 6 none (fun _ => True) (rmx 3 65 σ0 X1.1) σ0 (Qmx G σ0 X1 rv)
def fX7_readCell_b26  (σ : Shp) (t : Nat) (I : Nat → Nat → Int32) (J : Nat → Nat → Int64) (R : Nat → Nat → Option Nat) (x2 : Int32) (x3 : Int32) (x4 : Option Nat) (s0 : Int32) : Option ((Nat → Nat → Int32) × (Nat → Nat → Int64) × (Nat → Nat → Option Nat)) :=
  if s0 = 0 then
    onl x4
      (
        if kdx σ t = 8 then
        (fX7_arise σ I R t s0 (0 : Int32)).bind fun I11 =>
        some (I11, J, R)
        else none)
      (fun a9 =>
        if kdx σ t = 8 then
        ((R t 3) : Option Nat).bind fun a14 =>
        if kdx σ a9 = 11 then
        ((R a9 1) : Option Nat).bind fun a16 =>
        if kdx σ a16 = 21 then
        if ¬ (x2 < 0 ∨ lnx σ a16 ≤ Int32.toNatClampNeg x2) then
        if kdx σ a14 = 9 then
        (fX8_changeStock σ I J R a14 x3 (J a16 (Int32.toNatClampNeg x2))).bind fun (I20, J21, R22) =>
        some (I20, J21, R22)
        else none
        else none
        else none
        else none
        else none)
  else
    if kdx σ t = 8 then
    (fX7_arise σ I R t s0 (0 : Int32)).bind fun I7 =>
    some (I7, J, R)
    else none
theorem wX7_readCell_b26 {G : Gx} {l : Launch} {σ : Shp} {I : Nat → Nat → Int32} {J : Nat → Nat → Int64} {D : Nat → Nat → UInt64} {R : Nat → Nat → Option Nat} {t : Nat} {I9 : Nat → Nat → Int32} {J9 : Nat → Nat → Int64} {R9 : Nat → Nat → Option Nat} {x2 : Int32} {x3 : Int32} {x4 : Option Nat} {s0 : Int32} (h : fX7_readCell_b26 σ t I J R x2 x3 x4 s0 = some (I9, J9, R9)) : WX7_readCell G l σ (σ, I9, J9, D, R9) none (σ, I, J, D, R) 26 [(0, vR (some t)), (2, vI x2), (3, vI x3), (4, vR x4)] [vI s0] := by
  unfold fX7_readCell_b26 at h
  refine r_istore (pc := 26) (L' := [(5, vI s0), (0, vR (some t)), (2, vI x2), (3, vI x3), (4, vR x4)]) dX7_readCell_26 (by decide) rfl ?_
  refine r_iload (pc := 28) dX7_readCell_28 0 rfl ?_
  refine r_ifne (pc := 30) (tgt := 38) dX7_readCell_30 rfl (fun c => ?_) (fun c => ?_)
  · have h := ie h c
    refine r_aload_n (pc := 38) dX7_readCell_38 rfl 1 rfl ?_
    refine r_iload (pc := 39) dX7_readCell_39 0 rfl ?_
    refine r_iconst (pc := 41) dX7_readCell_41 kc_iconst_0 ?_
    obtain ⟨g6, h⟩ := gd h
    obtain ⟨I7, hc8, h⟩ := ob h
    refine r_callV0 (pc := 42) (av := [vI s0, vI (0 : Int32)]) (S := []) dX7_readCell_42 (kX7_arise hc8) g6 rfl mkX7_182 mwX7_arise rfl ⟨Nat.le_of_ble_eq_true rfl, Nat.le_of_ble_eq_true rfl⟩ (Nat.le_of_ble_eq_true rfl) ⟨Nat.le_refl _, Nat.le_refl _⟩ (fun b => b) ?_
    refine r_goto (pc := 45) (tgt := 63) dX7_readCell_45 rfl ?_
    cases h
    exact r_vret dX7_readCell_63
  · have h := it h c
    refine r_aload (pc := 33) dX7_readCell_33 4 rfl ?_
    rcases onl_c h with ⟨ea9, h⟩ | ⟨a9, ha9, h⟩
    · refine r_ref0n ea9 ?_
      refine r_ifnonnull_n (pc := 35) dX7_readCell_35 ?_
      refine r_aload_n (pc := 38) dX7_readCell_38 rfl 1 rfl ?_
      refine r_iload (pc := 39) dX7_readCell_39 0 rfl ?_
      refine r_iconst (pc := 41) dX7_readCell_41 kc_iconst_0 ?_
      obtain ⟨g10, h⟩ := gd h
      obtain ⟨I11, hc12, h⟩ := ob h
      refine r_callV0 (pc := 42) (av := [vI s0, vI (0 : Int32)]) (S := []) dX7_readCell_42 (kX7_arise hc12) g10 rfl mkX7_182 mwX7_arise rfl ⟨Nat.le_of_ble_eq_true rfl, Nat.le_of_ble_eq_true rfl⟩ (Nat.le_of_ble_eq_true rfl) ⟨Nat.le_refl _, Nat.le_refl _⟩ (fun b => b) ?_
      refine r_goto (pc := 45) (tgt := 63) dX7_readCell_45 rfl ?_
      cases h
      exact r_vret dX7_readCell_63
    · refine r_ref0 ha9 ?_
      refine r_ifnonnull_s (pc := 35) (tgt := 48) dX7_readCell_35 rfl ?_
      refine r_aload_n (pc := 48) dX7_readCell_48 rfl 1 rfl ?_
      obtain ⟨g13, h⟩ := gd h
      obtain ⟨a14, ha14, h⟩ := ob h
      refine r_getS (pc := 49) dX7_readCell_49 fgX7_34 rfl g13 ha14 ?_
      refine r_iload_n (pc := 52) dX7_readCell_52 rfl 3 rfl ?_
      refine r_aload (pc := 53) dX7_readCell_53 4 rfl ?_
      refine r_ref0 ha9 ?_
      obtain ⟨g15, h⟩ := gd h
      obtain ⟨a16, ha16, h⟩ := ob h
      refine r_getS (pc := 55) dX7_readCell_55 fgX7_227 rfl g15 ha16 ?_
      refine r_iload_n (pc := 58) dX7_readCell_58 rfl 2 rfl ?_
      obtain ⟨g17, h⟩ := gd h
      obtain ⟨g18, h⟩ := gd h
      refine r_laload (pc := 59) dX7_readCell_59 g17 g18 ?_
      obtain ⟨g19, h⟩ := gd h
      obtain ⟨⟨I20, J21, R22⟩, hc23, h⟩ := ob h
      refine r_callV0 (pc := 60) (av := [vI x3, vL (J a16 (Int32.toNatClampNeg x2))]) (S := []) dX7_readCell_60 (kX8_changeStock hc23) g19 rfl mkX7_189 mwX8_changeStock rfl ⟨Nat.le_of_ble_eq_true rfl, Nat.le_of_ble_eq_true rfl⟩ (Nat.le_of_ble_eq_true rfl) ⟨Nat.le_refl _, Nat.le_refl _⟩ (fun b => b) ?_
      cases h
      exact r_vret dX7_readCell_63
def fX7_readCell (σ : Shp) (I : Nat → Nat → Int32) (J : Nat → Nat → Int64) (R : Nat → Nat → Option Nat) (t : Nat) (x1 : Int32) (x2 : Int32) (x3 : Int32) : Option ((Nat → Nat → Int32) × (Nat → Nat → Int64) × (Nat → Nat → Option Nat)) :=
  if kdx σ t = 8 then
  ((R t 0) : Option Nat).bind fun a2 =>
  if kdx σ a2 = 26 then
  if ¬ (x1 < 0 ∨ lnx σ a2 ≤ Int32.toNatClampNeg x1) then
  let v5 := (R a2 (Int32.toNatClampNeg x1))
  if (fX11_isStock x3) = 0 then
    fX7_readCell_b26 σ t I J R x2 x3 v5 (2 : Int32)
  else
    (fX11_cellFault σ I R v5 (4 : Int32) x2).bind fun r24 =>
    fX7_readCell_b26 σ t I J R x2 x3 v5 r24
  else none
  else none
  else none
theorem kX7_readCell {G : Gx} {l : Launch} {σ : Shp} {I : Nat → Nat → Int32} {J : Nat → Nat → Int64} {D : Nat → Nat → UInt64} {R : Nat → Nat → Option Nat} {t : Nat} {x1 : Int32} {x2 : Int32} {x3 : Int32} {I9 : Nat → Nat → Int32} {J9 : Nat → Nat → Int64} {R9 : Nat → Nat → Option Nat} (h : fX7_readCell σ I J R t x1 x2 x3 = some (I9, J9, R9)) : Con G l yX7_readCell cX7_readCell 6 none 3 65 [vR (some t), vI x1, vI x2, vI x3] (σ, I, J, D, R) (σ, I9, J9, D, R9) none := by
  unfold fX7_readCell at h
  refine Con.mk (by decide +kernel) rfl (Nat.le_of_ble_eq_true rfl) ?_
  show WX7_readCell G l σ (σ, I9, J9, D, R9) none (σ, I, J, D, R) 0 _ []
  refine r_aload_n (pc := 0) dX7_readCell_0 rfl 0 rfl ?_
  obtain ⟨g1, h⟩ := gd h
  obtain ⟨a2, ha2, h⟩ := ob h
  refine r_getS (pc := 1) dX7_readCell_1 fgX7_11 rfl g1 ha2 ?_
  refine r_iload_n (pc := 4) dX7_readCell_4 rfl 1 rfl ?_
  obtain ⟨g3, h⟩ := gd h
  obtain ⟨g4, h⟩ := gd h
  refine r_aaload (pc := 5) dX7_readCell_5 g3 (by decide) g4 ?_
  refine r_astore (pc := 6) (L' := [(4, vR (R a2 (Int32.toNatClampNeg x1))), (0, vR (some t)), (1, vI x1), (2, vI x2), (3, vI x3)]) dX7_readCell_6 (by decide) rfl ?_
  refine r_iload_n (pc := 8) dX7_readCell_8 rfl 4 rfl ?_
  refine r_callSN1 (pc := 9) (av := [vI x3]) (S := []) dX7_readCell_9 (kX11_isStock rfl) nkX7_165 mwX11_isStock rfl ⟨Nat.le_of_ble_eq_true rfl, Nat.le_of_ble_eq_true rfl⟩ (Nat.le_of_ble_eq_true rfl) ⟨Nat.le_refl _, Nat.le_refl _⟩ (fun b => b) ?_
  refine r_if_eq (pc := 12) (tgt := 25) dX7_readCell_12 rfl (fun c => ?_) (fun c => ?_)
  · have h := it h c
    refine r_iconst (pc := 25) dX7_readCell_25 kc_iconst_2 ?_
    refine r_sub [1, 3, 4, 0] rfl ?_
    exact wX7_readCell_b26 h
  · have h := ie h c
    refine r_aload (pc := 15) dX7_readCell_15 0 rfl ?_
    refine r_iconst (pc := 17) dX7_readCell_17 kc_iconst_4 ?_
    refine r_iload_n (pc := 18) dX7_readCell_18 rfl 3 rfl ?_
    obtain ⟨r24, hc25, h⟩ := ob h
    refine r_callSN1 (pc := 19) (av := [vR (R a2 (Int32.toNatClampNeg x1)), vI (4 : Int32), vI x2]) (S := []) dX7_readCell_19 (kX11_cellFault hc25) nkX7_219 mwX11_cellFault rfl ⟨Nat.le_of_ble_eq_true rfl, Nat.le_of_ble_eq_true rfl⟩ (Nat.le_of_ble_eq_true rfl) ⟨Nat.le_refl _, Nat.le_refl _⟩ (fun b => b) ?_
    refine r_goto (pc := 22) (tgt := 26) dX7_readCell_22 rfl ?_
    refine r_sub [1, 3, 4, 0] rfl ?_
    exact wX7_readCell_b26 h
abbrev WX7_writeCard (G : Gx) (l : Launch) (σ0 : Shp) (X1 : Stt) (rv : Option SV) : Stt → Nat → List (Nat × SV) → List SV → Prop := Wm G l yX7_writeCard cX7_writeCard 4 none (fun _ => True) (rmx 2 48 σ0 X1.1) σ0 (Qmx G σ0 X1 rv)
def fX7_writeCard (σ : Shp) (I : Nat → Nat → Int32) (J : Nat → Nat → Int64) (R : Nat → Nat → Option Nat) (t : Nat) (x1 : Int32) (x2 : Int32) : Option ((Nat → Nat → Int32) × (Nat → Nat → Int64) × (Nat → Nat → Option Nat)) :=
  if kdx σ t = 8 then
  ((R t 0) : Option Nat).bind fun a2 =>
  if kdx σ a2 = 26 then
  if ¬ (x1 < 0 ∨ lnx σ a2 ≤ Int32.toNatClampNeg x1) then
  (fX11_takenFault σ I (R a2 (Int32.toNatClampNeg x1)) (17 : Int32)).bind fun r5 =>
  if r5 = 0 then
    ((R t 3) : Option Nat).bind fun a7 =>
    if kdx σ a7 = 9 then
    (fX8_changeCell σ I J R a7 (R a2 (Int32.toNatClampNeg x1)) (4 : Int32) (Int32.toInt64 x2)).bind fun (I9, J10, R11) =>
    some (I9, J10, R11)
    else none
  else
    (fX7_arise σ I R t r5 (0 : Int32)).bind fun I13 =>
    some (I13, J, R)
  else none
  else none
  else none
theorem kX7_writeCard {G : Gx} {l : Launch} {σ : Shp} {I : Nat → Nat → Int32} {J : Nat → Nat → Int64} {D : Nat → Nat → UInt64} {R : Nat → Nat → Option Nat} {t : Nat} {x1 : Int32} {x2 : Int32} {I9 : Nat → Nat → Int32} {J9 : Nat → Nat → Int64} {R9 : Nat → Nat → Option Nat} (h : fX7_writeCard σ I J R t x1 x2 = some (I9, J9, R9)) : Con G l yX7_writeCard cX7_writeCard 4 none 2 48 [vR (some t), vI x1, vI x2] (σ, I, J, D, R) (σ, I9, J9, D, R9) none := by
  unfold fX7_writeCard at h
  refine Con.mk (by decide +kernel) rfl (Nat.le_of_ble_eq_true rfl) ?_
  show WX7_writeCard G l σ (σ, I9, J9, D, R9) none (σ, I, J, D, R) 0 _ []
  refine r_aload_n (pc := 0) dX7_writeCard_0 rfl 0 rfl ?_
  obtain ⟨g1, h⟩ := gd h
  obtain ⟨a2, ha2, h⟩ := ob h
  refine r_getS (pc := 1) dX7_writeCard_1 fgX7_11 rfl g1 ha2 ?_
  refine r_iload_n (pc := 4) dX7_writeCard_4 rfl 1 rfl ?_
  obtain ⟨g3, h⟩ := gd h
  obtain ⟨g4, h⟩ := gd h
  refine r_aaload (pc := 5) dX7_writeCard_5 g3 (by decide) g4 ?_
  refine r_bipush (pc := 6) dX7_writeCard_6 kc_bipush_17 ?_
  obtain ⟨r5, hc6, h⟩ := ob h
  refine r_callSN1 (pc := 8) (av := [vR (R a2 (Int32.toNatClampNeg x1)), vI (17 : Int32)]) (S := []) dX7_writeCard_8 (kX11_takenFault hc6) nkX7_230 mwX11_takenFault rfl ⟨Nat.le_of_ble_eq_true rfl, Nat.le_of_ble_eq_true rfl⟩ (Nat.le_of_ble_eq_true rfl) ⟨Nat.le_refl _, Nat.le_refl _⟩ (fun b => b) ?_
  refine r_istore_n (pc := 11) (L' := [(3, vI r5), (0, vR (some t)), (1, vI x1), (2, vI x2)]) dX7_writeCard_11 rfl (by decide) rfl ?_
  refine r_iload_n (pc := 12) dX7_writeCard_12 rfl 0 rfl ?_
  refine r_if_eq (pc := 13) (tgt := 25) dX7_writeCard_13 rfl (fun c => ?_) (fun c => ?_)
  · have h := it h c
    refine r_aload_n (pc := 25) dX7_writeCard_25 rfl 1 rfl ?_
    obtain ⟨a7, ha7, h⟩ := ob h
    refine r_getS (pc := 26) dX7_writeCard_26 fgX7_34 rfl g1 ha7 ?_
    refine r_aload_n (pc := 29) dX7_writeCard_29 rfl 1 rfl ?_
    refine r_getS (pc := 30) dX7_writeCard_30 fgX7_11 rfl g1 ha2 ?_
    refine r_iload_n (pc := 33) dX7_writeCard_33 rfl 2 rfl ?_
    refine r_aaload (pc := 34) dX7_writeCard_34 g3 (by decide) g4 ?_
    refine r_iconst (pc := 35) dX7_writeCard_35 kc_iconst_4 ?_
    refine r_iload_n (pc := 36) dX7_writeCard_36 rfl 3 rfl ?_
    refine r_i2l (pc := 37) dX7_writeCard_37 ?_
    obtain ⟨g8, h⟩ := gd h
    obtain ⟨⟨I9, J10, R11⟩, hc12, h⟩ := ob h
    refine r_callV0 (pc := 38) (av := [vR (R a2 (Int32.toNatClampNeg x1)), vI (4 : Int32), vL (Int32.toInt64 x2)]) (S := []) dX7_writeCard_38 (kX8_changeCell hc12) g8 rfl mkX7_223 mwX8_changeCell rfl ⟨Nat.le_of_ble_eq_true rfl, Nat.le_of_ble_eq_true rfl⟩ (Nat.le_of_ble_eq_true rfl) ⟨Nat.le_refl _, Nat.le_refl _⟩ (fun b => b) ?_
    cases h
    exact r_vret dX7_writeCard_41
  · have h := ie h c
    refine r_aload_n (pc := 16) dX7_writeCard_16 rfl 1 rfl ?_
    refine r_iload_n (pc := 17) dX7_writeCard_17 rfl 0 rfl ?_
    refine r_iconst (pc := 18) dX7_writeCard_18 kc_iconst_0 ?_
    obtain ⟨I13, hc14, h⟩ := ob h
    refine r_callV0 (pc := 19) (av := [vI r5, vI (0 : Int32)]) (S := []) dX7_writeCard_19 (kX7_arise hc14) g1 rfl mkX7_182 mwX7_arise rfl ⟨Nat.le_of_ble_eq_true rfl, Nat.le_of_ble_eq_true rfl⟩ (Nat.le_of_ble_eq_true rfl) ⟨Nat.le_refl _, Nat.le_refl _⟩ (fun b => b) ?_
    refine r_goto (pc := 22) (tgt := 41) dX7_writeCard_22 rfl ?_
    cases h
    exact r_vret dX7_writeCard_41
abbrev WX7_perform (G : Gx) (l : Launch) (σ0 : Shp) (X1 : Stt) (rv : Option SV) : Stt → Nat → List (Nat × SV) → List SV → Prop := Wm G l yX7_perform cX7_perform 6 none (fun _ => True) (rmx 13 307 σ0 X1.1) σ0 (Qmx G σ0 X1 rv)
def fX7_perform_b246  (σ : Shp) (I : Nat → Nat → Int32) (J : Nat → Nat → Int64) (R : Nat → Nat → Option Nat) : Option ((Shp) × (Nat → Nat → Int32) × (Nat → Nat → Int64) × (Nat → Nat → Option Nat)) :=
  some (σ, I, J, R)
theorem mX7_perform_b246 {σ : Shp} {I : Nat → Nat → Int32} {J : Nat → Nat → Int64} {R : Nat → Nat → Option Nat} {σ9 : Shp} {I9 : Nat → Nat → Int32} {J9 : Nat → Nat → Int64} {R9 : Nat → Nat → Option Nat}  (h : fX7_perform_b246 σ I J R = some (σ9, I9, J9, R9)) : Lex σ σ9 := by
  unfold fX7_perform_b246 at h
  cases h
  exact ⟨Nat.le_refl _, Nat.le_refl _⟩
theorem wX7_perform_b246 {G : Gx} {l : Launch} {σ0 : Shp} {σ : Shp} {I : Nat → Nat → Int32} {J : Nat → Nat → Int64} {D : Nat → Nat → UInt64} {R : Nat → Nat → Option Nat} {σ9 : Shp} {I9 : Nat → Nat → Int32} {J9 : Nat → Nat → Int64} {R9 : Nat → Nat → Option Nat}  (h : fX7_perform_b246 σ I J R = some (σ9, I9, J9, R9)) : WX7_perform G l σ0 (σ9, I9, J9, D, R9) none (σ, I, J, D, R) 246 [] [] := by
  unfold fX7_perform_b246 at h
  cases h
  exact r_vret dX7_perform_246
def fX7_perform_b234  (σ : Shp) (I : Nat → Nat → Int32) (J : Nat → Nat → Int64) (R : Nat → Nat → Option Nat) : Option ((Shp) × (Nat → Nat → Int32) × (Nat → Nat → Int64) × (Nat → Nat → Option Nat)) :=
  fX7_perform_b246 σ I J R
theorem mX7_perform_b234 {σ : Shp} {I : Nat → Nat → Int32} {J : Nat → Nat → Int64} {R : Nat → Nat → Option Nat} {σ9 : Shp} {I9 : Nat → Nat → Int32} {J9 : Nat → Nat → Int64} {R9 : Nat → Nat → Option Nat}  (h : fX7_perform_b234 σ I J R = some (σ9, I9, J9, R9)) : Lex σ σ9 := by
  unfold fX7_perform_b234 at h
  exact mX7_perform_b246 h
theorem wX7_perform_b234 {G : Gx} {l : Launch} {σ0 : Shp} {σ : Shp} {I : Nat → Nat → Int32} {J : Nat → Nat → Int64} {D : Nat → Nat → UInt64} {R : Nat → Nat → Option Nat} {σ9 : Shp} {I9 : Nat → Nat → Int32} {J9 : Nat → Nat → Int64} {R9 : Nat → Nat → Option Nat}  (h : fX7_perform_b234 σ I J R = some (σ9, I9, J9, R9)) : WX7_perform G l σ0 (σ9, I9, J9, D, R9) none (σ, I, J, D, R) 234 [] [] := by
  unfold fX7_perform_b234 at h
  refine r_goto (pc := 234) (tgt := 246) dX7_perform_234 rfl ?_
  refine r_sub [] rfl ?_
  exact wX7_perform_b246 h
def fX7_perform (σ : Shp) (I : Nat → Nat → Int32) (J : Nat → Nat → Int64) (R : Nat → Nat → Option Nat) (t : Nat) (x1 : Int32) (x2 : Int32) (x3 : Int32) : Option ((Shp) × (Nat → Nat → Int32) × (Nat → Nat → Int64) × (Nat → Nat → Option Nat)) :=
  if (fX7_firstNumberFits x2 x3) = 0 then
    if kdx σ t = 8 then
    (fX7_arise σ I R t (2 : Int32) (0 : Int32)).bind fun I72 =>
    some (σ, I72, J, R)
    else none
  else
    if kdx σ t = 8 then
    ((R t 2) : Option Nat).bind fun a2 =>
    if kdx σ a2 = 7 then
    (fX6_bAt σ I R a2 x1 (I t 7)).bind fun r4 =>
    (fX6_cAt σ I R a2 x1 (I t 7)).bind fun r6 =>
    if x2 = (1 : Int32) then
      ((R t 3) : Option Nat).bind fun a62 =>
      if kdx σ a62 = 9 then
      ((R a62 0) : Option Nat).bind fun a64 =>
      if kdx σ a64 = 21 then
      if ¬ (x3 < 0 ∨ lnx σ a64 ≤ Int32.toNatClampNeg x3) then
      (fX8_changeStock σ I J R a62 x3 ((J a64 (Int32.toNatClampNeg x3)) + (Int32.toInt64 r4))).bind fun (I67, J68, R69) =>
      fX7_perform_b246 σ I67 J68 R69
      else none
      else none
      else none
    else
    if x2 = (2 : Int32) then
      (fX7_divideStock σ I J R t x3 r4).bind fun (I58, J59, R60) =>
      fX7_perform_b246 σ I58 J59 R60
    else
    if x2 = (3 : Int32) then
      (fX7_layCell σ I J R t x3 r4 r6).bind fun (I54, J55, R56) =>
      fX7_perform_b246 σ I54 J55 R56
    else
    if x2 = (4 : Int32) then
      (fX7_readCell σ I J R t x3 r4 r6).bind fun (I50, J51, R52) =>
      fX7_perform_b246 σ I50 J51 R52
    else
    if x2 = (5 : Int32) then
      (fX7_writeCard σ I J R t x3 r4).bind fun (I46, J47, R48) =>
      fX7_perform_b246 σ I46 J47 R48
    else
    if x2 = (6 : Int32) then
      (fX7_askPlant σ I J R t x3 r4 r6).bind fun (I42, J43, R44) =>
      fX7_perform_b246 σ I42 J43 R44
    else
    if x2 = (7 : Int32) then
      (fX7_arise σ I R t (8 : Int32) x3).bind fun I40 =>
      fX7_perform_b246 σ I40 J R
    else
    if x2 = (8 : Int32) then
      ((R t 5) : Option Nat).bind fun a34 =>
      if kdx σ a34 = 20 then
      if ¬ ((0 : Int32) < 0 ∨ lnx σ a34 ≤ Int32.toNatClampNeg (0 : Int32)) then
      let I37 := u2 I a34 (Int32.toNatClampNeg (0 : Int32)) (2 : Int32)
      if ¬ ((5 : Int32) < 0 ∨ lnx σ a34 ≤ Int32.toNatClampNeg (5 : Int32)) then
      let I39 := u2 I37 a34 (Int32.toNatClampNeg (5 : Int32)) x3
      fX7_perform_b246 σ I39 J R
      else none
      else none
      else none
    else
    if x2 = (9 : Int32) then
      ((R t 3) : Option Nat).bind fun a27 =>
      if kdx σ a27 = 9 then
      ((R a27 2) : Option Nat).bind fun a29 =>
      if kdx σ a29 = 20 then
      if ¬ (x3 < 0 ∨ lnx σ a29 ≤ Int32.toNatClampNeg x3) then
      if (I a29 (Int32.toNatClampNeg x3)) = 0 then
        (fX7_arise σ I R t (7 : Int32) (0 : Int32)).bind fun I32 =>
        fX7_perform_b246 σ I32 J R
      else
        fX7_perform_b246 σ I J R
      else none
      else none
      else none
    else
    if x2 = (10 : Int32) then
      (fX7_doPlan σ I R t x3).bind fun (σ23, I24, R25) =>
      fX7_perform_b234 σ23 I24 J R25
    else
    (fX7_beginBody σ I J R t x1 x2 x3 r4).bind fun (σ18, I19, J20, R21) =>
    fX7_perform_b246 σ18 I19 J20 R21
    else none
    else none
theorem mX7_perform {σ : Shp} {I : Nat → Nat → Int32} {J : Nat → Nat → Int64} {R : Nat → Nat → Option Nat} {t : Nat} {x1 : Int32} {x2 : Int32} {x3 : Int32} {σ9 : Shp} {I9 : Nat → Nat → Int32} {J9 : Nat → Nat → Int64} {R9 : Nat → Nat → Option Nat} (h : fX7_perform σ I J R t x1 x2 x3 = some (σ9, I9, J9, R9)) : Lex σ σ9 := by
  unfold fX7_perform at h
  rcases itc h with ⟨c, h⟩ | ⟨c, h⟩
  · replace h := (gd h).2
    obtain ⟨I72, hc73, h⟩ := ob h
    cases h
    exact ⟨Nat.le_refl _, Nat.le_refl _⟩
  · replace h := (gd h).2
    obtain ⟨a2, ha2, h⟩ := ob h
    replace h := (gd h).2
    obtain ⟨r4, hc5, h⟩ := ob h
    obtain ⟨r6, hc7, h⟩ := ob h
    rcases itc h with ⟨c, h⟩ | ⟨c, h⟩
    · obtain ⟨a62, ha62, h⟩ := ob h
      replace h := (gd h).2
      obtain ⟨a64, ha64, h⟩ := ob h
      replace h := (gd h).2
      replace h := (gd h).2
      obtain ⟨⟨I67, J68, R69⟩, hc70, h⟩ := ob h
      exact mX7_perform_b246 h
    · rcases itc h with ⟨c, h⟩ | ⟨c, h⟩
      · obtain ⟨⟨I58, J59, R60⟩, hc61, h⟩ := ob h
        exact mX7_perform_b246 h
      · rcases itc h with ⟨c, h⟩ | ⟨c, h⟩
        · obtain ⟨⟨I54, J55, R56⟩, hc57, h⟩ := ob h
          exact mX7_perform_b246 h
        · rcases itc h with ⟨c, h⟩ | ⟨c, h⟩
          · obtain ⟨⟨I50, J51, R52⟩, hc53, h⟩ := ob h
            exact mX7_perform_b246 h
          · rcases itc h with ⟨c, h⟩ | ⟨c, h⟩
            · obtain ⟨⟨I46, J47, R48⟩, hc49, h⟩ := ob h
              exact mX7_perform_b246 h
            · rcases itc h with ⟨c, h⟩ | ⟨c, h⟩
              · obtain ⟨⟨I42, J43, R44⟩, hc45, h⟩ := ob h
                exact mX7_perform_b246 h
              · rcases itc h with ⟨c, h⟩ | ⟨c, h⟩
                · obtain ⟨I40, hc41, h⟩ := ob h
                  exact mX7_perform_b246 h
                · rcases itc h with ⟨c, h⟩ | ⟨c, h⟩
                  · obtain ⟨a34, ha34, h⟩ := ob h
                    replace h := (gd h).2
                    replace h := (gd h).2
                    replace h := (gd h).2
                    exact mX7_perform_b246 h
                  · rcases itc h with ⟨c, h⟩ | ⟨c, h⟩
                    · obtain ⟨a27, ha27, h⟩ := ob h
                      replace h := (gd h).2
                      obtain ⟨a29, ha29, h⟩ := ob h
                      replace h := (gd h).2
                      replace h := (gd h).2
                      rcases itc h with ⟨c, h⟩ | ⟨c, h⟩
                      · obtain ⟨I32, hc33, h⟩ := ob h
                        exact mX7_perform_b246 h
                      · exact mX7_perform_b246 h
                    · rcases itc h with ⟨c, h⟩ | ⟨c, h⟩
                      · obtain ⟨⟨σ23, I24, R25⟩, hc26, h⟩ := ob h
                        refine Lex.trans (mX7_doPlan hc26) ?_
                        exact mX7_perform_b234 h
                      · obtain ⟨⟨σ18, I19, J20, R21⟩, hc22, h⟩ := ob h
                        refine Lex.trans (mX7_beginBody hc22) ?_
                        exact mX7_perform_b246 h
theorem kX7_perform {G : Gx} {l : Launch} {σ : Shp} {I : Nat → Nat → Int32} {J : Nat → Nat → Int64} {D : Nat → Nat → UInt64} {R : Nat → Nat → Option Nat} {t : Nat} {x1 : Int32} {x2 : Int32} {x3 : Int32} {σ9 : Shp} {I9 : Nat → Nat → Int32} {J9 : Nat → Nat → Int64} {R9 : Nat → Nat → Option Nat} (h : fX7_perform σ I J R t x1 x2 x3 = some (σ9, I9, J9, R9)) : Con G l yX7_perform cX7_perform 6 none 13 307 [vR (some t), vI x1, vI x2, vI x3] (σ, I, J, D, R) (σ9, I9, J9, D, R9) none := by
  unfold fX7_perform at h
  refine Con.mk (by decide +kernel) rfl (Nat.le_of_ble_eq_true rfl) ?_
  show WX7_perform G l σ (σ9, I9, J9, D, R9) none (σ, I, J, D, R) 0 _ []
  refine r_iload_n (pc := 0) dX7_perform_0 rfl 2 rfl ?_
  refine r_iload_n (pc := 1) dX7_perform_1 rfl 3 rfl ?_
  refine r_callS1 (pc := 2) (av := [vI x2, vI x3]) (S := []) dX7_perform_2 (kX7_firstNumberFits rfl) mkX7_178 mwX7_firstNumberFits rfl ⟨Nat.le_of_ble_eq_true rfl, Nat.le_of_ble_eq_true rfl⟩ (Nat.le_of_ble_eq_true rfl) ⟨Nat.le_refl _, Nat.le_refl _⟩ (fun b => b) ?_
  refine r_ifne (pc := 5) (tgt := 15) dX7_perform_5 rfl (fun c => ?_) (fun c => ?_)
  · have h := ie h c
    refine r_aload_n (pc := 15) dX7_perform_15 rfl 0 rfl ?_
    obtain ⟨g1, h⟩ := gd h
    obtain ⟨a2, ha2, h⟩ := ob h
    refine r_getS (pc := 16) dX7_perform_16 fgX7_27 rfl g1 ha2 ?_
    refine r_iload_n (pc := 19) dX7_perform_19 rfl 1 rfl ?_
    refine r_aload_n (pc := 20) dX7_perform_20 rfl 0 rfl ?_
    refine r_getI (pc := 21) dX7_perform_21 fgX7_99 rfl g1 ?_
    obtain ⟨g3, h⟩ := gd h
    obtain ⟨r4, hc5, h⟩ := ob h
    refine r_callV1 (pc := 24) (av := [vI x1, vI (I t 7)]) (S := []) dX7_perform_24 (kX6_bAt hc5) g3 rfl mkX7_149 mwX6_bAt rfl ⟨Nat.le_of_ble_eq_true rfl, Nat.le_of_ble_eq_true rfl⟩ (Nat.le_of_ble_eq_true rfl) ⟨Nat.le_refl _, Nat.le_refl _⟩ (fun b => b) ?_
    refine r_istore (pc := 27) (L' := [(4, vI r4), (0, vR (some t)), (1, vI x1), (2, vI x2), (3, vI x3)]) dX7_perform_27 (by decide) rfl ?_
    refine r_aload_n (pc := 29) dX7_perform_29 rfl 1 rfl ?_
    refine r_getS (pc := 30) dX7_perform_30 fgX7_27 rfl g1 ha2 ?_
    refine r_iload_n (pc := 33) dX7_perform_33 rfl 2 rfl ?_
    refine r_aload_n (pc := 34) dX7_perform_34 rfl 1 rfl ?_
    refine r_getI (pc := 35) dX7_perform_35 fgX7_99 rfl g1 ?_
    obtain ⟨r6, hc7, h⟩ := ob h
    refine r_callV1 (pc := 38) (av := [vI x1, vI (I t 7)]) (S := []) dX7_perform_38 (kX6_cAt hc7) g3 rfl mkX7_155 mwX6_cAt rfl ⟨Nat.le_of_ble_eq_true rfl, Nat.le_of_ble_eq_true rfl⟩ (Nat.le_of_ble_eq_true rfl) ⟨Nat.le_refl _, Nat.le_refl _⟩ (fun b => b) ?_
    refine r_istore (pc := 41) (L' := [(5, vI r6), (4, vI r4), (0, vR (some t)), (1, vI x1), (2, vI x2), (3, vI x3)]) dX7_perform_41 (by decide) rfl ?_
    refine r_iload_n (pc := 43) dX7_perform_43 rfl 4 rfl ?_
    rcases itc h with ⟨c8, h⟩ | ⟨c8, h⟩
    · refine r_tsIn (x := x2) (pc := 44) (tgt := 100) dX7_perform_44 (by rw [c8]; decide) (by rw [c8]; decide) (by rw [c8]; rfl) rfl ?_
      refine r_aload_n (pc := 100) dX7_perform_100 rfl 2 rfl ?_
      obtain ⟨a62, ha62, h⟩ := ob h
      refine r_getS (pc := 101) dX7_perform_101 fgX7_34 rfl g1 ha62 ?_
      refine r_iload_n (pc := 104) dX7_perform_104 rfl 5 rfl ?_
      refine r_aload_n (pc := 105) dX7_perform_105 rfl 2 rfl ?_
      refine r_getS (pc := 106) dX7_perform_106 fgX7_34 rfl g1 ha62 ?_
      obtain ⟨g63, h⟩ := gd h
      obtain ⟨a64, ha64, h⟩ := ob h
      refine r_getS (pc := 109) dX7_perform_109 fgX7_185 rfl g63 ha64 ?_
      refine r_iload_n (pc := 112) dX7_perform_112 rfl 5 rfl ?_
      obtain ⟨g65, h⟩ := gd h
      obtain ⟨g66, h⟩ := gd h
      refine r_laload (pc := 113) dX7_perform_113 g65 g66 ?_
      refine r_iload (pc := 114) dX7_perform_114 1 rfl ?_
      refine r_i2l (pc := 116) dX7_perform_116 ?_
      refine r_ladd (pc := 117) dX7_perform_117 ?_
      obtain ⟨⟨I67, J68, R69⟩, hc70, h⟩ := ob h
      refine r_callV0 (pc := 118) (av := [vI x3, vL ((J a64 (Int32.toNatClampNeg x3)) + (Int32.toInt64 r4))]) (S := []) dX7_perform_118 (kX8_changeStock hc70) g63 rfl mkX7_189 mwX8_changeStock rfl ⟨Nat.le_of_ble_eq_true rfl, Nat.le_of_ble_eq_true rfl⟩ (Nat.le_of_ble_eq_true rfl) ⟨Nat.le_refl _, Nat.le_refl _⟩ (fun b => b) ?_
      refine r_goto (pc := 121) (tgt := 246) dX7_perform_121 rfl ?_
      refine r_sub [] rfl ?_
      exact wX7_perform_b246 h
    · rcases itc h with ⟨c9, h⟩ | ⟨c9, h⟩
      · refine r_tsIn (x := x2) (pc := 44) (tgt := 124) dX7_perform_44 (by rw [c9]; decide) (by rw [c9]; decide) (by rw [c9]; rfl) rfl ?_
        refine r_aload_n (pc := 124) dX7_perform_124 rfl 2 rfl ?_
        refine r_iload_n (pc := 125) dX7_perform_125 rfl 5 rfl ?_
        refine r_iload (pc := 126) dX7_perform_126 1 rfl ?_
        obtain ⟨⟨I58, J59, R60⟩, hc61, h⟩ := ob h
        refine r_callV0 (pc := 128) (av := [vI x3, vI r4]) (S := []) dX7_perform_128 (kX7_divideStock hc61) g1 rfl mkX7_193 mwX7_divideStock rfl ⟨Nat.le_of_ble_eq_true rfl, Nat.le_of_ble_eq_true rfl⟩ (Nat.le_of_ble_eq_true rfl) ⟨Nat.le_refl _, Nat.le_refl _⟩ (fun b => b) ?_
        refine r_goto (pc := 131) (tgt := 246) dX7_perform_131 rfl ?_
        refine r_sub [] rfl ?_
        exact wX7_perform_b246 h
      · rcases itc h with ⟨c10, h⟩ | ⟨c10, h⟩
        · refine r_tsIn (x := x2) (pc := 44) (tgt := 134) dX7_perform_44 (by rw [c10]; decide) (by rw [c10]; decide) (by rw [c10]; rfl) rfl ?_
          refine r_aload_n (pc := 134) dX7_perform_134 rfl 2 rfl ?_
          refine r_iload_n (pc := 135) dX7_perform_135 rfl 5 rfl ?_
          refine r_iload (pc := 136) dX7_perform_136 1 rfl ?_
          refine r_iload (pc := 138) dX7_perform_138 0 rfl ?_
          obtain ⟨⟨I54, J55, R56⟩, hc57, h⟩ := ob h
          refine r_callV0 (pc := 140) (av := [vI x3, vI r4, vI r6]) (S := []) dX7_perform_140 (kX7_layCell hc57) g1 rfl mkX7_196 mwX7_layCell rfl ⟨Nat.le_of_ble_eq_true rfl, Nat.le_of_ble_eq_true rfl⟩ (Nat.le_of_ble_eq_true rfl) ⟨Nat.le_refl _, Nat.le_refl _⟩ (fun b => b) ?_
          refine r_goto (pc := 143) (tgt := 246) dX7_perform_143 rfl ?_
          refine r_sub [] rfl ?_
          exact wX7_perform_b246 h
        · rcases itc h with ⟨c11, h⟩ | ⟨c11, h⟩
          · refine r_tsIn (x := x2) (pc := 44) (tgt := 146) dX7_perform_44 (by rw [c11]; decide) (by rw [c11]; decide) (by rw [c11]; rfl) rfl ?_
            refine r_aload_n (pc := 146) dX7_perform_146 rfl 2 rfl ?_
            refine r_iload_n (pc := 147) dX7_perform_147 rfl 5 rfl ?_
            refine r_iload (pc := 148) dX7_perform_148 1 rfl ?_
            refine r_iload (pc := 150) dX7_perform_150 0 rfl ?_
            obtain ⟨⟨I50, J51, R52⟩, hc53, h⟩ := ob h
            refine r_callV0 (pc := 152) (av := [vI x3, vI r4, vI r6]) (S := []) dX7_perform_152 (kX7_readCell hc53) g1 rfl mkX7_199 mwX7_readCell rfl ⟨Nat.le_of_ble_eq_true rfl, Nat.le_of_ble_eq_true rfl⟩ (Nat.le_of_ble_eq_true rfl) ⟨Nat.le_refl _, Nat.le_refl _⟩ (fun b => b) ?_
            refine r_goto (pc := 155) (tgt := 246) dX7_perform_155 rfl ?_
            refine r_sub [] rfl ?_
            exact wX7_perform_b246 h
          · rcases itc h with ⟨c12, h⟩ | ⟨c12, h⟩
            · refine r_tsIn (x := x2) (pc := 44) (tgt := 158) dX7_perform_44 (by rw [c12]; decide) (by rw [c12]; decide) (by rw [c12]; rfl) rfl ?_
              refine r_aload_n (pc := 158) dX7_perform_158 rfl 2 rfl ?_
              refine r_iload_n (pc := 159) dX7_perform_159 rfl 5 rfl ?_
              refine r_iload (pc := 160) dX7_perform_160 1 rfl ?_
              obtain ⟨⟨I46, J47, R48⟩, hc49, h⟩ := ob h
              refine r_callV0 (pc := 162) (av := [vI x3, vI r4]) (S := []) dX7_perform_162 (kX7_writeCard hc49) g1 rfl mkX7_202 mwX7_writeCard rfl ⟨Nat.le_of_ble_eq_true rfl, Nat.le_of_ble_eq_true rfl⟩ (Nat.le_of_ble_eq_true rfl) ⟨Nat.le_refl _, Nat.le_refl _⟩ (fun b => b) ?_
              refine r_goto (pc := 165) (tgt := 246) dX7_perform_165 rfl ?_
              refine r_sub [] rfl ?_
              exact wX7_perform_b246 h
            · rcases itc h with ⟨c13, h⟩ | ⟨c13, h⟩
              · refine r_tsIn (x := x2) (pc := 44) (tgt := 168) dX7_perform_44 (by rw [c13]; decide) (by rw [c13]; decide) (by rw [c13]; rfl) rfl ?_
                refine r_aload_n (pc := 168) dX7_perform_168 rfl 2 rfl ?_
                refine r_iload_n (pc := 169) dX7_perform_169 rfl 5 rfl ?_
                refine r_iload (pc := 170) dX7_perform_170 1 rfl ?_
                refine r_iload (pc := 172) dX7_perform_172 0 rfl ?_
                obtain ⟨⟨I42, J43, R44⟩, hc45, h⟩ := ob h
                refine r_callV0 (pc := 174) (av := [vI x3, vI r4, vI r6]) (S := []) dX7_perform_174 (kX7_askPlant hc45) g1 rfl mkX7_205 mwX7_askPlant rfl ⟨Nat.le_of_ble_eq_true rfl, Nat.le_of_ble_eq_true rfl⟩ (Nat.le_of_ble_eq_true rfl) ⟨Nat.le_refl _, Nat.le_refl _⟩ (fun b => b) ?_
                refine r_goto (pc := 177) (tgt := 246) dX7_perform_177 rfl ?_
                refine r_sub [] rfl ?_
                exact wX7_perform_b246 h
              · rcases itc h with ⟨c14, h⟩ | ⟨c14, h⟩
                · refine r_tsIn (x := x2) (pc := 44) (tgt := 180) dX7_perform_44 (by rw [c14]; decide) (by rw [c14]; decide) (by rw [c14]; rfl) rfl ?_
                  refine r_aload_n (pc := 180) dX7_perform_180 rfl 2 rfl ?_
                  refine r_bipush (pc := 181) dX7_perform_181 kc_bipush_8 ?_
                  refine r_iload_n (pc := 183) dX7_perform_183 rfl 5 rfl ?_
                  obtain ⟨I40, hc41, h⟩ := ob h
                  refine r_callV0 (pc := 184) (av := [vI (8 : Int32), vI x3]) (S := []) dX7_perform_184 (kX7_arise hc41) g1 rfl mkX7_182 mwX7_arise rfl ⟨Nat.le_of_ble_eq_true rfl, Nat.le_of_ble_eq_true rfl⟩ (Nat.le_of_ble_eq_true rfl) ⟨Nat.le_refl _, Nat.le_refl _⟩ (fun b => b) ?_
                  refine r_goto (pc := 187) (tgt := 246) dX7_perform_187 rfl ?_
                  refine r_sub [] rfl ?_
                  exact wX7_perform_b246 h
                · rcases itc h with ⟨c15, h⟩ | ⟨c15, h⟩
                  · refine r_tsIn (x := x2) (pc := 44) (tgt := 190) dX7_perform_44 (by rw [c15]; decide) (by rw [c15]; decide) (by rw [c15]; rfl) rfl ?_
                    refine r_aload_n (pc := 190) dX7_perform_190 rfl 2 rfl ?_
                    obtain ⟨a34, ha34, h⟩ := ob h
                    refine r_getS (pc := 191) dX7_perform_191 fgX7_44 rfl g1 ha34 ?_
                    refine r_iconst (pc := 194) dX7_perform_194 kc_iconst_0 ?_
                    refine r_iconst (pc := 195) dX7_perform_195 kc_iconst_2 ?_
                    obtain ⟨g35, h⟩ := gd h
                    obtain ⟨g36, h⟩ := gd h
                    refine r_iastore (pc := 196) dX7_perform_196 g35 g36 ?_
                    refine r_aload_n (pc := 197) dX7_perform_197 rfl 2 rfl ?_
                    refine r_getS (pc := 198) dX7_perform_198 fgX7_44 rfl g1 ha34 ?_
                    refine r_iconst (pc := 201) dX7_perform_201 kc_iconst_5 ?_
                    refine r_iload_n (pc := 202) dX7_perform_202 rfl 5 rfl ?_
                    obtain ⟨g38, h⟩ := gd h
                    refine r_iastore (pc := 203) dX7_perform_203 g35 g38 ?_
                    refine r_goto (pc := 204) (tgt := 246) dX7_perform_204 rfl ?_
                    refine r_sub [] rfl ?_
                    exact wX7_perform_b246 h
                  · rcases itc h with ⟨c16, h⟩ | ⟨c16, h⟩
                    · refine r_tsIn (x := x2) (pc := 44) (tgt := 207) dX7_perform_44 (by rw [c16]; decide) (by rw [c16]; decide) (by rw [c16]; rfl) rfl ?_
                      refine r_aload_n (pc := 207) dX7_perform_207 rfl 2 rfl ?_
                      obtain ⟨a27, ha27, h⟩ := ob h
                      refine r_getS (pc := 208) dX7_perform_208 fgX7_34 rfl g1 ha27 ?_
                      obtain ⟨g28, h⟩ := gd h
                      obtain ⟨a29, ha29, h⟩ := ob h
                      refine r_getS (pc := 211) dX7_perform_211 fgX7_208 rfl g28 ha29 ?_
                      refine r_iload_n (pc := 214) dX7_perform_214 rfl 5 rfl ?_
                      obtain ⟨g30, h⟩ := gd h
                      obtain ⟨g31, h⟩ := gd h
                      refine r_iaload (pc := 215) dX7_perform_215 g30 g31 ?_
                      refine r_ifne (pc := 216) (tgt := 246) dX7_perform_216 rfl (fun c => ?_) (fun c => ?_)
                      · have h := ie h c
                        refine r_sub [] rfl ?_
                        exact wX7_perform_b246 h
                      · have h := it h c
                        refine r_aload_n (pc := 219) dX7_perform_219 rfl 2 rfl ?_
                        refine r_bipush (pc := 220) dX7_perform_220 kc_bipush_7 ?_
                        refine r_iconst (pc := 222) dX7_perform_222 kc_iconst_0 ?_
                        obtain ⟨I32, hc33, h⟩ := ob h
                        refine r_callV0 (pc := 223) (av := [vI (7 : Int32), vI (0 : Int32)]) (S := []) dX7_perform_223 (kX7_arise hc33) g1 rfl mkX7_182 mwX7_arise rfl ⟨Nat.le_of_ble_eq_true rfl, Nat.le_of_ble_eq_true rfl⟩ (Nat.le_of_ble_eq_true rfl) ⟨Nat.le_refl _, Nat.le_refl _⟩ (fun b => b) ?_
                        refine r_goto (pc := 226) (tgt := 246) dX7_perform_226 rfl ?_
                        refine r_sub [] rfl ?_
                        exact wX7_perform_b246 h
                    · rcases itc h with ⟨c17, h⟩ | ⟨c17, h⟩
                      · refine r_tsIn (x := x2) (pc := 44) (tgt := 229) dX7_perform_44 (by rw [c17]; decide) (by rw [c17]; decide) (by rw [c17]; rfl) rfl ?_
                        refine r_aload_n (pc := 229) dX7_perform_229 rfl 2 rfl ?_
                        refine r_iload_n (pc := 230) dX7_perform_230 rfl 5 rfl ?_
                        obtain ⟨⟨σ23, I24, R25⟩, hc26, h⟩ := ob h
                        refine r_callV0 (pc := 231) (av := [vI x3]) (S := []) dX7_perform_231 (kX7_doPlan hc26) g1 rfl mkX7_211 mwX7_doPlan rfl ⟨Nat.le_of_ble_eq_true rfl, Nat.le_of_ble_eq_true rfl⟩ (Nat.le_of_ble_eq_true rfl) (mX7_doPlan hc26) (bdx_le (mX7_doPlan hc26) (mX7_perform_b234 h)) ?_
                        refine r_sub [] rfl ?_
                        exact wX7_perform_b234 h
                      · refine r_tsOut (x := x2) (pc := 44) (tgt := 237) dX7_perform_44 (by have ec8 := i32n c8 (k := 1) rfl; have ec9 := i32n c9 (k := 2) rfl; have ec10 := i32n c10 (k := 3) rfl; have ec11 := i32n c11 (k := 4) rfl; have ec12 := i32n c12 (k := 5) rfl; have ec13 := i32n c13 (k := 6) rfl; have ec14 := i32n c14 (k := 7) rfl; have ec15 := i32n c15 (k := 8) rfl; have ec16 := i32n c16 (k := 9) rfl; have ec17 := i32n c17 (k := 10) rfl; omega) rfl ?_
                        refine r_aload_n (pc := 237) dX7_perform_237 rfl 2 rfl ?_
                        refine r_iload_n (pc := 238) dX7_perform_238 rfl 3 rfl ?_
                        refine r_iload_n (pc := 239) dX7_perform_239 rfl 4 rfl ?_
                        refine r_iload_n (pc := 240) dX7_perform_240 rfl 5 rfl ?_
                        refine r_iload (pc := 241) dX7_perform_241 1 rfl ?_
                        obtain ⟨⟨σ18, I19, J20, R21⟩, hc22, h⟩ := ob h
                        refine r_callV0 (pc := 243) (av := [vI x1, vI x2, vI x3, vI r4]) (S := []) dX7_perform_243 (kX7_beginBody hc22) g1 rfl mkX7_215 mwX7_beginBody rfl ⟨Nat.le_of_ble_eq_true rfl, Nat.le_of_ble_eq_true rfl⟩ (Nat.le_of_ble_eq_true rfl) (mX7_beginBody hc22) (bdx_le (mX7_beginBody hc22) (mX7_perform_b246 h)) ?_
                        refine r_sub [] rfl ?_
                        exact wX7_perform_b246 h
  · have h := it h c
    refine r_aload_n (pc := 8) dX7_perform_8 rfl 0 rfl ?_
    refine r_iconst (pc := 9) dX7_perform_9 kc_iconst_2 ?_
    refine r_iconst (pc := 10) dX7_perform_10 kc_iconst_0 ?_
    obtain ⟨g71, h⟩ := gd h
    obtain ⟨I72, hc73, h⟩ := ob h
    refine r_callV0 (pc := 11) (av := [vI (2 : Int32), vI (0 : Int32)]) (S := []) dX7_perform_11 (kX7_arise hc73) g71 rfl mkX7_182 mwX7_arise rfl ⟨Nat.le_of_ble_eq_true rfl, Nat.le_of_ble_eq_true rfl⟩ (Nat.le_of_ble_eq_true rfl) ⟨Nat.le_refl _, Nat.le_refl _⟩ (fun b => b) ?_
    cases h
    exact r_vret dX7_perform_14
abbrev WX7_stepBegins (G : Gx) (l : Launch) (σ0 : Shp) (X1 : Stt) (rv : Option SV) : Stt → Nat → List (Nat × SV) → List SV → Prop := Wm G l yX7_stepBegins cX7_stepBegins 3 (some .boolean) (fun _ => True) (rmx 2 44 σ0 X1.1) σ0 (Qmx G σ0 X1 rv)
def fX7_stepBegins_b57  (σ : Shp) (R : Nat → Nat → Option Nat) (t : Nat) (I : Nat → Nat → Int32) (x2 : Int32) (s0 : Option Nat) (s1 : Int32) : Option ((Nat → Nat → Int32) × (Int32)) :=
  (s0 : Option Nat).bind fun a9 =>
  if kdx σ a9 = 4 then
  let I11 := u2 I a9 3 s1
  if x2 = (17 : Int32) then
    some (I11, (0 : Int32))
  else
    if x2 = (18 : Int32) then
      some (I11, (0 : Int32))
    else
      if x2 = 0 then
        some (I11, (0 : Int32))
      else
        if kdx σ t = 8 then
        (fX7_counted σ I11 R t).bind fun (I13, r14) =>
        if r14 = 0 then
          some (I13, (0 : Int32))
        else
          some (I13, (1 : Int32))
        else none
  else none
theorem wX7_stepBegins_b57 {G : Gx} {l : Launch} {σ : Shp} {I : Nat → Nat → Int32} {J : Nat → Nat → Int64} {D : Nat → Nat → UInt64} {R : Nat → Nat → Option Nat} {t : Nat} {I9 : Nat → Nat → Int32} {r9 : Int32} {x2 : Int32} {s0 : Option Nat} {s1 : Int32} (h : fX7_stepBegins_b57 σ R t I x2 s0 s1 = some (I9, r9)) : WX7_stepBegins G l σ (σ, I9, J, D, R) (some (vI r9)) (σ, I, J, D, R) 57 [(0, vR (some t)), (2, vI x2)] [vI s1, vR s0] := by
  unfold fX7_stepBegins_b57 at h
  obtain ⟨a9, ha9, h⟩ := ob h
  refine r_ref1 ha9 ?_
  obtain ⟨g10, h⟩ := gd h
  refine r_putI (pc := 57) dX7_stepBegins_57 fwX7_82 rfl g10 ?_
  refine r_iload_n (pc := 60) dX7_stepBegins_60 rfl 1 rfl ?_
  refine r_bipush (pc := 61) dX7_stepBegins_61 kc_bipush_17 ?_
  refine r_icmp_eq (pc := 63) (tgt := 87) dX7_stepBegins_63 rfl (fun c => ?_) (fun c => ?_)
  · have h := it h c
    refine r_iconst (pc := 87) dX7_stepBegins_87 kc_iconst_0 ?_
    cases h
    exact r_zret dX7_stepBegins_88 (Or.inl rfl)
  · have h := ie h c
    refine r_iload_n (pc := 66) dX7_stepBegins_66 rfl 1 rfl ?_
    refine r_bipush (pc := 67) dX7_stepBegins_67 kc_bipush_18 ?_
    refine r_icmp_eq (pc := 69) (tgt := 87) dX7_stepBegins_69 rfl (fun c => ?_) (fun c => ?_)
    · have h := it h c
      refine r_iconst (pc := 87) dX7_stepBegins_87 kc_iconst_0 ?_
      cases h
      exact r_zret dX7_stepBegins_88 (Or.inl rfl)
    · have h := ie h c
      refine r_iload_n (pc := 72) dX7_stepBegins_72 rfl 1 rfl ?_
      refine r_if_eq (pc := 73) (tgt := 87) dX7_stepBegins_73 rfl (fun c => ?_) (fun c => ?_)
      · have h := it h c
        refine r_iconst (pc := 87) dX7_stepBegins_87 kc_iconst_0 ?_
        cases h
        exact r_zret dX7_stepBegins_88 (Or.inl rfl)
      · have h := ie h c
        refine r_aload_n (pc := 76) dX7_stepBegins_76 rfl 0 rfl ?_
        obtain ⟨g12, h⟩ := gd h
        obtain ⟨⟨I13, r14⟩, hc15, h⟩ := ob h
        refine r_callV1 (pc := 77) (av := []) (S := []) dX7_stepBegins_77 (kX7_counted hc15) g12 rfl mkX7_161 mwX7_counted rfl ⟨Nat.le_of_ble_eq_true rfl, Nat.le_of_ble_eq_true rfl⟩ (Nat.le_of_ble_eq_true rfl) ⟨Nat.le_refl _, Nat.le_refl _⟩ (fun b => b) ?_
        refine r_if_eq (pc := 80) (tgt := 87) dX7_stepBegins_80 rfl (fun c => ?_) (fun c => ?_)
        · have h := it h c
          refine r_iconst (pc := 87) dX7_stepBegins_87 kc_iconst_0 ?_
          cases h
          exact r_zret dX7_stepBegins_88 (Or.inl rfl)
        · have h := ie h c
          refine r_iconst (pc := 83) dX7_stepBegins_83 kc_iconst_1 ?_
          refine r_goto (pc := 84) (tgt := 88) dX7_stepBegins_84 rfl ?_
          cases h
          exact r_zret dX7_stepBegins_88 (Or.inr rfl)
def fX7_stepBegins (σ : Shp) (I : Nat → Nat → Int32) (R : Nat → Nat → Option Nat) (t : Nat) (x1 : Option Nat) : Option ((Nat → Nat → Int32) × (Int32)) :=
  (x1 : Option Nat).bind fun a1 =>
  if kdx σ a1 = 4 then
  if kdx σ t = 8 then
  let I4 := u2 I t 7 (I a1 3)
  ((R t 2) : Option Nat).bind fun a5 =>
  if kdx σ a5 = 7 then
  (fX6_opAt σ I4 R a5 (I4 a1 1) (I4 t 7)).bind fun r7 =>
  if r7 < (11 : Int32) then
    fX7_stepBegins_b57 σ R t I4 r7 (some a1) ((I4 t 7) + (1 : Int32))
  else
    (fX6_endAt σ I4 R a5 (I4 a1 1) (I4 t 7)).bind fun r16 =>
    fX7_stepBegins_b57 σ R t I4 r7 (some a1) (r16 + (1 : Int32))
  else none
  else none
  else none
theorem kX7_stepBegins {G : Gx} {l : Launch} {σ : Shp} {I : Nat → Nat → Int32} {J : Nat → Nat → Int64} {D : Nat → Nat → UInt64} {R : Nat → Nat → Option Nat} {t : Nat} {x1 : Option Nat} {I9 : Nat → Nat → Int32} {r9 : Int32} (h : fX7_stepBegins σ I R t x1 = some (I9, r9)) : Con G l yX7_stepBegins cX7_stepBegins 3 (some .boolean) 2 44 [vR (some t), vR x1] (σ, I, J, D, R) (σ, I9, J, D, R) (some (vI r9)) := by
  unfold fX7_stepBegins at h
  refine Con.mk (by decide +kernel) rfl (Nat.le_of_ble_eq_true rfl) ?_
  show WX7_stepBegins G l σ (σ, I9, J, D, R) (some (vI r9)) (σ, I, J, D, R) 0 _ []
  refine r_aload_n (pc := 0) dX7_stepBegins_0 rfl 0 rfl ?_
  refine r_aload_n (pc := 1) dX7_stepBegins_1 rfl 1 rfl ?_
  obtain ⟨a1, ha1, h⟩ := ob h
  refine r_ref0 ha1 ?_
  obtain ⟨g2, h⟩ := gd h
  refine r_getI (pc := 2) dX7_stepBegins_2 fgX7_82 rfl g2 ?_
  obtain ⟨g3, h⟩ := gd h
  refine r_putI (pc := 5) dX7_stepBegins_5 fwX7_99 rfl g3 ?_
  refine r_aload_n (pc := 8) dX7_stepBegins_8 rfl 0 rfl ?_
  obtain ⟨a5, ha5, h⟩ := ob h
  refine r_getS (pc := 9) dX7_stepBegins_9 fgX7_27 rfl g3 ha5 ?_
  refine r_aload_n (pc := 12) dX7_stepBegins_12 rfl 1 rfl ?_
  refine r_ref0 ha1 ?_
  refine r_getI (pc := 13) dX7_stepBegins_13 fgX7_96 rfl g2 ?_
  refine r_aload_n (pc := 16) dX7_stepBegins_16 rfl 0 rfl ?_
  refine r_getI (pc := 17) dX7_stepBegins_17 fgX7_99 rfl g3 ?_
  obtain ⟨g6, h⟩ := gd h
  obtain ⟨r7, hc8, h⟩ := ob h
  refine r_callV1 (pc := 20) (av := [vI ((u2 I t 7 (I a1 3)) a1 1), vI ((u2 I t 7 (I a1 3)) t 7)]) (S := []) dX7_stepBegins_20 (kX6_opAt hc8) g6 rfl mkX7_102 mwX6_opAt rfl ⟨Nat.le_of_ble_eq_true rfl, Nat.le_of_ble_eq_true rfl⟩ (Nat.le_of_ble_eq_true rfl) ⟨Nat.le_refl _, Nat.le_refl _⟩ (fun b => b) ?_
  refine r_istore_n (pc := 23) (L' := [(2, vI r7), (0, vR (some t)), (1, vR x1)]) dX7_stepBegins_23 rfl (by decide) rfl ?_
  refine r_aload_n (pc := 24) dX7_stepBegins_24 rfl 2 rfl ?_
  refine r_ref0 ha1 ?_
  refine r_iload_n (pc := 25) dX7_stepBegins_25 rfl 0 rfl ?_
  refine r_bipush (pc := 26) dX7_stepBegins_26 kc_bipush_11 ?_
  refine r_icmp_lt (pc := 28) (tgt := 51) dX7_stepBegins_28 rfl (fun c => ?_) (fun c => ?_)
  · have h := it h c
    refine r_aload_n (pc := 51) dX7_stepBegins_51 rfl 1 rfl ?_
    refine r_getI (pc := 52) dX7_stepBegins_52 fgX7_99 rfl g3 ?_
    refine r_iconst (pc := 55) dX7_stepBegins_55 kc_iconst_1 ?_
    refine r_iadd (pc := 56) dX7_stepBegins_56 ?_
    refine r_sub [1, 0] rfl ?_
    exact wX7_stepBegins_b57 h
  · have h := ie h c
    refine r_aload_n (pc := 31) dX7_stepBegins_31 rfl 1 rfl ?_
    refine r_getS (pc := 32) dX7_stepBegins_32 fgX7_27 rfl g3 ha5 ?_
    refine r_aload_n (pc := 35) dX7_stepBegins_35 rfl 2 rfl ?_
    refine r_ref0 ha1 ?_
    refine r_getI (pc := 36) dX7_stepBegins_36 fgX7_96 rfl g2 ?_
    refine r_aload_n (pc := 39) dX7_stepBegins_39 rfl 1 rfl ?_
    refine r_getI (pc := 40) dX7_stepBegins_40 fgX7_99 rfl g3 ?_
    obtain ⟨r16, hc17, h⟩ := ob h
    refine r_callV1 (pc := 43) (av := [vI ((u2 I t 7 (I a1 3)) a1 1), vI ((u2 I t 7 (I a1 3)) t 7)]) (S := [vR (some a1)]) dX7_stepBegins_43 (kX6_endAt hc17) g6 rfl mkX7_143 mwX6_endAt rfl ⟨Nat.le_of_ble_eq_true rfl, Nat.le_of_ble_eq_true rfl⟩ (Nat.le_of_ble_eq_true rfl) ⟨Nat.le_refl _, Nat.le_refl _⟩ (fun b => b) ?_
    refine r_iconst (pc := 46) dX7_stepBegins_46 kc_iconst_1 ?_
    refine r_iadd (pc := 47) dX7_stepBegins_47 ?_
    refine r_goto (pc := 48) (tgt := 57) dX7_stepBegins_48 rfl ?_
    refine r_sub [1, 0] rfl ?_
    exact wX7_stepBegins_b57 h
abbrev WX8_forgetChanges (G : Gx) (l : Launch) (σ0 : Shp) (X1 : Stt) (rv : Option SV) : Stt → Nat → List (Nat × SV) → List SV → Prop := Wm G l yX8_forgetChanges cX8_forgetChanges 1 none (fun _ => True) (rmx 0 0 σ0 X1.1) σ0 (Qmx G σ0 X1 rv)
def fX8_forgetChanges (σ : Shp) (I : Nat → Nat → Int32) (t : Nat)  : Option ((Nat → Nat → Int32)) :=
  if kdx σ t = 9 then
  let I2 := u2 I t 6 (0 : Int32)
  some I2
  else none
theorem kX8_forgetChanges {G : Gx} {l : Launch} {σ : Shp} {I : Nat → Nat → Int32} {J : Nat → Nat → Int64} {D : Nat → Nat → UInt64} {R : Nat → Nat → Option Nat} {t : Nat}  {I9 : Nat → Nat → Int32} (h : fX8_forgetChanges σ I t = some I9) : Con G l yX8_forgetChanges cX8_forgetChanges 1 none 0 0 [vR (some t)] (σ, I, J, D, R) (σ, I9, J, D, R) none := by
  unfold fX8_forgetChanges at h
  refine Con.mk (by decide +kernel) rfl (Nat.le_of_ble_eq_true rfl) ?_
  show WX8_forgetChanges G l σ (σ, I9, J, D, R) none (σ, I, J, D, R) 0 _ []
  refine r_aload_n (pc := 0) dX8_forgetChanges_0 rfl 0 rfl ?_
  refine r_iconst (pc := 1) dX8_forgetChanges_1 kc_iconst_0 ?_
  obtain ⟨g1, h⟩ := gd h
  refine r_putI (pc := 2) dX8_forgetChanges_2 fwX8_32 rfl g1 ?_
  cases h
  exact r_vret dX8_forgetChanges_5
abbrev WX7_wholeRun (G : Gx) (l : Launch) (σ0 : Shp) (X1 : Stt) (rv : Option SV) : Stt → Nat → List (Nat × SV) → List SV → Prop := Wm G l yX7_wholeRun cX7_wholeRun 4 (some .int) (fun _ => True) (rmx 14 332 σ0 X1.1) σ0 (Qmx G σ0 X1 rv)
def fX7_wholeRun_b182  (t : Nat) (σ : Shp) (I : Nat → Nat → Int32) (J : Nat → Nat → Int64) (R : Nat → Nat → Option Nat) : Option ((Shp) × (Nat → Nat → Int32) × (Nat → Nat → Int64) × (Nat → Nat → Option Nat) × (Int32)) :=
  if kdx σ t = 8 then
  ((R t 5) : Option Nat).bind fun a19 =>
  if kdx σ a19 = 20 then
  if ¬ ((0 : Int32) < 0 ∨ lnx σ a19 ≤ Int32.toNatClampNeg (0 : Int32)) then
  if (I a19 (Int32.toNatClampNeg (0 : Int32))) = (3 : Int32) then
    some (σ, I, J, R, (-30 : Int32))
  else
    if (I a19 (Int32.toNatClampNeg (0 : Int32))) = (2 : Int32) then
      some (σ, I, J, R, (1 : Int32))
    else
      if (I a19 (Int32.toNatClampNeg (0 : Int32))) = (1 : Int32) then
        if ¬ ((1 : Int32) < 0 ∨ lnx σ a19 ≤ Int32.toNatClampNeg (1 : Int32)) then
        some (σ, I, J, R, ((-10 : Int32) - (I a19 (Int32.toNatClampNeg (1 : Int32)))))
        else none
      else
        some (σ, I, J, R, (0 : Int32))
  else none
  else none
  else none
theorem mX7_wholeRun_b182 {σ : Shp} {I : Nat → Nat → Int32} {J : Nat → Nat → Int64} {R : Nat → Nat → Option Nat} {t : Nat} {σ9 : Shp} {I9 : Nat → Nat → Int32} {J9 : Nat → Nat → Int64} {R9 : Nat → Nat → Option Nat} {r9 : Int32}  (h : fX7_wholeRun_b182 t σ I J R = some (σ9, I9, J9, R9, r9)) : Lex σ σ9 := by
  unfold fX7_wholeRun_b182 at h
  replace h := (gd h).2
  obtain ⟨a19, ha19, h⟩ := ob h
  replace h := (gd h).2
  replace h := (gd h).2
  rcases itc h with ⟨c, h⟩ | ⟨c, h⟩
  · cases h
    exact ⟨Nat.le_refl _, Nat.le_refl _⟩
  · rcases itc h with ⟨c, h⟩ | ⟨c, h⟩
    · cases h
      exact ⟨Nat.le_refl _, Nat.le_refl _⟩
    · rcases itc h with ⟨c, h⟩ | ⟨c, h⟩
      · replace h := (gd h).2
        cases h
        exact ⟨Nat.le_refl _, Nat.le_refl _⟩
      · cases h
        exact ⟨Nat.le_refl _, Nat.le_refl _⟩
theorem wX7_wholeRun_b182 {G : Gx} {l : Launch} {σ0 : Shp} {σ : Shp} {I : Nat → Nat → Int32} {J : Nat → Nat → Int64} {D : Nat → Nat → UInt64} {R : Nat → Nat → Option Nat} {t : Nat} {σ9 : Shp} {I9 : Nat → Nat → Int32} {J9 : Nat → Nat → Int64} {R9 : Nat → Nat → Option Nat} {r9 : Int32}  (h : fX7_wholeRun_b182 t σ I J R = some (σ9, I9, J9, R9, r9)) : WX7_wholeRun G l σ0 (σ9, I9, J9, D, R9) (some (vI r9)) (σ, I, J, D, R) 182 [(0, vR (some t))] [] := by
  unfold fX7_wholeRun_b182 at h
  refine r_aload_n (pc := 182) dX7_wholeRun_182 rfl 0 rfl ?_
  obtain ⟨g18, h⟩ := gd h
  obtain ⟨a19, ha19, h⟩ := ob h
  refine r_getS (pc := 183) dX7_wholeRun_183 fgX7_44 rfl g18 ha19 ?_
  refine r_iconst (pc := 186) dX7_wholeRun_186 kc_iconst_0 ?_
  obtain ⟨g20, h⟩ := gd h
  obtain ⟨g21, h⟩ := gd h
  refine r_iaload (pc := 187) dX7_wholeRun_187 g20 g21 ?_
  refine r_iconst (pc := 188) dX7_wholeRun_188 kc_iconst_3 ?_
  refine r_icmp_ne (pc := 189) (tgt := 195) dX7_wholeRun_189 rfl (fun c => ?_) (fun c => ?_)
  · have h := ie h c
    refine r_aload_n (pc := 195) dX7_wholeRun_195 rfl 0 rfl ?_
    refine r_getS (pc := 196) dX7_wholeRun_196 fgX7_44 rfl g18 ha19 ?_
    refine r_iconst (pc := 199) dX7_wholeRun_199 kc_iconst_0 ?_
    refine r_iaload (pc := 200) dX7_wholeRun_200 g20 g21 ?_
    refine r_iconst (pc := 201) dX7_wholeRun_201 kc_iconst_2 ?_
    refine r_icmp_ne (pc := 202) (tgt := 207) dX7_wholeRun_202 rfl (fun c => ?_) (fun c => ?_)
    · have h := ie h c
      refine r_aload_n (pc := 207) dX7_wholeRun_207 rfl 0 rfl ?_
      refine r_getS (pc := 208) dX7_wholeRun_208 fgX7_44 rfl g18 ha19 ?_
      refine r_iconst (pc := 211) dX7_wholeRun_211 kc_iconst_0 ?_
      refine r_iaload (pc := 212) dX7_wholeRun_212 g20 g21 ?_
      refine r_iconst (pc := 213) dX7_wholeRun_213 kc_iconst_1 ?_
      refine r_icmp_ne (pc := 214) (tgt := 229) dX7_wholeRun_214 rfl (fun c => ?_) (fun c => ?_)
      · have h := ie h c
        refine r_iconst (pc := 229) dX7_wholeRun_229 kc_iconst_0 ?_
        cases h
        exact r_iret dX7_wholeRun_230
      · have h := it h c
        refine r_bipush (pc := 217) dX7_wholeRun_217 kc_bipush_m10 ?_
        refine r_aload_n (pc := 219) dX7_wholeRun_219 rfl 0 rfl ?_
        refine r_getS (pc := 220) dX7_wholeRun_220 fgX7_44 rfl g18 ha19 ?_
        refine r_iconst (pc := 223) dX7_wholeRun_223 kc_iconst_1 ?_
        obtain ⟨g22, h⟩ := gd h
        refine r_iaload (pc := 224) dX7_wholeRun_224 g20 g22 ?_
        refine r_isub (pc := 225) dX7_wholeRun_225 ?_
        refine r_goto (pc := 226) (tgt := 230) dX7_wholeRun_226 rfl ?_
        cases h
        exact r_iret dX7_wholeRun_230
    · have h := it h c
      refine r_iconst (pc := 205) dX7_wholeRun_205 kc_iconst_1 ?_
      cases h
      exact r_iret dX7_wholeRun_206
  · have h := it h c
    refine r_bipush (pc := 192) dX7_wholeRun_192 kc_bipush_m30 ?_
    cases h
    exact r_iret dX7_wholeRun_194
def fX7_wholeRun_b176 (q72 : (Shp) → (Nat → Nat → Int32) → (Nat → Nat → Int64) → (Nat → Nat → Option Nat) → (Int32) → (Option ((Shp) × (Nat → Nat → Int32) × (Nat → Nat → Int64) × (Nat → Nat → Option Nat) × (Int32)))) (t : Nat) (σ : Shp) (I : Nat → Nat → Int32) (J : Nat → Nat → Int64) (R : Nat → Nat → Option Nat) (x2 : Int32) : Option ((Shp) × (Nat → Nat → Int32) × (Nat → Nat → Int64) × (Nat → Nat → Option Nat) × (Int32)) :=
  let v28 := x2 + (1 : Int32)
  q72 σ I J R v28
theorem mX7_wholeRun_b176 {σ : Shp} {I : Nat → Nat → Int32} {J : Nat → Nat → Int64} {R : Nat → Nat → Option Nat} {t : Nat} {σ9 : Shp} {I9 : Nat → Nat → Int32} {J9 : Nat → Nat → Int64} {R9 : Nat → Nat → Option Nat} {r9 : Int32} {q72 : (Shp) → (Nat → Nat → Int32) → (Nat → Nat → Int64) → (Nat → Nat → Option Nat) → (Int32) → (Option ((Shp) × (Nat → Nat → Int32) × (Nat → Nat → Int64) × (Nat → Nat → Option Nat) × (Int32)))} {x2 : Int32} (mq72 : ∀ (σ : Shp) (I : Nat → Nat → Int32) (J : Nat → Nat → Int64) (R : Nat → Nat → Option Nat) (x2 : Int32), q72 σ I J R x2 = some (σ9, I9, J9, R9, r9) → Lex σ σ9) (h : fX7_wholeRun_b176 q72 t σ I J R x2 = some (σ9, I9, J9, R9, r9)) : Lex σ σ9 := by
  unfold fX7_wholeRun_b176 at h
  exact mq72 _ _ _ _ _ h
theorem wX7_wholeRun_b176 {G : Gx} {l : Launch} {σ0 : Shp} {σ : Shp} {I : Nat → Nat → Int32} {J : Nat → Nat → Int64} {D : Nat → Nat → UInt64} {R : Nat → Nat → Option Nat} {t : Nat} {σ9 : Shp} {I9 : Nat → Nat → Int32} {J9 : Nat → Nat → Int64} {R9 : Nat → Nat → Option Nat} {r9 : Int32} {q72 : (Shp) → (Nat → Nat → Int32) → (Nat → Nat → Int64) → (Nat → Nat → Option Nat) → (Int32) → (Option ((Shp) × (Nat → Nat → Int32) × (Nat → Nat → Int64) × (Nat → Nat → Option Nat) × (Int32)))} {x2 : Int32} (hq72 : ∀ (σ : Shp) (I : Nat → Nat → Int32) (J : Nat → Nat → Int64) (R : Nat → Nat → Option Nat) (x2 : Int32), q72 σ I J R x2 = some (σ9, I9, J9, R9, r9) → WX7_wholeRun G l σ0 (σ9, I9, J9, D, R9) (some (vI r9)) (σ, I, J, D, R) 72 [(0, vR (some t)), (2, vI x2)] []) (mq72 : ∀ (σ : Shp) (I : Nat → Nat → Int32) (J : Nat → Nat → Int64) (R : Nat → Nat → Option Nat) (x2 : Int32), q72 σ I J R x2 = some (σ9, I9, J9, R9, r9) → Lex σ σ9) (h : fX7_wholeRun_b176 q72 t σ I J R x2 = some (σ9, I9, J9, R9, r9)) : WX7_wholeRun G l σ0 (σ9, I9, J9, D, R9) (some (vI r9)) (σ, I, J, D, R) 176 [(0, vR (some t)), (2, vI x2)] [] := by
  unfold fX7_wholeRun_b176 at h
  refine r_iinc (pc := 176) (v := (x2 + (1 : Int32))) (L' := [(2, vI (x2 + (1 : Int32))), (0, vR (some t))]) dX7_wholeRun_176 1 rfl (kc_inc_1 _) (by decide) rfl ?_
  refine r_goto (pc := 179) (tgt := 72) dX7_wholeRun_179 rfl ?_
  refine r_sub [1, 0] rfl ?_
  exact hq72 _ _ _ _ _ h
def fX7_wholeRun_l72  (t : Nat) : Nat → (Shp) → (Nat → Nat → Int32) → (Nat → Nat → Int64) → (Nat → Nat → Option Nat) → (Int32) → Option ((Shp) × (Nat → Nat → Int32) × (Nat → Nat → Int64) × (Nat → Nat → Option Nat) × (Int32))
  | 0, _, _, _, _, _ => none
  | n + 1, σ, I, J, R, x2 =>
    if (1000000 : Int32) ≤ x2 then
      fX7_wholeRun_b182 t σ I J R
    else
      if kdx σ t = 8 then
      if (I t 6) ≤ 0 then
        fX7_wholeRun_b182 t σ I J R
      else
        (fX7_top σ I R t).bind fun r24 =>
        onl r24
          (
            let I27 := u2 I t 6 (0 : Int32)
            fX7_wholeRun_b176 (fX7_wholeRun_l72 t n) t σ I27 J R x2)
          (fun a26 =>
            ((R t 5) : Option Nat).bind fun a29 =>
            if kdx σ a29 = 20 then
            if ¬ ((0 : Int32) < 0 ∨ lnx σ a29 ≤ Int32.toNatClampNeg (0 : Int32)) then
            if (I a29 (Int32.toNatClampNeg (0 : Int32))) = 0 then
              if kdx σ a26 = 4 then
              if (I a26 3) < (I a26 4) then
                (fX7_stepBegins σ I R t (some a26)).bind fun (I37, r38) =>
                if r38 = 0 then
                  fX7_wholeRun_b176 (fX7_wholeRun_l72 t n) t σ I37 J R x2
                else
                  ((R t 2) : Option Nat).bind fun a40 =>
                  if kdx σ a40 = 7 then
                  (fX6_opAt σ I37 R a40 (I37 a26 1) (I37 t 7)).bind fun r42 =>
                  (fX6_aAt σ I37 R a40 (I37 a26 1) (I37 t 7)).bind fun r44 =>
                  (fX7_perform σ I37 J R t (I37 a26 1) r42 r44).bind fun (σ46, I47, J48, R49) =>
                  fX7_wholeRun_b176 (fX7_wholeRun_l72 t n) t σ46 I47 J48 R49 x2
                  else none
              else
                (fX7_leave σ I J R t (some a26)).bind fun (I51, J52, R53) =>
                fX7_wholeRun_b176 (fX7_wholeRun_l72 t n) t σ I51 J52 R53 x2
              else none
            else
              (fX7_leave σ I J R t (some a26)).bind fun (I32, J33, R34) =>
              fX7_wholeRun_b176 (fX7_wholeRun_l72 t n) t σ I32 J33 R34 x2
            else none
            else none)
      else none
theorem mX7_wholeRun_l72  {t : Nat} {σ9 : Shp} {I9 : Nat → Nat → Int32} {J9 : Nat → Nat → Int64} {R9 : Nat → Nat → Option Nat} {r9 : Int32} : ∀ (n : Nat) (σ : Shp) (I : Nat → Nat → Int32) (J : Nat → Nat → Int64) (R : Nat → Nat → Option Nat) (x2 : Int32), fX7_wholeRun_l72 t n σ I J R x2 = some (σ9, I9, J9, R9, r9) → Lex σ σ9 := by
  intro n
  induction n with
  | zero =>
    intro σ I J R x2 h
    have h : none = some _ := h
    cases h
  | succ n ih =>
    intro σ I J R x2 h
    rw [fX7_wholeRun_l72] at h
    rcases itc h with ⟨c, h⟩ | ⟨c, h⟩
    · exact mX7_wholeRun_b182 h
    · replace h := (gd h).2
      rcases itc h with ⟨c, h⟩ | ⟨c, h⟩
      · exact mX7_wholeRun_b182 h
      · obtain ⟨r24, hc25, h⟩ := ob h
        rcases onl_c h with ⟨ea26, h⟩ | ⟨a26, ha26, h⟩
        · exact mX7_wholeRun_b176 ih h
        · obtain ⟨a29, ha29, h⟩ := ob h
          replace h := (gd h).2
          replace h := (gd h).2
          rcases itc h with ⟨c, h⟩ | ⟨c, h⟩
          · replace h := (gd h).2
            rcases itc h with ⟨c, h⟩ | ⟨c, h⟩
            · obtain ⟨⟨I37, r38⟩, hc39, h⟩ := ob h
              rcases itc h with ⟨c, h⟩ | ⟨c, h⟩
              · exact mX7_wholeRun_b176 ih h
              · obtain ⟨a40, ha40, h⟩ := ob h
                replace h := (gd h).2
                obtain ⟨r42, hc43, h⟩ := ob h
                obtain ⟨r44, hc45, h⟩ := ob h
                obtain ⟨⟨σ46, I47, J48, R49⟩, hc50, h⟩ := ob h
                refine Lex.trans (mX7_perform hc50) ?_
                exact mX7_wholeRun_b176 ih h
            · obtain ⟨⟨I51, J52, R53⟩, hc54, h⟩ := ob h
              exact mX7_wholeRun_b176 ih h
          · obtain ⟨⟨I32, J33, R34⟩, hc35, h⟩ := ob h
            exact mX7_wholeRun_b176 ih h
theorem wX7_wholeRun_l72 {G : Gx} {l : Launch} {σ0 : Shp} {D : Nat → Nat → UInt64} {t : Nat} {σ9 : Shp} {I9 : Nat → Nat → Int32} {J9 : Nat → Nat → Int64} {R9 : Nat → Nat → Option Nat} {r9 : Int32} : ∀ (n : Nat) (σ : Shp) (I : Nat → Nat → Int32) (J : Nat → Nat → Int64) (R : Nat → Nat → Option Nat) (x2 : Int32), fX7_wholeRun_l72 t n σ I J R x2 = some (σ9, I9, J9, R9, r9) → WX7_wholeRun G l σ0 (σ9, I9, J9, D, R9) (some (vI r9)) (σ, I, J, D, R) 72 [(0, vR (some t)), (2, vI x2)] [] := by
  intro n
  induction n with
  | zero =>
    intro σ I J R x2 h
    have h : none = some _ := h
    cases h
  | succ n ih =>
    intro σ I J R x2 h
    rw [fX7_wholeRun_l72] at h
    refine r_iload_n (pc := 72) dX7_wholeRun_72 rfl 1 rfl ?_
    refine r_ldc (pc := 73) dX7_wholeRun_73 ciX7_77 ?_
    refine r_icmp_ge (pc := 75) (tgt := 182) dX7_wholeRun_75 rfl (fun c => ?_) (fun c => ?_)
    · have h := it h c
      refine r_sub [0] rfl ?_
      exact wX7_wholeRun_b182 h
    · have h := ie h c
      refine r_aload_n (pc := 78) dX7_wholeRun_78 rfl 0 rfl ?_
      obtain ⟨g23, h⟩ := gd h
      refine r_getI (pc := 79) dX7_wholeRun_79 fgX7_70 rfl g23 ?_
      refine r_if_le (pc := 82) (tgt := 182) dX7_wholeRun_82 rfl (fun c => ?_) (fun c => ?_)
      · have h := it h c
        refine r_sub [0] rfl ?_
        exact wX7_wholeRun_b182 h
      · have h := ie h c
        refine r_aload_n (pc := 85) dX7_wholeRun_85 rfl 0 rfl ?_
        obtain ⟨r24, hc25, h⟩ := ob h
        refine r_callV1 (pc := 86) (av := []) (S := []) dX7_wholeRun_86 (kX7_top hc25) g23 rfl mkX7_78 mwX7_top rfl ⟨Nat.le_of_ble_eq_true rfl, Nat.le_of_ble_eq_true rfl⟩ (Nat.le_of_ble_eq_true rfl) ⟨Nat.le_refl _, Nat.le_refl _⟩ (fun b => b) ?_
        refine r_astore_n (pc := 89) (L' := [(3, vR r24), (0, vR (some t)), (2, vI x2)]) dX7_wholeRun_89 rfl (by decide) rfl ?_
        refine r_aload_n (pc := 90) dX7_wholeRun_90 rfl 0 rfl ?_
        rcases onl_c h with ⟨ea26, h⟩ | ⟨a26, ha26, h⟩
        · refine r_ref0n ea26 ?_
          refine r_ifnonnull_n (pc := 91) dX7_wholeRun_91 ?_
          refine r_aload_n (pc := 94) dX7_wholeRun_94 rfl 1 rfl ?_
          refine r_iconst (pc := 95) dX7_wholeRun_95 kc_iconst_0 ?_
          refine r_putI (pc := 96) dX7_wholeRun_96 fwX7_70 rfl g23 ?_
          refine r_goto (pc := 99) (tgt := 176) dX7_wholeRun_99 rfl ?_
          refine r_sub [1, 2] rfl ?_
          exact wX7_wholeRun_b176 ih (mX7_wholeRun_l72 n) h
        · refine r_ref0 ha26 ?_
          refine r_ifnonnull_s (pc := 91) (tgt := 102) dX7_wholeRun_91 rfl ?_
          refine r_aload_n (pc := 102) dX7_wholeRun_102 rfl 1 rfl ?_
          obtain ⟨a29, ha29, h⟩ := ob h
          refine r_getS (pc := 103) dX7_wholeRun_103 fgX7_44 rfl g23 ha29 ?_
          refine r_iconst (pc := 106) dX7_wholeRun_106 kc_iconst_0 ?_
          obtain ⟨g30, h⟩ := gd h
          obtain ⟨g31, h⟩ := gd h
          refine r_iaload (pc := 107) dX7_wholeRun_107 g30 g31 ?_
          refine r_ifne (pc := 108) (tgt := 122) dX7_wholeRun_108 rfl (fun c => ?_) (fun c => ?_)
          · have h := ie h c
            refine r_aload_n (pc := 122) dX7_wholeRun_122 rfl 1 rfl ?_
            refine r_aload_n (pc := 123) dX7_wholeRun_123 rfl 0 rfl ?_
            refine r_ref0 ha26 ?_
            obtain ⟨⟨I32, J33, R34⟩, hc35, h⟩ := ob h
            refine r_callV0 (pc := 124) (av := [vR (some a26)]) (S := []) dX7_wholeRun_124 (kX7_leave hc35) g23 rfl mkX7_88 mwX7_leave rfl ⟨Nat.le_of_ble_eq_true rfl, Nat.le_of_ble_eq_true rfl⟩ (Nat.le_of_ble_eq_true rfl) ⟨Nat.le_refl _, Nat.le_refl _⟩ (fun b => b) ?_
            refine r_goto (pc := 127) (tgt := 176) dX7_wholeRun_127 rfl ?_
            refine r_sub [1, 2] rfl ?_
            exact wX7_wholeRun_b176 ih (mX7_wholeRun_l72 n) h
          · have h := it h c
            refine r_aload_n (pc := 111) dX7_wholeRun_111 rfl 0 rfl ?_
            refine r_ref0 ha26 ?_
            obtain ⟨g36, h⟩ := gd h
            refine r_getI (pc := 112) dX7_wholeRun_112 fgX7_82 rfl g36 ?_
            refine r_aload_n (pc := 115) dX7_wholeRun_115 rfl 0 rfl ?_
            refine r_ref0 ha26 ?_
            refine r_getI (pc := 116) dX7_wholeRun_116 fgX7_85 rfl g36 ?_
            refine r_icmp_lt (pc := 119) (tgt := 130) dX7_wholeRun_119 rfl (fun c => ?_) (fun c => ?_)
            · have h := it h c
              refine r_aload_n (pc := 130) dX7_wholeRun_130 rfl 1 rfl ?_
              refine r_aload_n (pc := 131) dX7_wholeRun_131 rfl 0 rfl ?_
              refine r_ref0 ha26 ?_
              obtain ⟨⟨I37, r38⟩, hc39, h⟩ := ob h
              refine r_callV1 (pc := 132) (av := [vR (some a26)]) (S := []) dX7_wholeRun_132 (kX7_stepBegins hc39) g23 rfl mkX7_92 mwX7_stepBegins rfl ⟨Nat.le_of_ble_eq_true rfl, Nat.le_of_ble_eq_true rfl⟩ (Nat.le_of_ble_eq_true rfl) ⟨Nat.le_refl _, Nat.le_refl _⟩ (fun b => b) ?_
              refine r_if_eq (pc := 135) (tgt := 176) dX7_wholeRun_135 rfl (fun c => ?_) (fun c => ?_)
              · have h := it h c
                refine r_sub [1, 2] rfl ?_
                exact wX7_wholeRun_b176 ih (mX7_wholeRun_l72 n) h
              · have h := ie h c
                refine r_aload_n (pc := 138) dX7_wholeRun_138 rfl 1 rfl ?_
                refine r_aload_n (pc := 139) dX7_wholeRun_139 rfl 0 rfl ?_
                refine r_ref0 ha26 ?_
                refine r_getI (pc := 140) dX7_wholeRun_140 fgX7_96 rfl g36 ?_
                refine r_aload_n (pc := 143) dX7_wholeRun_143 rfl 1 rfl ?_
                obtain ⟨a40, ha40, h⟩ := ob h
                refine r_getS (pc := 144) dX7_wholeRun_144 fgX7_27 rfl g23 ha40 ?_
                refine r_aload_n (pc := 147) dX7_wholeRun_147 rfl 0 rfl ?_
                refine r_ref0 ha26 ?_
                refine r_getI (pc := 148) dX7_wholeRun_148 fgX7_96 rfl g36 ?_
                refine r_aload_n (pc := 151) dX7_wholeRun_151 rfl 1 rfl ?_
                refine r_getI (pc := 152) dX7_wholeRun_152 fgX7_99 rfl g23 ?_
                obtain ⟨g41, h⟩ := gd h
                obtain ⟨r42, hc43, h⟩ := ob h
                refine r_callV1 (pc := 155) (av := [vI (I37 a26 1), vI (I37 t 7)]) (S := [vI (I37 a26 1), vR (some t)]) dX7_wholeRun_155 (kX6_opAt hc43) g41 rfl mkX7_102 mwX6_opAt rfl ⟨Nat.le_of_ble_eq_true rfl, Nat.le_of_ble_eq_true rfl⟩ (Nat.le_of_ble_eq_true rfl) ⟨Nat.le_refl _, Nat.le_refl _⟩ (fun b => b) ?_
                refine r_aload_n (pc := 158) dX7_wholeRun_158 rfl 1 rfl ?_
                refine r_getS (pc := 159) dX7_wholeRun_159 fgX7_27 rfl g23 ha40 ?_
                refine r_aload_n (pc := 162) dX7_wholeRun_162 rfl 0 rfl ?_
                refine r_ref0 ha26 ?_
                refine r_getI (pc := 163) dX7_wholeRun_163 fgX7_96 rfl g36 ?_
                refine r_aload_n (pc := 166) dX7_wholeRun_166 rfl 1 rfl ?_
                refine r_getI (pc := 167) dX7_wholeRun_167 fgX7_99 rfl g23 ?_
                obtain ⟨r44, hc45, h⟩ := ob h
                refine r_callV1 (pc := 170) (av := [vI (I37 a26 1), vI (I37 t 7)]) (S := [vI r42, vI (I37 a26 1), vR (some t)]) dX7_wholeRun_170 (kX6_aAt hc45) g41 rfl mkX7_106 mwX6_aAt rfl ⟨Nat.le_of_ble_eq_true rfl, Nat.le_of_ble_eq_true rfl⟩ (Nat.le_of_ble_eq_true rfl) ⟨Nat.le_refl _, Nat.le_refl _⟩ (fun b => b) ?_
                obtain ⟨⟨σ46, I47, J48, R49⟩, hc50, h⟩ := ob h
                refine r_callV0 (pc := 173) (av := [vI (I37 a26 1), vI r42, vI r44]) (S := []) dX7_wholeRun_173 (kX7_perform hc50) g23 rfl mkX7_109 mwX7_perform rfl ⟨Nat.le_of_ble_eq_true rfl, Nat.le_of_ble_eq_true rfl⟩ (Nat.le_of_ble_eq_true rfl) (mX7_perform hc50) (bdx_le (mX7_perform hc50) (mX7_wholeRun_b176 (mX7_wholeRun_l72 n) h)) ?_
                refine r_sub [1, 2] rfl ?_
                exact wX7_wholeRun_b176 ih (mX7_wholeRun_l72 n) h
            · have h := ie h c
              refine r_aload_n (pc := 122) dX7_wholeRun_122 rfl 1 rfl ?_
              refine r_aload_n (pc := 123) dX7_wholeRun_123 rfl 0 rfl ?_
              refine r_ref0 ha26 ?_
              obtain ⟨⟨I51, J52, R53⟩, hc54, h⟩ := ob h
              refine r_callV0 (pc := 124) (av := [vR (some a26)]) (S := []) dX7_wholeRun_124 (kX7_leave hc54) g23 rfl mkX7_88 mwX7_leave rfl ⟨Nat.le_of_ble_eq_true rfl, Nat.le_of_ble_eq_true rfl⟩ (Nat.le_of_ble_eq_true rfl) ⟨Nat.le_refl _, Nat.le_refl _⟩ (fun b => b) ?_
              refine r_goto (pc := 127) (tgt := 176) dX7_wholeRun_127 rfl ?_
              refine r_sub [1, 2] rfl ?_
              exact wX7_wholeRun_b176 ih (mX7_wholeRun_l72 n) h
def fX7_wholeRun_b70  (t : Nat) (σ : Shp) (I : Nat → Nat → Int32) (J : Nat → Nat → Int64) (R : Nat → Nat → Option Nat) : Option ((Shp) × (Nat → Nat → Int32) × (Nat → Nat → Int64) × (Nat → Nat → Option Nat) × (Int32)) :=
  fX7_wholeRun_l72 t FUx σ I J R (0 : Int32)
theorem mX7_wholeRun_b70 {σ : Shp} {I : Nat → Nat → Int32} {J : Nat → Nat → Int64} {R : Nat → Nat → Option Nat} {t : Nat} {σ9 : Shp} {I9 : Nat → Nat → Int32} {J9 : Nat → Nat → Int64} {R9 : Nat → Nat → Option Nat} {r9 : Int32}  (h : fX7_wholeRun_b70 t σ I J R = some (σ9, I9, J9, R9, r9)) : Lex σ σ9 := by
  unfold fX7_wholeRun_b70 at h
  exact mX7_wholeRun_l72 _ _ _ _ _ _ h
theorem wX7_wholeRun_b70 {G : Gx} {l : Launch} {σ0 : Shp} {σ : Shp} {I : Nat → Nat → Int32} {J : Nat → Nat → Int64} {D : Nat → Nat → UInt64} {R : Nat → Nat → Option Nat} {t : Nat} {σ9 : Shp} {I9 : Nat → Nat → Int32} {J9 : Nat → Nat → Int64} {R9 : Nat → Nat → Option Nat} {r9 : Int32}  (h : fX7_wholeRun_b70 t σ I J R = some (σ9, I9, J9, R9, r9)) : WX7_wholeRun G l σ0 (σ9, I9, J9, D, R9) (some (vI r9)) (σ, I, J, D, R) 70 [(0, vR (some t))] [] := by
  unfold fX7_wholeRun_b70 at h
  refine r_iconst (pc := 70) dX7_wholeRun_70 kc_iconst_0 ?_
  refine r_istore_n (pc := 71) (L' := [(2, vI (0 : Int32)), (0, vR (some t))]) dX7_wholeRun_71 rfl (by decide) rfl ?_
  refine r_sub [1, 0] rfl ?_
  exact wX7_wholeRun_l72 _ _ _ _ _ _ h
def fX7_wholeRun_l44  (t : Nat) : Nat → (Shp) → (Nat → Nat → Int32) → (Nat → Nat → Int64) → (Nat → Nat → Option Nat) → (Int32) → (Int32) → Option ((Shp) × (Nat → Nat → Int32) × (Nat → Nat → Int64) × (Nat → Nat → Option Nat) × (Int32))
  | 0, _, _, _, _, _, _ => none
  | n + 1, σ, I, J, R, x1, x2 =>
    if (6 : Int32) ≤ x2 then
      if kdx σ t = 8 then
      (fX7_enterPlan σ I R t (21 : Int32) x1).bind fun (σ14, I15, R16) =>
      fX7_wholeRun_b70 t σ14 I15 J R16
      else none
    else
      if kdx σ t = 8 then
      ((R t 5) : Option Nat).bind fun a56 =>
      if kdx σ a56 = 20 then
      if ¬ (x2 < 0 ∨ lnx σ a56 ≤ Int32.toNatClampNeg x2) then
      let I59 := u2 I a56 (Int32.toNatClampNeg x2) (0 : Int32)
      let v60 := x2 + (1 : Int32)
      fX7_wholeRun_l44 t n σ I59 J R x1 v60
      else none
      else none
      else none
theorem mX7_wholeRun_l44  {t : Nat} {σ9 : Shp} {I9 : Nat → Nat → Int32} {J9 : Nat → Nat → Int64} {R9 : Nat → Nat → Option Nat} {r9 : Int32} : ∀ (n : Nat) (σ : Shp) (I : Nat → Nat → Int32) (J : Nat → Nat → Int64) (R : Nat → Nat → Option Nat) (x1 : Int32) (x2 : Int32), fX7_wholeRun_l44 t n σ I J R x1 x2 = some (σ9, I9, J9, R9, r9) → Lex σ σ9 := by
  intro n
  induction n with
  | zero =>
    intro σ I J R x1 x2 h
    have h : none = some _ := h
    cases h
  | succ n ih =>
    intro σ I J R x1 x2 h
    rw [fX7_wholeRun_l44] at h
    rcases itc h with ⟨c, h⟩ | ⟨c, h⟩
    · replace h := (gd h).2
      obtain ⟨⟨σ14, I15, R16⟩, hc17, h⟩ := ob h
      refine Lex.trans (mX7_enterPlan hc17) ?_
      exact mX7_wholeRun_b70 h
    · replace h := (gd h).2
      obtain ⟨a56, ha56, h⟩ := ob h
      replace h := (gd h).2
      replace h := (gd h).2
      exact ih _ _ _ _ _ _ h
theorem wX7_wholeRun_l44 {G : Gx} {l : Launch} {σ0 : Shp} {D : Nat → Nat → UInt64} {t : Nat} {σ9 : Shp} {I9 : Nat → Nat → Int32} {J9 : Nat → Nat → Int64} {R9 : Nat → Nat → Option Nat} {r9 : Int32} : ∀ (n : Nat) (σ : Shp) (I : Nat → Nat → Int32) (J : Nat → Nat → Int64) (R : Nat → Nat → Option Nat) (x1 : Int32) (x2 : Int32), fX7_wholeRun_l44 t n σ I J R x1 x2 = some (σ9, I9, J9, R9, r9) → WX7_wholeRun G l σ0 (σ9, I9, J9, D, R9) (some (vI r9)) (σ, I, J, D, R) 44 [(0, vR (some t)), (1, vI x1), (2, vI x2)] [] := by
  intro n
  induction n with
  | zero =>
    intro σ I J R x1 x2 h
    have h : none = some _ := h
    cases h
  | succ n ih =>
    intro σ I J R x1 x2 h
    rw [fX7_wholeRun_l44] at h
    refine r_iload_n (pc := 44) dX7_wholeRun_44 rfl 2 rfl ?_
    refine r_bipush (pc := 45) dX7_wholeRun_45 kc_bipush_6 ?_
    refine r_icmp_ge (pc := 47) (tgt := 63) dX7_wholeRun_47 rfl (fun c => ?_) (fun c => ?_)
    · have h := it h c
      refine r_aload_n (pc := 63) dX7_wholeRun_63 rfl 0 rfl ?_
      refine r_bipush (pc := 64) dX7_wholeRun_64 kc_bipush_21 ?_
      refine r_iload_n (pc := 66) dX7_wholeRun_66 rfl 1 rfl ?_
      obtain ⟨g13, h⟩ := gd h
      obtain ⟨⟨σ14, I15, R16⟩, hc17, h⟩ := ob h
      refine r_callV0 (pc := 67) (av := [vI (21 : Int32), vI x1]) (S := []) dX7_wholeRun_67 (kX7_enterPlan hc17) g13 rfl mkX7_73 mwX7_enterPlan rfl ⟨Nat.le_of_ble_eq_true rfl, Nat.le_of_ble_eq_true rfl⟩ (Nat.le_of_ble_eq_true rfl) (mX7_enterPlan hc17) (bdx_le (mX7_enterPlan hc17) (mX7_wholeRun_b70 h)) ?_
      refine r_sub [0] rfl ?_
      exact wX7_wholeRun_b70 h
    · have h := ie h c
      refine r_aload_n (pc := 50) dX7_wholeRun_50 rfl 0 rfl ?_
      obtain ⟨g55, h⟩ := gd h
      obtain ⟨a56, ha56, h⟩ := ob h
      refine r_getS (pc := 51) dX7_wholeRun_51 fgX7_44 rfl g55 ha56 ?_
      refine r_iload_n (pc := 54) dX7_wholeRun_54 rfl 2 rfl ?_
      refine r_iconst (pc := 55) dX7_wholeRun_55 kc_iconst_0 ?_
      obtain ⟨g57, h⟩ := gd h
      obtain ⟨g58, h⟩ := gd h
      refine r_iastore (pc := 56) dX7_wholeRun_56 g57 g58 ?_
      refine r_iinc (pc := 57) (v := (x2 + (1 : Int32))) (L' := [(2, vI (x2 + (1 : Int32))), (0, vR (some t)), (1, vI x1)]) dX7_wholeRun_57 2 rfl (kc_inc_1 _) (by decide) rfl ?_
      refine r_goto (pc := 60) (tgt := 44) dX7_wholeRun_60 rfl ?_
      refine r_sub [1, 2, 0] rfl ?_
      exact ih _ _ _ _ _ _ h
def fX7_wholeRun (σ : Shp) (I : Nat → Nat → Int32) (J : Nat → Nat → Int64) (R : Nat → Nat → Option Nat) (t : Nat) (x1 : Int32) : Option ((Shp) × (Nat → Nat → Int32) × (Nat → Nat → Int64) × (Nat → Nat → Option Nat) × (Int32)) :=
  if kdx σ t = 8 then
  ((R t 3) : Option Nat).bind fun a2 =>
  if kdx σ a2 = 9 then
  (fX8_forgetChanges σ I a2).bind fun I4 =>
  let I6 := u2 I4 t 8 (0 : Int32)
  let I7 := u2 I6 t 9 (0 : Int32)
  let I8 := u2 I7 t 10 (0 : Int32)
  let I9 := u2 I8 t 11 (0 : Int32)
  let I10 := u2 I9 t 12 (0 : Int32)
  let I11 := u2 I10 t 13 (0 : Int32)
  let I12 := u2 I11 t 6 (0 : Int32)
  fX7_wholeRun_l44 t FUx σ I12 J R x1 (0 : Int32)
  else none
  else none
theorem mX7_wholeRun {σ : Shp} {I : Nat → Nat → Int32} {J : Nat → Nat → Int64} {R : Nat → Nat → Option Nat} {t : Nat} {x1 : Int32} {σ9 : Shp} {I9 : Nat → Nat → Int32} {J9 : Nat → Nat → Int64} {R9 : Nat → Nat → Option Nat} {r9 : Int32} (h : fX7_wholeRun σ I J R t x1 = some (σ9, I9, J9, R9, r9)) : Lex σ σ9 := by
  unfold fX7_wholeRun at h
  replace h := (gd h).2
  obtain ⟨a2, ha2, h⟩ := ob h
  replace h := (gd h).2
  obtain ⟨I4, hc5, h⟩ := ob h
  exact mX7_wholeRun_l44 _ _ _ _ _ _ _ h
theorem kX7_wholeRun {G : Gx} {l : Launch} {σ : Shp} {I : Nat → Nat → Int32} {J : Nat → Nat → Int64} {D : Nat → Nat → UInt64} {R : Nat → Nat → Option Nat} {t : Nat} {x1 : Int32} {σ9 : Shp} {I9 : Nat → Nat → Int32} {J9 : Nat → Nat → Int64} {R9 : Nat → Nat → Option Nat} {r9 : Int32} (h : fX7_wholeRun σ I J R t x1 = some (σ9, I9, J9, R9, r9)) : Con G l yX7_wholeRun cX7_wholeRun 4 (some .int) 14 332 [vR (some t), vI x1] (σ, I, J, D, R) (σ9, I9, J9, D, R9) (some (vI r9)) := by
  unfold fX7_wholeRun at h
  refine Con.mk (by decide +kernel) rfl (Nat.le_of_ble_eq_true rfl) ?_
  show WX7_wholeRun G l σ (σ9, I9, J9, D, R9) (some (vI r9)) (σ, I, J, D, R) 0 _ []
  refine r_aload_n (pc := 0) dX7_wholeRun_0 rfl 0 rfl ?_
  obtain ⟨g1, h⟩ := gd h
  obtain ⟨a2, ha2, h⟩ := ob h
  refine r_getS (pc := 1) dX7_wholeRun_1 fgX7_34 rfl g1 ha2 ?_
  obtain ⟨g3, h⟩ := gd h
  obtain ⟨I4, hc5, h⟩ := ob h
  refine r_callV0 (pc := 4) (av := []) (S := []) dX7_wholeRun_4 (kX8_forgetChanges hc5) g3 rfl mkX7_48 mwX8_forgetChanges rfl ⟨Nat.le_of_ble_eq_true rfl, Nat.le_of_ble_eq_true rfl⟩ (Nat.le_of_ble_eq_true rfl) ⟨Nat.le_refl _, Nat.le_refl _⟩ (fun b => b) ?_
  refine r_aload_n (pc := 7) dX7_wholeRun_7 rfl 0 rfl ?_
  refine r_iconst (pc := 8) dX7_wholeRun_8 kc_iconst_0 ?_
  refine r_putI (pc := 9) dX7_wholeRun_9 fwX7_51 rfl g1 ?_
  refine r_aload_n (pc := 12) dX7_wholeRun_12 rfl 0 rfl ?_
  refine r_iconst (pc := 13) dX7_wholeRun_13 kc_iconst_0 ?_
  refine r_putI (pc := 14) dX7_wholeRun_14 fwX7_55 rfl g1 ?_
  refine r_aload_n (pc := 17) dX7_wholeRun_17 rfl 0 rfl ?_
  refine r_iconst (pc := 18) dX7_wholeRun_18 kc_iconst_0 ?_
  refine r_putI (pc := 19) dX7_wholeRun_19 fwX7_58 rfl g1 ?_
  refine r_aload_n (pc := 22) dX7_wholeRun_22 rfl 0 rfl ?_
  refine r_iconst (pc := 23) dX7_wholeRun_23 kc_iconst_0 ?_
  refine r_putI (pc := 24) dX7_wholeRun_24 fwX7_61 rfl g1 ?_
  refine r_aload_n (pc := 27) dX7_wholeRun_27 rfl 0 rfl ?_
  refine r_iconst (pc := 28) dX7_wholeRun_28 kc_iconst_0 ?_
  refine r_putI (pc := 29) dX7_wholeRun_29 fwX7_64 rfl g1 ?_
  refine r_aload_n (pc := 32) dX7_wholeRun_32 rfl 0 rfl ?_
  refine r_iconst (pc := 33) dX7_wholeRun_33 kc_iconst_0 ?_
  refine r_putI (pc := 34) dX7_wholeRun_34 fwX7_67 rfl g1 ?_
  refine r_aload_n (pc := 37) dX7_wholeRun_37 rfl 0 rfl ?_
  refine r_iconst (pc := 38) dX7_wholeRun_38 kc_iconst_0 ?_
  refine r_putI (pc := 39) dX7_wholeRun_39 fwX7_70 rfl g1 ?_
  refine r_iconst (pc := 42) dX7_wholeRun_42 kc_iconst_0 ?_
  refine r_istore_n (pc := 43) (L' := [(2, vI (0 : Int32)), (0, vR (some t)), (1, vI x1)]) dX7_wholeRun_43 rfl (by decide) rfl ?_
  refine r_sub [1, 2, 0] rfl ?_
  exact wX7_wholeRun_l44 _ _ _ _ _ _ _ h
abbrev WX7_faultOut (G : Gx) (l : Launch) (σ0 : Shp) (X1 : Stt) (rv : Option SV) : Stt → Nat → List (Nat × SV) → List SV → Prop := Wm G l yX7_faultOut cX7_faultOut 1 (some .int) (fun _ => True) (rmx 0 0 σ0 X1.1) σ0 (Qmx G σ0 X1 rv)
def fX7_faultOut (σ : Shp) (I : Nat → Nat → Int32) (R : Nat → Nat → Option Nat) (t : Nat)  : Option ((Int32)) :=
  if kdx σ t = 8 then
  ((R t 5) : Option Nat).bind fun a2 =>
  if kdx σ a2 = 20 then
  if ¬ ((0 : Int32) < 0 ∨ lnx σ a2 ≤ Int32.toNatClampNeg (0 : Int32)) then
  if (I a2 (Int32.toNatClampNeg (0 : Int32))) = (1 : Int32) then
    if ¬ ((1 : Int32) < 0 ∨ lnx σ a2 ≤ Int32.toNatClampNeg (1 : Int32)) then
    some (I a2 (Int32.toNatClampNeg (1 : Int32)))
    else none
  else
    some (0 : Int32)
  else none
  else none
  else none
theorem kX7_faultOut {G : Gx} {l : Launch} {σ : Shp} {I : Nat → Nat → Int32} {J : Nat → Nat → Int64} {D : Nat → Nat → UInt64} {R : Nat → Nat → Option Nat} {t : Nat}  {r9 : Int32} (h : fX7_faultOut σ I R t = some r9) : Con G l yX7_faultOut cX7_faultOut 1 (some .int) 0 0 [vR (some t)] (σ, I, J, D, R) (σ, I, J, D, R) (some (vI r9)) := by
  unfold fX7_faultOut at h
  refine Con.mk (by decide +kernel) rfl (Nat.le_of_ble_eq_true rfl) ?_
  show WX7_faultOut G l σ (σ, I, J, D, R) (some (vI r9)) (σ, I, J, D, R) 0 _ []
  refine r_aload_n (pc := 0) dX7_faultOut_0 rfl 0 rfl ?_
  obtain ⟨g1, h⟩ := gd h
  obtain ⟨a2, ha2, h⟩ := ob h
  refine r_getS (pc := 1) dX7_faultOut_1 fgX7_44 rfl g1 ha2 ?_
  refine r_iconst (pc := 4) dX7_faultOut_4 kc_iconst_0 ?_
  obtain ⟨g3, h⟩ := gd h
  obtain ⟨g4, h⟩ := gd h
  refine r_iaload (pc := 5) dX7_faultOut_5 g3 g4 ?_
  refine r_iconst (pc := 6) dX7_faultOut_6 kc_iconst_1 ?_
  refine r_icmp_ne (pc := 7) (tgt := 19) dX7_faultOut_7 rfl (fun c => ?_) (fun c => ?_)
  · have h := ie h c
    refine r_iconst (pc := 19) dX7_faultOut_19 kc_iconst_0 ?_
    cases h
    exact r_iret dX7_faultOut_20
  · have h := it h c
    refine r_aload_n (pc := 10) dX7_faultOut_10 rfl 0 rfl ?_
    refine r_getS (pc := 11) dX7_faultOut_11 fgX7_44 rfl g1 ha2 ?_
    refine r_iconst (pc := 14) dX7_faultOut_14 kc_iconst_1 ?_
    obtain ⟨g5, h⟩ := gd h
    refine r_iaload (pc := 15) dX7_faultOut_15 g3 g5 ?_
    refine r_goto (pc := 16) (tgt := 20) dX7_faultOut_16 rfl ?_
    cases h
    exact r_iret dX7_faultOut_20
abbrev WX7_toldOf (G : Gx) (l : Launch) (σ0 : Shp) (X1 : Stt) (rv : Option SV) : Stt → Nat → List (Nat × SV) → List SV → Prop := Wm G l yX7_toldOf cX7_toldOf 3 (some .int) (fun _ => True) (rmx 0 0 σ0 X1.1) σ0 (Qmx G σ0 X1 rv)
def fX7_toldOf_b15  (σ : Shp) (I : Nat → Nat → Int32) (R : Nat → Nat → Option Nat) (t : Nat) (x1 : Int32) (s0 : Int32) : Option ((Int32)) :=
  if x1 = (0 : Int32) then
    if kdx σ t = 8 then
    ((R t 5) : Option Nat).bind fun a31 =>
    if kdx σ a31 = 20 then
    if ¬ ((0 : Int32) < 0 ∨ lnx σ a31 ≤ Int32.toNatClampNeg (0 : Int32)) then
    if (I a31 (Int32.toNatClampNeg (0 : Int32))) = (2 : Int32) then
      if ¬ ((5 : Int32) < 0 ∨ lnx σ a31 ≤ Int32.toNatClampNeg (5 : Int32)) then
      some (I a31 (Int32.toNatClampNeg (5 : Int32)))
      else none
    else
      some (0 : Int32)
    else none
    else none
    else none
  else
  if x1 = (1 : Int32) then
    if kdx σ t = 8 then
    some (I t 9)
    else none
  else
  if x1 = (2 : Int32) then
    if s0 = 0 then
      some (-1 : Int32)
    else
      if kdx σ t = 8 then
      ((R t 5) : Option Nat).bind fun a26 =>
      if kdx σ a26 = 20 then
      if ¬ ((3 : Int32) < 0 ∨ lnx σ a26 ≤ Int32.toNatClampNeg (3 : Int32)) then
      some (I a26 (Int32.toNatClampNeg (3 : Int32)))
      else none
      else none
      else none
  else
  if x1 = (3 : Int32) then
    if s0 = 0 then
      some (0 : Int32)
    else
      if kdx σ t = 8 then
      ((R t 5) : Option Nat).bind fun a22 =>
      if kdx σ a22 = 20 then
      if ¬ ((4 : Int32) < 0 ∨ lnx σ a22 ≤ Int32.toNatClampNeg (4 : Int32)) then
      some (I a22 (Int32.toNatClampNeg (4 : Int32)))
      else none
      else none
      else none
  else
  if x1 = (4 : Int32) then
    if kdx σ t = 8 then
    some (I t 10)
    else none
  else
  if x1 = (5 : Int32) then
    if kdx σ t = 8 then
    some (I t 11)
    else none
  else
  if x1 = (6 : Int32) then
    if kdx σ t = 8 then
    some (I t 12)
    else none
  else
  if x1 = (7 : Int32) then
    if s0 = 0 then
      some (0 : Int32)
    else
      if kdx σ t = 8 then
      ((R t 5) : Option Nat).bind fun a15 =>
      if kdx σ a15 = 20 then
      if ¬ ((2 : Int32) < 0 ∨ lnx σ a15 ≤ Int32.toNatClampNeg (2 : Int32)) then
      some (I a15 (Int32.toNatClampNeg (2 : Int32)))
      else none
      else none
      else none
  else
  if kdx σ t = 8 then
  some (I t 13)
  else none
theorem wX7_toldOf_b15 {G : Gx} {l : Launch} {σ : Shp} {I : Nat → Nat → Int32} {J : Nat → Nat → Int64} {D : Nat → Nat → UInt64} {R : Nat → Nat → Option Nat} {t : Nat} {r9 : Int32} {x1 : Int32} {s0 : Int32} (h : fX7_toldOf_b15 σ I R t x1 s0 = some r9) : WX7_toldOf G l σ (σ, I, J, D, R) (some (vI r9)) (σ, I, J, D, R) 15 [(0, vR (some t)), (1, vI x1)] [vI s0] := by
  unfold fX7_toldOf_b15 at h
  refine r_istore_n (pc := 15) (L' := [(2, vI s0), (0, vR (some t)), (1, vI x1)]) dX7_toldOf_15 rfl (by decide) rfl ?_
  refine r_iload_n (pc := 16) dX7_toldOf_16 rfl 2 rfl ?_
  rcases itc h with ⟨c5, h⟩ | ⟨c5, h⟩
  · refine r_tsIn (x := x1) (pc := 17) (tgt := 64) dX7_toldOf_17 (by rw [c5]; decide) (by rw [c5]; decide) (by rw [c5]; rfl) rfl ?_
    refine r_aload_n (pc := 64) dX7_toldOf_64 rfl 1 rfl ?_
    obtain ⟨g30, h⟩ := gd h
    obtain ⟨a31, ha31, h⟩ := ob h
    refine r_getS (pc := 65) dX7_toldOf_65 fgX7_44 rfl g30 ha31 ?_
    refine r_iconst (pc := 68) dX7_toldOf_68 kc_iconst_0 ?_
    obtain ⟨g32, h⟩ := gd h
    obtain ⟨g33, h⟩ := gd h
    refine r_iaload (pc := 69) dX7_toldOf_69 g32 g33 ?_
    refine r_iconst (pc := 70) dX7_toldOf_70 kc_iconst_2 ?_
    refine r_icmp_ne (pc := 71) (tgt := 83) dX7_toldOf_71 rfl (fun c => ?_) (fun c => ?_)
    · have h := ie h c
      refine r_iconst (pc := 83) dX7_toldOf_83 kc_iconst_0 ?_
      cases h
      exact r_iret dX7_toldOf_84
    · have h := it h c
      refine r_aload_n (pc := 74) dX7_toldOf_74 rfl 1 rfl ?_
      refine r_getS (pc := 75) dX7_toldOf_75 fgX7_44 rfl g30 ha31 ?_
      refine r_iconst (pc := 78) dX7_toldOf_78 kc_iconst_5 ?_
      obtain ⟨g34, h⟩ := gd h
      refine r_iaload (pc := 79) dX7_toldOf_79 g32 g34 ?_
      refine r_goto (pc := 80) (tgt := 84) dX7_toldOf_80 rfl ?_
      cases h
      exact r_iret dX7_toldOf_84
  · rcases itc h with ⟨c6, h⟩ | ⟨c6, h⟩
    · refine r_tsIn (x := x1) (pc := 17) (tgt := 85) dX7_toldOf_17 (by rw [c6]; decide) (by rw [c6]; decide) (by rw [c6]; rfl) rfl ?_
      refine r_aload_n (pc := 85) dX7_toldOf_85 rfl 1 rfl ?_
      obtain ⟨g29, h⟩ := gd h
      refine r_getI (pc := 86) dX7_toldOf_86 fgX7_55 rfl g29 ?_
      cases h
      exact r_iret dX7_toldOf_89
    · rcases itc h with ⟨c7, h⟩ | ⟨c7, h⟩
      · refine r_tsIn (x := x1) (pc := 17) (tgt := 90) dX7_toldOf_17 (by rw [c7]; decide) (by rw [c7]; decide) (by rw [c7]; rfl) rfl ?_
        refine r_iload_n (pc := 90) dX7_toldOf_90 rfl 0 rfl ?_
        refine r_if_eq (pc := 91) (tgt := 103) dX7_toldOf_91 rfl (fun c => ?_) (fun c => ?_)
        · have h := it h c
          refine r_iconst (pc := 103) dX7_toldOf_103 kc_iconst_m1 ?_
          cases h
          exact r_iret dX7_toldOf_104
        · have h := ie h c
          refine r_aload_n (pc := 94) dX7_toldOf_94 rfl 1 rfl ?_
          obtain ⟨g25, h⟩ := gd h
          obtain ⟨a26, ha26, h⟩ := ob h
          refine r_getS (pc := 95) dX7_toldOf_95 fgX7_44 rfl g25 ha26 ?_
          refine r_iconst (pc := 98) dX7_toldOf_98 kc_iconst_3 ?_
          obtain ⟨g27, h⟩ := gd h
          obtain ⟨g28, h⟩ := gd h
          refine r_iaload (pc := 99) dX7_toldOf_99 g27 g28 ?_
          refine r_goto (pc := 100) (tgt := 104) dX7_toldOf_100 rfl ?_
          cases h
          exact r_iret dX7_toldOf_104
      · rcases itc h with ⟨c8, h⟩ | ⟨c8, h⟩
        · refine r_tsIn (x := x1) (pc := 17) (tgt := 105) dX7_toldOf_17 (by rw [c8]; decide) (by rw [c8]; decide) (by rw [c8]; rfl) rfl ?_
          refine r_iload_n (pc := 105) dX7_toldOf_105 rfl 0 rfl ?_
          refine r_if_eq (pc := 106) (tgt := 118) dX7_toldOf_106 rfl (fun c => ?_) (fun c => ?_)
          · have h := it h c
            refine r_iconst (pc := 118) dX7_toldOf_118 kc_iconst_0 ?_
            cases h
            exact r_iret dX7_toldOf_119
          · have h := ie h c
            refine r_aload_n (pc := 109) dX7_toldOf_109 rfl 1 rfl ?_
            obtain ⟨g21, h⟩ := gd h
            obtain ⟨a22, ha22, h⟩ := ob h
            refine r_getS (pc := 110) dX7_toldOf_110 fgX7_44 rfl g21 ha22 ?_
            refine r_iconst (pc := 113) dX7_toldOf_113 kc_iconst_4 ?_
            obtain ⟨g23, h⟩ := gd h
            obtain ⟨g24, h⟩ := gd h
            refine r_iaload (pc := 114) dX7_toldOf_114 g23 g24 ?_
            refine r_goto (pc := 115) (tgt := 119) dX7_toldOf_115 rfl ?_
            cases h
            exact r_iret dX7_toldOf_119
        · rcases itc h with ⟨c9, h⟩ | ⟨c9, h⟩
          · refine r_tsIn (x := x1) (pc := 17) (tgt := 120) dX7_toldOf_17 (by rw [c9]; decide) (by rw [c9]; decide) (by rw [c9]; rfl) rfl ?_
            refine r_aload_n (pc := 120) dX7_toldOf_120 rfl 1 rfl ?_
            obtain ⟨g20, h⟩ := gd h
            refine r_getI (pc := 121) dX7_toldOf_121 fgX7_58 rfl g20 ?_
            cases h
            exact r_iret dX7_toldOf_124
          · rcases itc h with ⟨c10, h⟩ | ⟨c10, h⟩
            · refine r_tsIn (x := x1) (pc := 17) (tgt := 125) dX7_toldOf_17 (by rw [c10]; decide) (by rw [c10]; decide) (by rw [c10]; rfl) rfl ?_
              refine r_aload_n (pc := 125) dX7_toldOf_125 rfl 1 rfl ?_
              obtain ⟨g19, h⟩ := gd h
              refine r_getI (pc := 126) dX7_toldOf_126 fgX7_61 rfl g19 ?_
              cases h
              exact r_iret dX7_toldOf_129
            · rcases itc h with ⟨c11, h⟩ | ⟨c11, h⟩
              · refine r_tsIn (x := x1) (pc := 17) (tgt := 130) dX7_toldOf_17 (by rw [c11]; decide) (by rw [c11]; decide) (by rw [c11]; rfl) rfl ?_
                refine r_aload_n (pc := 130) dX7_toldOf_130 rfl 1 rfl ?_
                obtain ⟨g18, h⟩ := gd h
                refine r_getI (pc := 131) dX7_toldOf_131 fgX7_64 rfl g18 ?_
                cases h
                exact r_iret dX7_toldOf_134
              · rcases itc h with ⟨c12, h⟩ | ⟨c12, h⟩
                · refine r_tsIn (x := x1) (pc := 17) (tgt := 135) dX7_toldOf_17 (by rw [c12]; decide) (by rw [c12]; decide) (by rw [c12]; rfl) rfl ?_
                  refine r_iload_n (pc := 135) dX7_toldOf_135 rfl 0 rfl ?_
                  refine r_if_eq (pc := 136) (tgt := 148) dX7_toldOf_136 rfl (fun c => ?_) (fun c => ?_)
                  · have h := it h c
                    refine r_iconst (pc := 148) dX7_toldOf_148 kc_iconst_0 ?_
                    cases h
                    exact r_iret dX7_toldOf_149
                  · have h := ie h c
                    refine r_aload_n (pc := 139) dX7_toldOf_139 rfl 1 rfl ?_
                    obtain ⟨g14, h⟩ := gd h
                    obtain ⟨a15, ha15, h⟩ := ob h
                    refine r_getS (pc := 140) dX7_toldOf_140 fgX7_44 rfl g14 ha15 ?_
                    refine r_iconst (pc := 143) dX7_toldOf_143 kc_iconst_2 ?_
                    obtain ⟨g16, h⟩ := gd h
                    obtain ⟨g17, h⟩ := gd h
                    refine r_iaload (pc := 144) dX7_toldOf_144 g16 g17 ?_
                    refine r_goto (pc := 145) (tgt := 149) dX7_toldOf_145 rfl ?_
                    cases h
                    exact r_iret dX7_toldOf_149
                · refine r_tsOut (x := x1) (pc := 17) (tgt := 150) dX7_toldOf_17 (by have ec5 := i32n c5 (k := 0) rfl; have ec6 := i32n c6 (k := 1) rfl; have ec7 := i32n c7 (k := 2) rfl; have ec8 := i32n c8 (k := 3) rfl; have ec9 := i32n c9 (k := 4) rfl; have ec10 := i32n c10 (k := 5) rfl; have ec11 := i32n c11 (k := 6) rfl; have ec12 := i32n c12 (k := 7) rfl; omega) rfl ?_
                  refine r_aload_n (pc := 150) dX7_toldOf_150 rfl 1 rfl ?_
                  obtain ⟨g13, h⟩ := gd h
                  refine r_getI (pc := 151) dX7_toldOf_151 fgX7_67 rfl g13 ?_
                  cases h
                  exact r_iret dX7_toldOf_154
def fX7_toldOf (σ : Shp) (I : Nat → Nat → Int32) (R : Nat → Nat → Option Nat) (t : Nat) (x1 : Int32) : Option ((Int32)) :=
  if kdx σ t = 8 then
  ((R t 5) : Option Nat).bind fun a2 =>
  if kdx σ a2 = 20 then
  if ¬ ((0 : Int32) < 0 ∨ lnx σ a2 ≤ Int32.toNatClampNeg (0 : Int32)) then
  if (I a2 (Int32.toNatClampNeg (0 : Int32))) = (1 : Int32) then
    fX7_toldOf_b15 σ I R t x1 (1 : Int32)
  else
    fX7_toldOf_b15 σ I R t x1 (0 : Int32)
  else none
  else none
  else none
theorem kX7_toldOf {G : Gx} {l : Launch} {σ : Shp} {I : Nat → Nat → Int32} {J : Nat → Nat → Int64} {D : Nat → Nat → UInt64} {R : Nat → Nat → Option Nat} {t : Nat} {x1 : Int32} {r9 : Int32} (h : fX7_toldOf σ I R t x1 = some r9) : Con G l yX7_toldOf cX7_toldOf 3 (some .int) 0 0 [vR (some t), vI x1] (σ, I, J, D, R) (σ, I, J, D, R) (some (vI r9)) := by
  unfold fX7_toldOf at h
  refine Con.mk (by decide +kernel) rfl (Nat.le_of_ble_eq_true rfl) ?_
  show WX7_toldOf G l σ (σ, I, J, D, R) (some (vI r9)) (σ, I, J, D, R) 0 _ []
  refine r_aload_n (pc := 0) dX7_toldOf_0 rfl 0 rfl ?_
  obtain ⟨g1, h⟩ := gd h
  obtain ⟨a2, ha2, h⟩ := ob h
  refine r_getS (pc := 1) dX7_toldOf_1 fgX7_44 rfl g1 ha2 ?_
  refine r_iconst (pc := 4) dX7_toldOf_4 kc_iconst_0 ?_
  obtain ⟨g3, h⟩ := gd h
  obtain ⟨g4, h⟩ := gd h
  refine r_iaload (pc := 5) dX7_toldOf_5 g3 g4 ?_
  refine r_iconst (pc := 6) dX7_toldOf_6 kc_iconst_1 ?_
  refine r_icmp_ne (pc := 7) (tgt := 14) dX7_toldOf_7 rfl (fun c => ?_) (fun c => ?_)
  · have h := ie h c
    refine r_iconst (pc := 14) dX7_toldOf_14 kc_iconst_0 ?_
    refine r_sub [0, 1] rfl ?_
    exact wX7_toldOf_b15 h
  · have h := it h c
    refine r_iconst (pc := 10) dX7_toldOf_10 kc_iconst_1 ?_
    refine r_goto (pc := 11) (tgt := 15) dX7_toldOf_11 rfl ?_
    refine r_sub [0, 1] rfl ?_
    exact wX7_toldOf_b15 h
abbrev WX9_lineAdded (G : Gx) (l : Launch) (σ0 : Shp) (X1 : Stt) (rv : Option SV) : Stt → Nat → List (Nat × SV) → List SV → Prop := Wm G l yX9_lineAdded cX9_lineAdded 5 (some .int) (fun _ => True) (rmx 0 0 σ0 X1.1) σ0 (Qmx G σ0 X1 rv)
def fX9_lineAdded_b55  (σ : Shp) (R : Nat → Nat → Option Nat) (t : Nat) (I : Nat → Nat → Int32) (x1 : Int32) (x2 : Int32) (x3 : Int32) (x4 : Int32) : Option ((Nat → Nat → Int32) × (Int32)) :=
  if x4 < (8 : Int32) then
    if kdx σ t = 10 then
    ((R t 0) : Option Nat).bind fun a7 =>
    if kdx σ a7 = 28 then
    if ¬ (x1 < 0 ∨ lnx σ a7 ≤ Int32.toNatClampNeg x1) then
    ((R a7 (Int32.toNatClampNeg x1)) : Option Nat).bind fun a10 =>
    if kdx σ a10 = 20 then
    if ¬ (x4 < 0 ∨ lnx σ a10 ≤ Int32.toNatClampNeg x4) then
    let I13 := u2 I a10 (Int32.toNatClampNeg x4) x2
    ((R t 1) : Option Nat).bind fun a14 =>
    if kdx σ a14 = 28 then
    if ¬ (x1 < 0 ∨ lnx σ a14 ≤ Int32.toNatClampNeg x1) then
    ((R a14 (Int32.toNatClampNeg x1)) : Option Nat).bind fun a17 =>
    if kdx σ a17 = 20 then
    if ¬ (x4 < 0 ∨ lnx σ a17 ≤ Int32.toNatClampNeg x4) then
    let I20 := u2 I13 a17 (Int32.toNatClampNeg x4) x3
    ((R t 2) : Option Nat).bind fun a21 =>
    if kdx σ a21 = 20 then
    if ¬ (x1 < 0 ∨ lnx σ a21 ≤ Int32.toNatClampNeg x1) then
    let I24 := u2 I20 a21 (Int32.toNatClampNeg x1) (x4 + (1 : Int32))
    some (I24, (x4 + (1 : Int32)))
    else none
    else none
    else none
    else none
    else none
    else none
    else none
    else none
    else none
    else none
    else none
  else
    some (I, (-4 : Int32))
theorem wX9_lineAdded_b55 {G : Gx} {l : Launch} {σ : Shp} {I : Nat → Nat → Int32} {J : Nat → Nat → Int64} {D : Nat → Nat → UInt64} {R : Nat → Nat → Option Nat} {t : Nat} {I9 : Nat → Nat → Int32} {r9 : Int32} {x1 : Int32} {x2 : Int32} {x3 : Int32} {x4 : Int32} (h : fX9_lineAdded_b55 σ R t I x1 x2 x3 x4 = some (I9, r9)) : WX9_lineAdded G l σ (σ, I9, J, D, R) (some (vI r9)) (σ, I, J, D, R) 55 [(0, vR (some t)), (1, vI x1), (2, vI x2), (3, vI x3), (4, vI x4)] [] := by
  unfold fX9_lineAdded_b55 at h
  refine r_iload (pc := 55) dX9_lineAdded_55 4 rfl ?_
  refine r_bipush (pc := 57) dX9_lineAdded_57 kc_bipush_8 ?_
  refine r_icmp_lt (pc := 59) (tgt := 65) dX9_lineAdded_59 rfl (fun c => ?_) (fun c => ?_)
  · have h := it h c
    refine r_aload_n (pc := 65) dX9_lineAdded_65 rfl 0 rfl ?_
    obtain ⟨g6, h⟩ := gd h
    obtain ⟨a7, ha7, h⟩ := ob h
    refine r_getS (pc := 66) dX9_lineAdded_66 fgX9_13 rfl g6 ha7 ?_
    refine r_iload_n (pc := 69) dX9_lineAdded_69 rfl 1 rfl ?_
    obtain ⟨g8, h⟩ := gd h
    obtain ⟨g9, h⟩ := gd h
    refine r_aaload (pc := 70) dX9_lineAdded_70 g8 (by decide) g9 ?_
    obtain ⟨a10, ha10, h⟩ := ob h
    refine r_ref0 ha10 ?_
    refine r_iload (pc := 71) dX9_lineAdded_71 4 rfl ?_
    refine r_iload_n (pc := 73) dX9_lineAdded_73 rfl 2 rfl ?_
    obtain ⟨g11, h⟩ := gd h
    obtain ⟨g12, h⟩ := gd h
    refine r_iastore (pc := 74) dX9_lineAdded_74 g11 g12 ?_
    refine r_aload_n (pc := 75) dX9_lineAdded_75 rfl 0 rfl ?_
    obtain ⟨a14, ha14, h⟩ := ob h
    refine r_getS (pc := 76) dX9_lineAdded_76 fgX9_16 rfl g6 ha14 ?_
    refine r_iload_n (pc := 79) dX9_lineAdded_79 rfl 1 rfl ?_
    obtain ⟨g15, h⟩ := gd h
    obtain ⟨g16, h⟩ := gd h
    refine r_aaload (pc := 80) dX9_lineAdded_80 g15 (by decide) g16 ?_
    obtain ⟨a17, ha17, h⟩ := ob h
    refine r_ref0 ha17 ?_
    refine r_iload (pc := 81) dX9_lineAdded_81 4 rfl ?_
    refine r_iload_n (pc := 83) dX9_lineAdded_83 rfl 3 rfl ?_
    obtain ⟨g18, h⟩ := gd h
    obtain ⟨g19, h⟩ := gd h
    refine r_iastore (pc := 84) dX9_lineAdded_84 g18 g19 ?_
    refine r_aload_n (pc := 85) dX9_lineAdded_85 rfl 0 rfl ?_
    obtain ⟨a21, ha21, h⟩ := ob h
    refine r_getS (pc := 86) dX9_lineAdded_86 fgX9_19 rfl g6 ha21 ?_
    refine r_iload_n (pc := 89) dX9_lineAdded_89 rfl 1 rfl ?_
    refine r_iload (pc := 90) dX9_lineAdded_90 4 rfl ?_
    refine r_iconst (pc := 92) dX9_lineAdded_92 kc_iconst_1 ?_
    refine r_iadd (pc := 93) dX9_lineAdded_93 ?_
    obtain ⟨g22, h⟩ := gd h
    obtain ⟨g23, h⟩ := gd h
    refine r_iastore (pc := 94) dX9_lineAdded_94 g22 g23 ?_
    refine r_iload (pc := 95) dX9_lineAdded_95 4 rfl ?_
    refine r_iconst (pc := 97) dX9_lineAdded_97 kc_iconst_1 ?_
    refine r_iadd (pc := 98) dX9_lineAdded_98 ?_
    cases h
    exact r_iret dX9_lineAdded_99
  · have h := ie h c
    refine r_bipush (pc := 62) dX9_lineAdded_62 kc_bipush_m4 ?_
    cases h
    exact r_iret dX9_lineAdded_64
def fX9_lineAdded (σ : Shp) (I : Nat → Nat → Int32) (R : Nat → Nat → Option Nat) (t : Nat) (x1 : Int32) (x2 : Int32) (x3 : Int32) : Option ((Nat → Nat → Int32) × (Int32)) :=
  if kdx σ t = 10 then
  ((R t 2) : Option Nat).bind fun a2 =>
  if kdx σ a2 = 20 then
  if ¬ (x1 < 0 ∨ lnx σ a2 ≤ Int32.toNatClampNeg x1) then
  let v5 := (I a2 (Int32.toNatClampNeg x1))
  if x2 < (-1000000 : Int32) then
    some (I, (-2 : Int32))
  else
    if (1000000 : Int32) < x2 then
      some (I, (-2 : Int32))
    else
      if x3 < (-1000000 : Int32) then
        some (I, (-2 : Int32))
      else
        if (1000000 : Int32) < x3 then
          some (I, (-2 : Int32))
        else
          if v5 ≤ 0 then
            fX9_lineAdded_b55 σ R t I x1 x2 x3 v5
          else
            ((R t 0) : Option Nat).bind fun a25 =>
            if kdx σ a25 = 28 then
            if ¬ (x1 < 0 ∨ lnx σ a25 ≤ Int32.toNatClampNeg x1) then
            ((R a25 (Int32.toNatClampNeg x1)) : Option Nat).bind fun a28 =>
            if kdx σ a28 = 20 then
            if ¬ ((v5 - (1 : Int32)) < 0 ∨ lnx σ a28 ≤ Int32.toNatClampNeg (v5 - (1 : Int32))) then
            if (I a28 (Int32.toNatClampNeg (v5 - (1 : Int32)))) < x2 then
              fX9_lineAdded_b55 σ R t I x1 x2 x3 v5
            else
              some (I, (-2 : Int32))
            else none
            else none
            else none
            else none
  else none
  else none
  else none
theorem kX9_lineAdded {G : Gx} {l : Launch} {σ : Shp} {I : Nat → Nat → Int32} {J : Nat → Nat → Int64} {D : Nat → Nat → UInt64} {R : Nat → Nat → Option Nat} {t : Nat} {x1 : Int32} {x2 : Int32} {x3 : Int32} {I9 : Nat → Nat → Int32} {r9 : Int32} (h : fX9_lineAdded σ I R t x1 x2 x3 = some (I9, r9)) : Con G l yX9_lineAdded cX9_lineAdded 5 (some .int) 0 0 [vR (some t), vI x1, vI x2, vI x3] (σ, I, J, D, R) (σ, I9, J, D, R) (some (vI r9)) := by
  unfold fX9_lineAdded at h
  refine Con.mk (by decide +kernel) rfl (Nat.le_of_ble_eq_true rfl) ?_
  show WX9_lineAdded G l σ (σ, I9, J, D, R) (some (vI r9)) (σ, I, J, D, R) 0 _ []
  refine r_aload_n (pc := 0) dX9_lineAdded_0 rfl 0 rfl ?_
  obtain ⟨g1, h⟩ := gd h
  obtain ⟨a2, ha2, h⟩ := ob h
  refine r_getS (pc := 1) dX9_lineAdded_1 fgX9_19 rfl g1 ha2 ?_
  refine r_iload_n (pc := 4) dX9_lineAdded_4 rfl 1 rfl ?_
  obtain ⟨g3, h⟩ := gd h
  obtain ⟨g4, h⟩ := gd h
  refine r_iaload (pc := 5) dX9_lineAdded_5 g3 g4 ?_
  refine r_istore (pc := 6) (L' := [(4, vI (I a2 (Int32.toNatClampNeg x1))), (0, vR (some t)), (1, vI x1), (2, vI x2), (3, vI x3)]) dX9_lineAdded_6 (by decide) rfl ?_
  refine r_iload_n (pc := 8) dX9_lineAdded_8 rfl 3 rfl ?_
  refine r_ldc (pc := 9) dX9_lineAdded_9 ciX9_39 ?_
  refine r_icmp_lt (pc := 11) (tgt := 52) dX9_lineAdded_11 rfl (fun c => ?_) (fun c => ?_)
  · have h := it h c
    refine r_bipush (pc := 52) dX9_lineAdded_52 kc_bipush_m2 ?_
    cases h
    exact r_iret dX9_lineAdded_54
  · have h := ie h c
    refine r_iload_n (pc := 14) dX9_lineAdded_14 rfl 3 rfl ?_
    refine r_ldc (pc := 15) dX9_lineAdded_15 ciX9_40 ?_
    refine r_icmp_gt (pc := 17) (tgt := 52) dX9_lineAdded_17 rfl (fun c => ?_) (fun c => ?_)
    · have h := it h c
      refine r_bipush (pc := 52) dX9_lineAdded_52 kc_bipush_m2 ?_
      cases h
      exact r_iret dX9_lineAdded_54
    · have h := ie h c
      refine r_iload_n (pc := 20) dX9_lineAdded_20 rfl 4 rfl ?_
      refine r_ldc (pc := 21) dX9_lineAdded_21 ciX9_39 ?_
      refine r_icmp_lt (pc := 23) (tgt := 52) dX9_lineAdded_23 rfl (fun c => ?_) (fun c => ?_)
      · have h := it h c
        refine r_bipush (pc := 52) dX9_lineAdded_52 kc_bipush_m2 ?_
        cases h
        exact r_iret dX9_lineAdded_54
      · have h := ie h c
        refine r_iload_n (pc := 26) dX9_lineAdded_26 rfl 4 rfl ?_
        refine r_ldc (pc := 27) dX9_lineAdded_27 ciX9_40 ?_
        refine r_icmp_gt (pc := 29) (tgt := 52) dX9_lineAdded_29 rfl (fun c => ?_) (fun c => ?_)
        · have h := it h c
          refine r_bipush (pc := 52) dX9_lineAdded_52 kc_bipush_m2 ?_
          cases h
          exact r_iret dX9_lineAdded_54
        · have h := ie h c
          refine r_iload (pc := 32) dX9_lineAdded_32 0 rfl ?_
          refine r_if_le (pc := 34) (tgt := 55) dX9_lineAdded_34 rfl (fun c => ?_) (fun c => ?_)
          · have h := it h c
            refine r_sub [1, 2, 3, 4, 0] rfl ?_
            exact wX9_lineAdded_b55 h
          · have h := ie h c
            refine r_iload_n (pc := 37) dX9_lineAdded_37 rfl 3 rfl ?_
            refine r_aload_n (pc := 38) dX9_lineAdded_38 rfl 1 rfl ?_
            obtain ⟨a25, ha25, h⟩ := ob h
            refine r_getS (pc := 39) dX9_lineAdded_39 fgX9_13 rfl g1 ha25 ?_
            refine r_iload_n (pc := 42) dX9_lineAdded_42 rfl 2 rfl ?_
            obtain ⟨g26, h⟩ := gd h
            obtain ⟨g27, h⟩ := gd h
            refine r_aaload (pc := 43) dX9_lineAdded_43 g26 (by decide) g27 ?_
            obtain ⟨a28, ha28, h⟩ := ob h
            refine r_ref0 ha28 ?_
            refine r_iload (pc := 44) dX9_lineAdded_44 0 rfl ?_
            refine r_iconst (pc := 46) dX9_lineAdded_46 kc_iconst_1 ?_
            refine r_isub (pc := 47) dX9_lineAdded_47 ?_
            obtain ⟨g29, h⟩ := gd h
            obtain ⟨g30, h⟩ := gd h
            refine r_iaload (pc := 48) dX9_lineAdded_48 g29 g30 ?_
            refine r_icmp_gt (pc := 49) (tgt := 55) dX9_lineAdded_49 rfl (fun c => ?_) (fun c => ?_)
            · have h := it h c
              refine r_sub [1, 2, 3, 4, 0] rfl ?_
              exact wX9_lineAdded_b55 h
            · have h := ie h c
              refine r_bipush (pc := 52) dX9_lineAdded_52 kc_bipush_m2 ?_
              cases h
              exact r_iret dX9_lineAdded_54
abbrev WX9_rested (G : Gx) (l : Launch) (σ0 : Shp) (X1 : Stt) (rv : Option SV) : Stt → Nat → List (Nat × SV) → List SV → Prop := Wm G l yX9_rested cX9_rested 3 (some .int) (fun _ => True) (rmx 0 0 σ0 X1.1) σ0 (Qmx G σ0 X1 rv)
def fX9_rested (σ : Shp) (I : Nat → Nat → Int32) (R : Nat → Nat → Option Nat) (t : Nat) (x1 : Int32) (x2 : Int32) : Option ((Nat → Nat → Int32) × (Int32)) :=
  if kdx σ t = 10 then
  ((R t 6) : Option Nat).bind fun a2 =>
  if kdx σ a2 = 24 then
  if ¬ (x1 < 0 ∨ lnx σ a2 ≤ Int32.toNatClampNeg x1) then
  if (I a2 (Int32.toNatClampNeg x1)) = 0 then
    ((R t 3) : Option Nat).bind fun a5 =>
    if kdx σ a5 = 20 then
    if ¬ (x1 < 0 ∨ lnx σ a5 ≤ Int32.toNatClampNeg x1) then
    let I8 := u2 I a5 (Int32.toNatClampNeg x1) (x2 + (1 : Int32))
    some (I8, (1 : Int32))
    else none
    else none
  else
    some (I, (-3 : Int32))
  else none
  else none
  else none
theorem kX9_rested {G : Gx} {l : Launch} {σ : Shp} {I : Nat → Nat → Int32} {J : Nat → Nat → Int64} {D : Nat → Nat → UInt64} {R : Nat → Nat → Option Nat} {t : Nat} {x1 : Int32} {x2 : Int32} {I9 : Nat → Nat → Int32} {r9 : Int32} (h : fX9_rested σ I R t x1 x2 = some (I9, r9)) : Con G l yX9_rested cX9_rested 3 (some .int) 0 0 [vR (some t), vI x1, vI x2] (σ, I, J, D, R) (σ, I9, J, D, R) (some (vI r9)) := by
  unfold fX9_rested at h
  refine Con.mk (by decide +kernel) rfl (Nat.le_of_ble_eq_true rfl) ?_
  show WX9_rested G l σ (σ, I9, J, D, R) (some (vI r9)) (σ, I, J, D, R) 0 _ []
  refine r_aload_n (pc := 0) dX9_rested_0 rfl 0 rfl ?_
  obtain ⟨g1, h⟩ := gd h
  obtain ⟨a2, ha2, h⟩ := ob h
  refine r_getS (pc := 1) dX9_rested_1 fgX9_33 rfl g1 ha2 ?_
  refine r_iload_n (pc := 4) dX9_rested_4 rfl 1 rfl ?_
  obtain ⟨g3, h⟩ := gd h
  obtain ⟨g4, h⟩ := gd h
  refine r_zaload (pc := 5) dX9_rested_5 g3 g4 ?_
  refine r_if_eq (pc := 6) (tgt := 12) dX9_rested_6 rfl (fun c => ?_) (fun c => ?_)
  · have h := it h c
    refine r_aload_n (pc := 12) dX9_rested_12 rfl 0 rfl ?_
    obtain ⟨a5, ha5, h⟩ := ob h
    refine r_getS (pc := 13) dX9_rested_13 fgX9_23 rfl g1 ha5 ?_
    refine r_iload_n (pc := 16) dX9_rested_16 rfl 1 rfl ?_
    refine r_iload_n (pc := 17) dX9_rested_17 rfl 2 rfl ?_
    refine r_iconst (pc := 18) dX9_rested_18 kc_iconst_1 ?_
    refine r_iadd (pc := 19) dX9_rested_19 ?_
    obtain ⟨g6, h⟩ := gd h
    obtain ⟨g7, h⟩ := gd h
    refine r_iastore (pc := 20) dX9_rested_20 g6 g7 ?_
    refine r_iconst (pc := 21) dX9_rested_21 kc_iconst_1 ?_
    cases h
    exact r_iret dX9_rested_22
  · have h := ie h c
    refine r_bipush (pc := 9) dX9_rested_9 kc_bipush_m3 ?_
    cases h
    exact r_iret dX9_rested_11
abbrev WX9_laidAt (G : Gx) (l : Launch) (σ0 : Shp) (X1 : Stt) (rv : Option SV) : Stt → Nat → List (Nat × SV) → List SV → Prop := Wm G l yX9_laidAt cX9_laidAt 2 (some .int) (fun _ => True) (rmx 0 0 σ0 X1.1) σ0 (Qmx G σ0 X1 rv)
def fX9_laidAt (σ : Shp) (I : Nat → Nat → Int32) (R : Nat → Nat → Option Nat) (t : Nat) (x1 : Int32) : Option ((Int32)) :=
  if x1 < 0 then
    some (-1 : Int32)
  else
    if kdx σ t = 10 then
    if (I t 8) ≤ x1 then
      some (-1 : Int32)
    else
      if (3 : Int32) ≤ x1 then
        some (-1 : Int32)
      else
        ((R t 7) : Option Nat).bind fun a2 =>
        if kdx σ a2 = 20 then
        if ¬ (x1 < 0 ∨ lnx σ a2 ≤ Int32.toNatClampNeg x1) then
        some (I a2 (Int32.toNatClampNeg x1))
        else none
        else none
    else none
theorem kX9_laidAt {G : Gx} {l : Launch} {σ : Shp} {I : Nat → Nat → Int32} {J : Nat → Nat → Int64} {D : Nat → Nat → UInt64} {R : Nat → Nat → Option Nat} {t : Nat} {x1 : Int32} {r9 : Int32} (h : fX9_laidAt σ I R t x1 = some r9) : Con G l yX9_laidAt cX9_laidAt 2 (some .int) 0 0 [vR (some t), vI x1] (σ, I, J, D, R) (σ, I, J, D, R) (some (vI r9)) := by
  unfold fX9_laidAt at h
  refine Con.mk (by decide +kernel) rfl (Nat.le_of_ble_eq_true rfl) ?_
  show WX9_laidAt G l σ (σ, I, J, D, R) (some (vI r9)) (σ, I, J, D, R) 0 _ []
  refine r_iload_n (pc := 0) dX9_laidAt_0 rfl 1 rfl ?_
  refine r_if_lt (pc := 1) (tgt := 26) dX9_laidAt_1 rfl (fun c => ?_) (fun c => ?_)
  · have h := it h c
    refine r_iconst (pc := 26) dX9_laidAt_26 kc_iconst_m1 ?_
    cases h
    exact r_iret dX9_laidAt_27
  · have h := ie h c
    refine r_iload_n (pc := 4) dX9_laidAt_4 rfl 1 rfl ?_
    refine r_aload_n (pc := 5) dX9_laidAt_5 rfl 0 rfl ?_
    obtain ⟨g1, h⟩ := gd h
    refine r_getI (pc := 6) dX9_laidAt_6 fgX9_41 rfl g1 ?_
    refine r_icmp_ge (pc := 9) (tgt := 26) dX9_laidAt_9 rfl (fun c => ?_) (fun c => ?_)
    · have h := it h c
      refine r_iconst (pc := 26) dX9_laidAt_26 kc_iconst_m1 ?_
      cases h
      exact r_iret dX9_laidAt_27
    · have h := ie h c
      refine r_iload_n (pc := 12) dX9_laidAt_12 rfl 1 rfl ?_
      refine r_iconst (pc := 13) dX9_laidAt_13 kc_iconst_3 ?_
      refine r_icmp_ge (pc := 14) (tgt := 26) dX9_laidAt_14 rfl (fun c => ?_) (fun c => ?_)
      · have h := it h c
        refine r_iconst (pc := 26) dX9_laidAt_26 kc_iconst_m1 ?_
        cases h
        exact r_iret dX9_laidAt_27
      · have h := ie h c
        refine r_aload_n (pc := 17) dX9_laidAt_17 rfl 0 rfl ?_
        obtain ⟨a2, ha2, h⟩ := ob h
        refine r_getS (pc := 18) dX9_laidAt_18 fgX9_36 rfl g1 ha2 ?_
        refine r_iload_n (pc := 21) dX9_laidAt_21 rfl 1 rfl ?_
        obtain ⟨g3, h⟩ := gd h
        obtain ⟨g4, h⟩ := gd h
        refine r_iaload (pc := 22) dX9_laidAt_22 g3 g4 ?_
        refine r_goto (pc := 23) (tgt := 27) dX9_laidAt_23 rfl ?_
        cases h
        exact r_iret dX9_laidAt_27
abbrev WX10_init (G : Gx) (l : Launch) (σ0 : Shp) (X1 : Stt) (rv : Option SV) : Stt → Nat → List (Nat × SV) → List SV → Prop := Wm G l yX10_init cX10_init 4 none (fun _ => True) (rmx 1 20 σ0 X1.1) σ0 (Qmx G σ0 X1 rv)
def fX10_init (σ : Shp) (I : Nat → Nat → Int32) (R : Nat → Nat → Option Nat) (t : Nat) (x1 : Int32) (x2 : Option Nat) (x3 : Option Nat) : Option ((Nat → Nat → Int32) × (Nat → Nat → Option Nat)) :=
  if kdx σ t = 11 then
  let I2 := u2 I t 0 x1
  let R3 := u2 R t 1 x2
  let R4 := u2 R3 t 2 x3
  some (I2, R4)
  else none
theorem kX10_init {G : Gx} {l : Launch} {σ : Shp} {I : Nat → Nat → Int32} {J : Nat → Nat → Int64} {D : Nat → Nat → UInt64} {R : Nat → Nat → Option Nat} {t : Nat} {x1 : Int32} {x2 : Option Nat} {x3 : Option Nat} {I9 : Nat → Nat → Int32} {R9 : Nat → Nat → Option Nat} (h : fX10_init σ I R t x1 x2 x3 = some (I9, R9)) : Con G l yX10_init cX10_init 4 none 1 20 [vR (some t), vI x1, vR x2, vR x3] (σ, I, J, D, R) (σ, I9, J, D, R9) none := by
  unfold fX10_init at h
  refine Con.mk (by decide +kernel) rfl (Nat.le_of_ble_eq_true rfl) ?_
  show WX10_init G l σ (σ, I9, J, D, R9) none (σ, I, J, D, R) 0 _ []
  refine r_aload_n (pc := 0) dX10_init_0 rfl 0 rfl ?_
  refine r_objInit (pc := 1) (S := []) dX10_init_1 obX10_3 obI obC (Nat.le_of_ble_eq_true rfl) (Nat.le_of_ble_eq_true rfl) (Nat.le_of_ble_eq_true rfl) ?_
  refine r_aload_n (pc := 4) dX10_init_4 rfl 0 rfl ?_
  refine r_iload_n (pc := 5) dX10_init_5 rfl 1 rfl ?_
  obtain ⟨g1, h⟩ := gd h
  refine r_putIF (pc := 6) dX10_init_6 fwX10_9 rfl rfl g1 ?_
  refine r_aload_n (pc := 9) dX10_init_9 rfl 0 rfl ?_
  refine r_aload_n (pc := 10) dX10_init_10 rfl 2 rfl ?_
  refine r_putRF (pc := 11) dX10_init_11 fwX10_15 rfl rfl g1 ?_
  refine r_aload_n (pc := 14) dX10_init_14 rfl 0 rfl ?_
  refine r_aload_n (pc := 15) dX10_init_15 rfl 3 rfl ?_
  refine r_putRF (pc := 16) dX10_init_16 fwX10_19 rfl rfl g1 ?_
  cases h
  exact r_vret dX10_init_19
abbrev WX10_length (G : Gx) (l : Launch) (σ0 : Shp) (X1 : Stt) (rv : Option SV) : Stt → Nat → List (Nat × SV) → List SV → Prop := Wm G l yX10_length cX10_length 1 (some .int) (fun _ => True) (rmx 0 0 σ0 X1.1) σ0 (Qmx G σ0 X1 rv)
def fX10_length (σ : Shp) (I : Nat → Nat → Int32) (R : Nat → Nat → Option Nat) (t : Nat)  : Option ((Int32)) :=
  if kdx σ t = 11 then
  if (7 : Int32) < (I t 0) then
    ((R t 2) : Option Nat).bind fun a2 =>
    if kdx σ a2 = 26 then
    some (Int32.ofNat (lnx σ a2))
    else none
  else
    ((R t 1) : Option Nat).bind fun a4 =>
    if kdx σ a4 = 21 then
    some (Int32.ofNat (lnx σ a4))
    else none
  else none
theorem kX10_length {G : Gx} {l : Launch} {σ : Shp} {I : Nat → Nat → Int32} {J : Nat → Nat → Int64} {D : Nat → Nat → UInt64} {R : Nat → Nat → Option Nat} {t : Nat}  {r9 : Int32} (h : fX10_length σ I R t = some r9) : Con G l yX10_length cX10_length 1 (some .int) 0 0 [vR (some t)] (σ, I, J, D, R) (σ, I, J, D, R) (some (vI r9)) := by
  unfold fX10_length at h
  refine Con.mk (by decide +kernel) rfl (Nat.le_of_ble_eq_true rfl) ?_
  show WX10_length G l σ (σ, I, J, D, R) (some (vI r9)) (σ, I, J, D, R) 0 _ []
  refine r_aload_n (pc := 0) dX10_length_0 rfl 0 rfl ?_
  obtain ⟨g1, h⟩ := gd h
  refine r_getI (pc := 1) dX10_length_1 fgX10_9 rfl g1 ?_
  refine r_bipush (pc := 4) dX10_length_4 kc_bipush_7 ?_
  refine r_icmp_gt (pc := 6) (tgt := 17) dX10_length_6 rfl (fun c => ?_) (fun c => ?_)
  · have h := it h c
    refine r_aload_n (pc := 17) dX10_length_17 rfl 0 rfl ?_
    obtain ⟨a2, ha2, h⟩ := ob h
    refine r_getS (pc := 18) dX10_length_18 fgX10_19 rfl g1 ha2 ?_
    obtain ⟨g3, h⟩ := gd h
    refine r_alen (pc := 21) dX10_length_21 g3 (by decide) ?_
    cases h
    exact r_iret dX10_length_22
  · have h := ie h c
    refine r_aload_n (pc := 9) dX10_length_9 rfl 0 rfl ?_
    obtain ⟨a4, ha4, h⟩ := ob h
    refine r_getS (pc := 10) dX10_length_10 fgX10_15 rfl g1 ha4 ?_
    obtain ⟨g5, h⟩ := gd h
    refine r_alen (pc := 13) dX10_length_13 g5 (by decide) ?_
    refine r_goto (pc := 14) (tgt := 22) dX10_length_14 rfl ?_
    cases h
    exact r_iret dX10_length_22
abbrev WX10_emptyPlaces (G : Gx) (l : Launch) (σ0 : Shp) (X1 : Stt) (rv : Option SV) : Stt → Nat → List (Nat × SV) → List SV → Prop := Wm G l yX10_emptyPlaces cX10_emptyPlaces 3 (some .int) (fun _ => True) (rmx 0 0 σ0 X1.1) σ0 (Qmx G σ0 X1 rv)
def fX10_emptyPlaces_l4  (σ : Shp) (R : Nat → Nat → Option Nat) (t : Nat) : Nat → (Int32) → (Int32) → Option ((Int32))
  | 0, _, _ => none
  | n + 1, x1, x2 =>
    if kdx σ t = 11 then
    ((R t 2) : Option Nat).bind fun a2 =>
    if kdx σ a2 = 26 then
    if (Int32.ofNat (lnx σ a2)) ≤ x2 then
      some x1
    else
      if ¬ (x2 < 0 ∨ lnx σ a2 ≤ Int32.toNatClampNeg x2) then
      onl (R a2 (Int32.toNatClampNeg x2))
        (
          let v6 := x1 + (1 : Int32)
          let v7 := x2 + (1 : Int32)
          fX10_emptyPlaces_l4 σ R t n v6 v7)
        (fun a5 =>
          let v8 := x2 + (1 : Int32)
          fX10_emptyPlaces_l4 σ R t n x1 v8)
      else none
    else none
    else none
theorem wX10_emptyPlaces_l4 {G : Gx} {l : Launch} {σ : Shp} {I : Nat → Nat → Int32} {J : Nat → Nat → Int64} {D : Nat → Nat → UInt64} {R : Nat → Nat → Option Nat} {t : Nat} {r9 : Int32} : ∀ (n : Nat) (x1 : Int32) (x2 : Int32), fX10_emptyPlaces_l4 σ R t n x1 x2 = some r9 → WX10_emptyPlaces G l σ (σ, I, J, D, R) (some (vI r9)) (σ, I, J, D, R) 4 [(0, vR (some t)), (1, vI x1), (2, vI x2)] [] := by
  intro n
  induction n with
  | zero =>
    intro x1 x2 h
    have h : none = some _ := h
    cases h
  | succ n ih =>
    intro x1 x2 h
    rw [fX10_emptyPlaces_l4] at h
    refine r_iload_n (pc := 4) dX10_emptyPlaces_4 rfl 2 rfl ?_
    refine r_aload_n (pc := 5) dX10_emptyPlaces_5 rfl 0 rfl ?_
    obtain ⟨g1, h⟩ := gd h
    obtain ⟨a2, ha2, h⟩ := ob h
    refine r_getS (pc := 6) dX10_emptyPlaces_6 fgX10_19 rfl g1 ha2 ?_
    obtain ⟨g3, h⟩ := gd h
    refine r_alen (pc := 9) dX10_emptyPlaces_9 g3 (by decide) ?_
    refine r_icmp_ge (pc := 10) (tgt := 31) dX10_emptyPlaces_10 rfl (fun c => ?_) (fun c => ?_)
    · have h := it h c
      refine r_iload_n (pc := 31) dX10_emptyPlaces_31 rfl 1 rfl ?_
      cases h
      exact r_iret dX10_emptyPlaces_32
    · have h := ie h c
      refine r_aload_n (pc := 13) dX10_emptyPlaces_13 rfl 0 rfl ?_
      refine r_getS (pc := 14) dX10_emptyPlaces_14 fgX10_19 rfl g1 ha2 ?_
      refine r_iload_n (pc := 17) dX10_emptyPlaces_17 rfl 2 rfl ?_
      obtain ⟨g4, h⟩ := gd h
      refine r_aaload (pc := 18) dX10_emptyPlaces_18 g3 (by decide) g4 ?_
      rcases onl_c h with ⟨ea5, h⟩ | ⟨a5, ha5, h⟩
      · refine r_ref0n ea5 ?_
        refine r_ifnonnull_n (pc := 19) dX10_emptyPlaces_19 ?_
        refine r_iinc (pc := 22) (v := (x1 + (1 : Int32))) (L' := [(1, vI (x1 + (1 : Int32))), (0, vR (some t)), (2, vI x2)]) dX10_emptyPlaces_22 1 rfl (kc_inc_1 _) (by decide) rfl ?_
        refine r_iinc (pc := 25) (v := (x2 + (1 : Int32))) (L' := [(2, vI (x2 + (1 : Int32))), (1, vI (x1 + (1 : Int32))), (0, vR (some t))]) dX10_emptyPlaces_25 2 rfl (kc_inc_1 _) (by decide) rfl ?_
        refine r_goto (pc := 28) (tgt := 4) dX10_emptyPlaces_28 rfl ?_
        refine r_sub [2, 1, 0] rfl ?_
        exact ih _ _ h
      · refine r_ref0 ha5 ?_
        refine r_ifnonnull_s (pc := 19) (tgt := 25) dX10_emptyPlaces_19 rfl ?_
        refine r_iinc (pc := 25) (v := (x2 + (1 : Int32))) (L' := [(2, vI (x2 + (1 : Int32))), (0, vR (some t)), (1, vI x1)]) dX10_emptyPlaces_25 2 rfl (kc_inc_1 _) (by decide) rfl ?_
        refine r_goto (pc := 28) (tgt := 4) dX10_emptyPlaces_28 rfl ?_
        refine r_sub [1, 2, 0] rfl ?_
        exact ih _ _ h
def fX10_emptyPlaces (σ : Shp) (R : Nat → Nat → Option Nat) (t : Nat)  : Option ((Int32)) :=
  fX10_emptyPlaces_l4 σ R t FUx (0 : Int32) (0 : Int32)
theorem kX10_emptyPlaces {G : Gx} {l : Launch} {σ : Shp} {I : Nat → Nat → Int32} {J : Nat → Nat → Int64} {D : Nat → Nat → UInt64} {R : Nat → Nat → Option Nat} {t : Nat}  {r9 : Int32} (h : fX10_emptyPlaces σ R t = some r9) : Con G l yX10_emptyPlaces cX10_emptyPlaces 3 (some .int) 0 0 [vR (some t)] (σ, I, J, D, R) (σ, I, J, D, R) (some (vI r9)) := by
  unfold fX10_emptyPlaces at h
  refine Con.mk (by decide +kernel) rfl (Nat.le_of_ble_eq_true rfl) ?_
  show WX10_emptyPlaces G l σ (σ, I, J, D, R) (some (vI r9)) (σ, I, J, D, R) 0 _ []
  refine r_iconst (pc := 0) dX10_emptyPlaces_0 kc_iconst_0 ?_
  refine r_istore_n (pc := 1) (L' := [(1, vI (0 : Int32)), (0, vR (some t))]) dX10_emptyPlaces_1 rfl (by decide) rfl ?_
  refine r_iconst (pc := 2) dX10_emptyPlaces_2 kc_iconst_0 ?_
  refine r_istore_n (pc := 3) (L' := [(2, vI (0 : Int32)), (1, vI (0 : Int32)), (0, vR (some t))]) dX10_emptyPlaces_3 rfl (by decide) rfl ?_
  refine r_sub [2, 1, 0] rfl ?_
  exact wX10_emptyPlaces_l4 _ _ _ h
abbrev WX11_init (G : Gx) (l : Launch) (σ0 : Shp) (X1 : Stt) (rv : Option SV) : Stt → Nat → List (Nat × SV) → List SV → Prop := Wm G l yX11_init cX11_init 1 none (fun _ => True) (rmx 3 61 σ0 X1.1) σ0 (Qmx G σ0 X1 rv)
def fX11_init_b127  (σ : Shp) (I : Nat → Nat → Int32) (J : Nat → Nat → Int64) (D : Nat → Nat → UInt64) (R : Nat → Nat → Option Nat) (s0 : Nat) (s1 : Nat) : Option ((Shp) × (Nat → Nat → Int32) × (Nat → Nat → Int64) × (Nat → Nat → UInt64) × (Nat → Nat → Option Nat)) :=
  if kdx σ s0 = 12 then
  let R67 := u2 R s0 11 (some s1)
  some (σ, I, J, D, R67)
  else none
theorem mX11_init_b127 {σ : Shp} {I : Nat → Nat → Int32} {J : Nat → Nat → Int64} {D : Nat → Nat → UInt64} {R : Nat → Nat → Option Nat} {σ9 : Shp} {I9 : Nat → Nat → Int32} {J9 : Nat → Nat → Int64} {D9 : Nat → Nat → UInt64} {R9 : Nat → Nat → Option Nat} {s0 : Nat} {s1 : Nat} (h : fX11_init_b127 σ I J D R s0 s1 = some (σ9, I9, J9, D9, R9)) : Lex σ σ9 := by
  unfold fX11_init_b127 at h
  replace h := (gd h).2
  cases h
  exact ⟨Nat.le_refl _, Nat.le_refl _⟩
theorem wX11_init_b127 {G : Gx} {l : Launch} {σ0 : Shp} {σ : Shp} {I : Nat → Nat → Int32} {J : Nat → Nat → Int64} {D : Nat → Nat → UInt64} {R : Nat → Nat → Option Nat} {σ9 : Shp} {I9 : Nat → Nat → Int32} {J9 : Nat → Nat → Int64} {D9 : Nat → Nat → UInt64} {R9 : Nat → Nat → Option Nat} {s0 : Nat} {s1 : Nat} (h : fX11_init_b127 σ I J D R s0 s1 = some (σ9, I9, J9, D9, R9)) : WX11_init G l σ0 (σ9, I9, J9, D9, R9) none (σ, I, J, D, R) 127 [] [vR (some s1), vR (some s0)] := by
  unfold fX11_init_b127 at h
  obtain ⟨g66, h⟩ := gd h
  refine r_putRF (pc := 127) dX11_init_127 fwX11_73 rfl rfl g66 ?_
  cases h
  exact r_vret dX11_init_130
def fX11_init_b119  (t : Nat) (σ : Shp) (I : Nat → Nat → Int32) (J : Nat → Nat → Int64) (D : Nat → Nat → UInt64) (R : Nat → Nat → Option Nat) (s0 : Nat) (s1 : Nat) : Option ((Shp) × (Nat → Nat → Int32) × (Nat → Nat → Int64) × (Nat → Nat → UInt64) × (Nat → Nat → Option Nat)) :=
  if kdx σ s0 = 12 then
  let R64 := u2 R s0 10 (some s1)
  let σ65 := mkA σ 21 (Int32.toNatClampNeg (40 : Int32))
  fX11_init_b127 σ65 I J D R64 t (nxx σ + 4)
  else none
theorem mX11_init_b119 {σ : Shp} {I : Nat → Nat → Int32} {J : Nat → Nat → Int64} {D : Nat → Nat → UInt64} {R : Nat → Nat → Option Nat} {t : Nat} {σ9 : Shp} {I9 : Nat → Nat → Int32} {J9 : Nat → Nat → Int64} {D9 : Nat → Nat → UInt64} {R9 : Nat → Nat → Option Nat} {s0 : Nat} {s1 : Nat} (h : fX11_init_b119 t σ I J D R s0 s1 = some (σ9, I9, J9, D9, R9)) : Lex σ σ9 := by
  unfold fX11_init_b119 at h
  replace h := (gd h).2
  exact Lex_mkA (mX11_init_b127 h)
theorem wX11_init_b119 {G : Gx} {l : Launch} {σ0 : Shp} {σ : Shp} {I : Nat → Nat → Int32} {J : Nat → Nat → Int64} {D : Nat → Nat → UInt64} {R : Nat → Nat → Option Nat} {t : Nat} {σ9 : Shp} {I9 : Nat → Nat → Int32} {J9 : Nat → Nat → Int64} {D9 : Nat → Nat → UInt64} {R9 : Nat → Nat → Option Nat} {s0 : Nat} {s1 : Nat} (h : fX11_init_b119 t σ I J D R s0 s1 = some (σ9, I9, J9, D9, R9)) : WX11_init G l σ0 (σ9, I9, J9, D9, R9) none (σ, I, J, D, R) 119 [(0, vR (some t))] [vR (some s1), vR (some s0)] := by
  unfold fX11_init_b119 at h
  obtain ⟨g63, h⟩ := gd h
  refine r_putRF (pc := 119) dX11_init_119 fwX11_69 rfl rfl g63 ?_
  refine r_aload_n (pc := 122) dX11_init_122 rfl 0 rfl ?_
  refine r_bipush (pc := 123) dX11_init_123 kc_bipush_40 ?_
  refine r_newa (pc := 125) (t := 21) (ti := 1) (ty := .long) dX11_init_125 rfl (by decide) ac21 (by decide) (by decide) (Nat.sub_le_sub_right (mX11_init_b127 h).1 _) (Nat.sub_le_sub_right (mX11_init_b127 h).2 _) ?_
  refine r_sub [] rfl ?_
  exact wX11_init_b127 h
def fX11_init_b111  (t : Nat) (σ : Shp) (I : Nat → Nat → Int32) (J : Nat → Nat → Int64) (D : Nat → Nat → UInt64) (R : Nat → Nat → Option Nat) (s0 : Nat) (s1 : Nat) : Option ((Shp) × (Nat → Nat → Int32) × (Nat → Nat → Int64) × (Nat → Nat → UInt64) × (Nat → Nat → Option Nat)) :=
  if kdx σ s0 = 12 then
  let R61 := u2 R s0 9 (some s1)
  let σ62 := mkA σ 21 (Int32.toNatClampNeg (40 : Int32))
  fX11_init_b119 t σ62 I J D R61 t (nxx σ + 4)
  else none
theorem mX11_init_b111 {σ : Shp} {I : Nat → Nat → Int32} {J : Nat → Nat → Int64} {D : Nat → Nat → UInt64} {R : Nat → Nat → Option Nat} {t : Nat} {σ9 : Shp} {I9 : Nat → Nat → Int32} {J9 : Nat → Nat → Int64} {D9 : Nat → Nat → UInt64} {R9 : Nat → Nat → Option Nat} {s0 : Nat} {s1 : Nat} (h : fX11_init_b111 t σ I J D R s0 s1 = some (σ9, I9, J9, D9, R9)) : Lex σ σ9 := by
  unfold fX11_init_b111 at h
  replace h := (gd h).2
  exact Lex_mkA (mX11_init_b119 h)
theorem wX11_init_b111 {G : Gx} {l : Launch} {σ0 : Shp} {σ : Shp} {I : Nat → Nat → Int32} {J : Nat → Nat → Int64} {D : Nat → Nat → UInt64} {R : Nat → Nat → Option Nat} {t : Nat} {σ9 : Shp} {I9 : Nat → Nat → Int32} {J9 : Nat → Nat → Int64} {D9 : Nat → Nat → UInt64} {R9 : Nat → Nat → Option Nat} {s0 : Nat} {s1 : Nat} (h : fX11_init_b111 t σ I J D R s0 s1 = some (σ9, I9, J9, D9, R9)) : WX11_init G l σ0 (σ9, I9, J9, D9, R9) none (σ, I, J, D, R) 111 [(0, vR (some t))] [vR (some s1), vR (some s0)] := by
  unfold fX11_init_b111 at h
  obtain ⟨g60, h⟩ := gd h
  refine r_putRF (pc := 111) dX11_init_111 fwX11_65 rfl rfl g60 ?_
  refine r_aload_n (pc := 114) dX11_init_114 rfl 0 rfl ?_
  refine r_bipush (pc := 115) dX11_init_115 kc_bipush_40 ?_
  refine r_newa (pc := 117) (t := 21) (ti := 1) (ty := .long) dX11_init_117 rfl (by decide) ac21 (by decide) (by decide) (Nat.sub_le_sub_right (mX11_init_b119 h).1 _) (Nat.sub_le_sub_right (mX11_init_b119 h).2 _) ?_
  refine r_sub [0] rfl ?_
  exact wX11_init_b119 h
def fX11_init_b107  (t : Nat) (σ : Shp) (I : Nat → Nat → Int32) (J : Nat → Nat → Int64) (D : Nat → Nat → UInt64) (R : Nat → Nat → Option Nat) (s0 : Nat) (s1 : Nat) : Option ((Shp) × (Nat → Nat → Int32) × (Nat → Nat → Int64) × (Nat → Nat → UInt64) × (Nat → Nat → Option Nat)) :=
  if kdx σ s1 = 2 then
  (fX1_init σ I R s1).bind fun (σ56, I57, R58) =>
  fX11_init_b111 t σ56 I57 J D R58 s0 s1
  else none
theorem mX11_init_b107 {σ : Shp} {I : Nat → Nat → Int32} {J : Nat → Nat → Int64} {D : Nat → Nat → UInt64} {R : Nat → Nat → Option Nat} {t : Nat} {σ9 : Shp} {I9 : Nat → Nat → Int32} {J9 : Nat → Nat → Int64} {D9 : Nat → Nat → UInt64} {R9 : Nat → Nat → Option Nat} {s0 : Nat} {s1 : Nat} (h : fX11_init_b107 t σ I J D R s0 s1 = some (σ9, I9, J9, D9, R9)) : Lex σ σ9 := by
  unfold fX11_init_b107 at h
  replace h := (gd h).2
  obtain ⟨⟨σ56, I57, R58⟩, hc59, h⟩ := ob h
  refine Lex.trans (mX1_init hc59) ?_
  exact mX11_init_b111 h
theorem wX11_init_b107 {G : Gx} {l : Launch} {σ0 : Shp} {σ : Shp} {I : Nat → Nat → Int32} {J : Nat → Nat → Int64} {D : Nat → Nat → UInt64} {R : Nat → Nat → Option Nat} {t : Nat} {σ9 : Shp} {I9 : Nat → Nat → Int32} {J9 : Nat → Nat → Int64} {D9 : Nat → Nat → UInt64} {R9 : Nat → Nat → Option Nat} {s0 : Nat} {s1 : Nat} (h : fX11_init_b107 t σ I J D R s0 s1 = some (σ9, I9, J9, D9, R9)) : WX11_init G l σ0 (σ9, I9, J9, D9, R9) none (σ, I, J, D, R) 107 [(0, vR (some t))] [vR (some s1), vR (some s0)] := by
  unfold fX11_init_b107 at h
  refine r_dup (pc := 107) dX11_init_107 rfl ?_
  obtain ⟨g55, h⟩ := gd h
  obtain ⟨⟨σ56, I57, R58⟩, hc59, h⟩ := ob h
  refine r_callIN0 (pc := 108) (av := []) (S := [vR (some s1), vR (some s0)]) dX11_init_108 (kX1_init hc59) nkX11_64 rfl mwX1_init rfl ⟨Nat.le_of_ble_eq_true rfl, Nat.le_of_ble_eq_true rfl⟩ (Nat.le_of_ble_eq_true rfl) (mX1_init hc59) (bdx_le (mX1_init hc59) (mX11_init_b111 h)) ?_
  refine r_sub [0] rfl ?_
  exact wX11_init_b111 h
def fX11_init_b100  (t : Nat) (σ : Shp) (I : Nat → Nat → Int32) (J : Nat → Nat → Int64) (D : Nat → Nat → UInt64) (R : Nat → Nat → Option Nat) (s0 : Nat) (s1 : Nat) : Option ((Shp) × (Nat → Nat → Int32) × (Nat → Nat → Int64) × (Nat → Nat → UInt64) × (Nat → Nat → Option Nat)) :=
  if kdx σ s0 = 12 then
  let R53 := u2 R s0 8 (some s1)
  let σ54 := mkO σ 2 7
  fX11_init_b107 t σ54 I J D R53 t (nxx σ + 4)
  else none
theorem mX11_init_b100 {σ : Shp} {I : Nat → Nat → Int32} {J : Nat → Nat → Int64} {D : Nat → Nat → UInt64} {R : Nat → Nat → Option Nat} {t : Nat} {σ9 : Shp} {I9 : Nat → Nat → Int32} {J9 : Nat → Nat → Int64} {D9 : Nat → Nat → UInt64} {R9 : Nat → Nat → Option Nat} {s0 : Nat} {s1 : Nat} (h : fX11_init_b100 t σ I J D R s0 s1 = some (σ9, I9, J9, D9, R9)) : Lex σ σ9 := by
  unfold fX11_init_b100 at h
  replace h := (gd h).2
  exact Lex_mkO (mX11_init_b107 h)
theorem wX11_init_b100 {G : Gx} {l : Launch} {σ0 : Shp} {σ : Shp} {I : Nat → Nat → Int32} {J : Nat → Nat → Int64} {D : Nat → Nat → UInt64} {R : Nat → Nat → Option Nat} {t : Nat} {σ9 : Shp} {I9 : Nat → Nat → Int32} {J9 : Nat → Nat → Int64} {D9 : Nat → Nat → UInt64} {R9 : Nat → Nat → Option Nat} {s0 : Nat} {s1 : Nat} (h : fX11_init_b100 t σ I J D R s0 s1 = some (σ9, I9, J9, D9, R9)) : WX11_init G l σ0 (σ9, I9, J9, D9, R9) none (σ, I, J, D, R) 100 [(0, vR (some t))] [vR (some s1), vR (some s0)] := by
  unfold fX11_init_b100 at h
  obtain ⟨g52, h⟩ := gd h
  refine r_putRF (pc := 100) dX11_init_100 fwX11_58 rfl rfl g52 ?_
  refine r_aload_n (pc := 103) dX11_init_103 rfl 0 rfl ?_
  refine r_new (pc := 104) dX11_init_104 cls1 ftk1 cnX11_62 ins1 ini1 (Nat.sub_le_sub_right (mX11_init_b107 h).1 _) (Nat.sub_le_sub_right (mX11_init_b107 h).2 _) ?_
  refine r_sub [0] rfl ?_
  exact wX11_init_b107 h
def fX11_init_b96  (t : Nat) (σ : Shp) (I : Nat → Nat → Int32) (J : Nat → Nat → Int64) (D : Nat → Nat → UInt64) (R : Nat → Nat → Option Nat) (s0 : Nat) (s1 : Nat) : Option ((Shp) × (Nat → Nat → Int32) × (Nat → Nat → Int64) × (Nat → Nat → UInt64) × (Nat → Nat → Option Nat)) :=
  if kdx σ s1 = 6 then
  (fX5_init σ R s1).bind fun (σ49, R50) =>
  fX11_init_b100 t σ49 I J D R50 s0 s1
  else none
theorem mX11_init_b96 {σ : Shp} {I : Nat → Nat → Int32} {J : Nat → Nat → Int64} {D : Nat → Nat → UInt64} {R : Nat → Nat → Option Nat} {t : Nat} {σ9 : Shp} {I9 : Nat → Nat → Int32} {J9 : Nat → Nat → Int64} {D9 : Nat → Nat → UInt64} {R9 : Nat → Nat → Option Nat} {s0 : Nat} {s1 : Nat} (h : fX11_init_b96 t σ I J D R s0 s1 = some (σ9, I9, J9, D9, R9)) : Lex σ σ9 := by
  unfold fX11_init_b96 at h
  replace h := (gd h).2
  obtain ⟨⟨σ49, R50⟩, hc51, h⟩ := ob h
  refine Lex.trans (mX5_init hc51) ?_
  exact mX11_init_b100 h
theorem wX11_init_b96 {G : Gx} {l : Launch} {σ0 : Shp} {σ : Shp} {I : Nat → Nat → Int32} {J : Nat → Nat → Int64} {D : Nat → Nat → UInt64} {R : Nat → Nat → Option Nat} {t : Nat} {σ9 : Shp} {I9 : Nat → Nat → Int32} {J9 : Nat → Nat → Int64} {D9 : Nat → Nat → UInt64} {R9 : Nat → Nat → Option Nat} {s0 : Nat} {s1 : Nat} (h : fX11_init_b96 t σ I J D R s0 s1 = some (σ9, I9, J9, D9, R9)) : WX11_init G l σ0 (σ9, I9, J9, D9, R9) none (σ, I, J, D, R) 96 [(0, vR (some t))] [vR (some s1), vR (some s0)] := by
  unfold fX11_init_b96 at h
  refine r_dup (pc := 96) dX11_init_96 rfl ?_
  obtain ⟨g48, h⟩ := gd h
  obtain ⟨⟨σ49, R50⟩, hc51, h⟩ := ob h
  refine r_callIN0 (pc := 97) (av := []) (S := [vR (some s1), vR (some s0)]) dX11_init_97 (kX5_init hc51) nkX11_57 rfl mwX5_init rfl ⟨Nat.le_of_ble_eq_true rfl, Nat.le_of_ble_eq_true rfl⟩ (Nat.le_of_ble_eq_true rfl) (mX5_init hc51) (bdx_le (mX5_init hc51) (mX11_init_b100 h)) ?_
  refine r_sub [0] rfl ?_
  exact wX11_init_b100 h
def fX11_init_b89  (t : Nat) (σ : Shp) (I : Nat → Nat → Int32) (J : Nat → Nat → Int64) (D : Nat → Nat → UInt64) (R : Nat → Nat → Option Nat) (s0 : Nat) (s1 : Nat) : Option ((Shp) × (Nat → Nat → Int32) × (Nat → Nat → Int64) × (Nat → Nat → UInt64) × (Nat → Nat → Option Nat)) :=
  if kdx σ s0 = 12 then
  let R46 := u2 R s0 7 (some s1)
  let σ47 := mkO σ 6 10
  fX11_init_b96 t σ47 I J D R46 t (nxx σ + 4)
  else none
theorem mX11_init_b89 {σ : Shp} {I : Nat → Nat → Int32} {J : Nat → Nat → Int64} {D : Nat → Nat → UInt64} {R : Nat → Nat → Option Nat} {t : Nat} {σ9 : Shp} {I9 : Nat → Nat → Int32} {J9 : Nat → Nat → Int64} {D9 : Nat → Nat → UInt64} {R9 : Nat → Nat → Option Nat} {s0 : Nat} {s1 : Nat} (h : fX11_init_b89 t σ I J D R s0 s1 = some (σ9, I9, J9, D9, R9)) : Lex σ σ9 := by
  unfold fX11_init_b89 at h
  replace h := (gd h).2
  exact Lex_mkO (mX11_init_b96 h)
theorem wX11_init_b89 {G : Gx} {l : Launch} {σ0 : Shp} {σ : Shp} {I : Nat → Nat → Int32} {J : Nat → Nat → Int64} {D : Nat → Nat → UInt64} {R : Nat → Nat → Option Nat} {t : Nat} {σ9 : Shp} {I9 : Nat → Nat → Int32} {J9 : Nat → Nat → Int64} {D9 : Nat → Nat → UInt64} {R9 : Nat → Nat → Option Nat} {s0 : Nat} {s1 : Nat} (h : fX11_init_b89 t σ I J D R s0 s1 = some (σ9, I9, J9, D9, R9)) : WX11_init G l σ0 (σ9, I9, J9, D9, R9) none (σ, I, J, D, R) 89 [(0, vR (some t))] [vR (some s1), vR (some s0)] := by
  unfold fX11_init_b89 at h
  obtain ⟨g45, h⟩ := gd h
  refine r_putRF (pc := 89) dX11_init_89 fwX11_51 rfl rfl g45 ?_
  refine r_aload_n (pc := 92) dX11_init_92 rfl 0 rfl ?_
  refine r_new (pc := 93) dX11_init_93 cls5 ftk5 cnX11_55 ins5 ini5 (Nat.sub_le_sub_right (mX11_init_b96 h).1 _) (Nat.sub_le_sub_right (mX11_init_b96 h).2 _) ?_
  refine r_sub [0] rfl ?_
  exact wX11_init_b96 h
def fX11_init_b85  (t : Nat) (σ : Shp) (I : Nat → Nat → Int32) (J : Nat → Nat → Int64) (D : Nat → Nat → UInt64) (R : Nat → Nat → Option Nat) (s0 : Nat) (s1 : Nat) : Option ((Shp) × (Nat → Nat → Int32) × (Nat → Nat → Int64) × (Nat → Nat → UInt64) × (Nat → Nat → Option Nat)) :=
  if kdx σ s1 = 3 then
  (fX2_init σ R s1).bind fun (σ42, R43) =>
  fX11_init_b89 t σ42 I J D R43 s0 s1
  else none
theorem mX11_init_b85 {σ : Shp} {I : Nat → Nat → Int32} {J : Nat → Nat → Int64} {D : Nat → Nat → UInt64} {R : Nat → Nat → Option Nat} {t : Nat} {σ9 : Shp} {I9 : Nat → Nat → Int32} {J9 : Nat → Nat → Int64} {D9 : Nat → Nat → UInt64} {R9 : Nat → Nat → Option Nat} {s0 : Nat} {s1 : Nat} (h : fX11_init_b85 t σ I J D R s0 s1 = some (σ9, I9, J9, D9, R9)) : Lex σ σ9 := by
  unfold fX11_init_b85 at h
  replace h := (gd h).2
  obtain ⟨⟨σ42, R43⟩, hc44, h⟩ := ob h
  refine Lex.trans (mX2_init hc44) ?_
  exact mX11_init_b89 h
theorem wX11_init_b85 {G : Gx} {l : Launch} {σ0 : Shp} {σ : Shp} {I : Nat → Nat → Int32} {J : Nat → Nat → Int64} {D : Nat → Nat → UInt64} {R : Nat → Nat → Option Nat} {t : Nat} {σ9 : Shp} {I9 : Nat → Nat → Int32} {J9 : Nat → Nat → Int64} {D9 : Nat → Nat → UInt64} {R9 : Nat → Nat → Option Nat} {s0 : Nat} {s1 : Nat} (h : fX11_init_b85 t σ I J D R s0 s1 = some (σ9, I9, J9, D9, R9)) : WX11_init G l σ0 (σ9, I9, J9, D9, R9) none (σ, I, J, D, R) 85 [(0, vR (some t))] [vR (some s1), vR (some s0)] := by
  unfold fX11_init_b85 at h
  refine r_dup (pc := 85) dX11_init_85 rfl ?_
  obtain ⟨g41, h⟩ := gd h
  obtain ⟨⟨σ42, R43⟩, hc44, h⟩ := ob h
  refine r_callIN0 (pc := 86) (av := []) (S := [vR (some s1), vR (some s0)]) dX11_init_86 (kX2_init hc44) nkX11_50 rfl mwX2_init rfl ⟨Nat.le_of_ble_eq_true rfl, Nat.le_of_ble_eq_true rfl⟩ (Nat.le_of_ble_eq_true rfl) (mX2_init hc44) (bdx_le (mX2_init hc44) (mX11_init_b89 h)) ?_
  refine r_sub [0] rfl ?_
  exact wX11_init_b89 h
def fX11_init_b67  (t : Nat) (σ : Shp) (I : Nat → Nat → Int32) (J : Nat → Nat → Int64) (D : Nat → Nat → UInt64) (R : Nat → Nat → Option Nat) (s0 : Nat) (s1 : Nat) : Option ((Shp) × (Nat → Nat → Int32) × (Nat → Nat → Int64) × (Nat → Nat → UInt64) × (Nat → Nat → Option Nat)) :=
  if kdx σ s0 = 12 then
  let R34 := u2 R s0 5 (some s1)
  if kdx σ t = 12 then
  ((R34 t 5) : Option Nat).bind fun a36 =>
  if kdx σ a36 = 5 then
  ((R34 a36 0) : Option Nat).bind fun a38 =>
  let R39 := u2 R34 t 6 (some a38)
  let σ40 := mkO σ 3 8
  fX11_init_b85 t σ40 I J D R39 t (nxx σ + 4)
  else none
  else none
  else none
theorem mX11_init_b67 {σ : Shp} {I : Nat → Nat → Int32} {J : Nat → Nat → Int64} {D : Nat → Nat → UInt64} {R : Nat → Nat → Option Nat} {t : Nat} {σ9 : Shp} {I9 : Nat → Nat → Int32} {J9 : Nat → Nat → Int64} {D9 : Nat → Nat → UInt64} {R9 : Nat → Nat → Option Nat} {s0 : Nat} {s1 : Nat} (h : fX11_init_b67 t σ I J D R s0 s1 = some (σ9, I9, J9, D9, R9)) : Lex σ σ9 := by
  unfold fX11_init_b67 at h
  replace h := (gd h).2
  replace h := (gd h).2
  obtain ⟨a36, ha36, h⟩ := ob h
  replace h := (gd h).2
  obtain ⟨a38, ha38, h⟩ := ob h
  exact Lex_mkO (mX11_init_b85 h)
theorem wX11_init_b67 {G : Gx} {l : Launch} {σ0 : Shp} {σ : Shp} {I : Nat → Nat → Int32} {J : Nat → Nat → Int64} {D : Nat → Nat → UInt64} {R : Nat → Nat → Option Nat} {t : Nat} {σ9 : Shp} {I9 : Nat → Nat → Int32} {J9 : Nat → Nat → Int64} {D9 : Nat → Nat → UInt64} {R9 : Nat → Nat → Option Nat} {s0 : Nat} {s1 : Nat} (h : fX11_init_b67 t σ I J D R s0 s1 = some (σ9, I9, J9, D9, R9)) : WX11_init G l σ0 (σ9, I9, J9, D9, R9) none (σ, I, J, D, R) 67 [(0, vR (some t))] [vR (some s1), vR (some s0)] := by
  unfold fX11_init_b67 at h
  obtain ⟨g33, h⟩ := gd h
  refine r_putRF (pc := 67) dX11_init_67 fwX11_39 rfl rfl g33 ?_
  refine r_aload_n (pc := 70) dX11_init_70 rfl 0 rfl ?_
  refine r_aload_n (pc := 71) dX11_init_71 rfl 0 rfl ?_
  obtain ⟨g35, h⟩ := gd h
  obtain ⟨a36, ha36, h⟩ := ob h
  refine r_getS (pc := 72) dX11_init_72 fgX11_39 rfl g35 ha36 ?_
  obtain ⟨g37, h⟩ := gd h
  obtain ⟨a38, ha38, h⟩ := ob h
  refine r_getS (pc := 75) dX11_init_75 fgX11_43 rfl g37 ha38 ?_
  refine r_putRF (pc := 78) dX11_init_78 fwX11_47 rfl rfl g35 ?_
  refine r_aload_n (pc := 81) dX11_init_81 rfl 0 rfl ?_
  refine r_new (pc := 82) dX11_init_82 cls2 ftk2 cnX11_48 ins2 ini2 (Nat.sub_le_sub_right (mX11_init_b85 h).1 _) (Nat.sub_le_sub_right (mX11_init_b85 h).2 _) ?_
  refine r_sub [0] rfl ?_
  exact wX11_init_b85 h
def fX11_init_b63  (t : Nat) (σ : Shp) (I : Nat → Nat → Int32) (J : Nat → Nat → Int64) (D : Nat → Nat → UInt64) (R : Nat → Nat → Option Nat) (s0 : Nat) (s1 : Nat) : Option ((Shp) × (Nat → Nat → Int32) × (Nat → Nat → Int64) × (Nat → Nat → UInt64) × (Nat → Nat → Option Nat)) :=
  if kdx σ s1 = 5 then
  (fX4_init σ I J D R s1).bind fun (σ27, I28, J29, D30, R31) =>
  fX11_init_b67 t σ27 I28 J29 D30 R31 s0 s1
  else none
theorem mX11_init_b63 {σ : Shp} {I : Nat → Nat → Int32} {J : Nat → Nat → Int64} {D : Nat → Nat → UInt64} {R : Nat → Nat → Option Nat} {t : Nat} {σ9 : Shp} {I9 : Nat → Nat → Int32} {J9 : Nat → Nat → Int64} {D9 : Nat → Nat → UInt64} {R9 : Nat → Nat → Option Nat} {s0 : Nat} {s1 : Nat} (h : fX11_init_b63 t σ I J D R s0 s1 = some (σ9, I9, J9, D9, R9)) : Lex σ σ9 := by
  unfold fX11_init_b63 at h
  replace h := (gd h).2
  obtain ⟨⟨σ27, I28, J29, D30, R31⟩, hc32, h⟩ := ob h
  refine Lex.trans (mX4_init hc32) ?_
  exact mX11_init_b67 h
theorem wX11_init_b63 {G : Gx} {l : Launch} {σ0 : Shp} {σ : Shp} {I : Nat → Nat → Int32} {J : Nat → Nat → Int64} {D : Nat → Nat → UInt64} {R : Nat → Nat → Option Nat} {t : Nat} {σ9 : Shp} {I9 : Nat → Nat → Int32} {J9 : Nat → Nat → Int64} {D9 : Nat → Nat → UInt64} {R9 : Nat → Nat → Option Nat} {s0 : Nat} {s1 : Nat} (h : fX11_init_b63 t σ I J D R s0 s1 = some (σ9, I9, J9, D9, R9)) : WX11_init G l σ0 (σ9, I9, J9, D9, R9) none (σ, I, J, D, R) 63 [(0, vR (some t))] [vR (some s1), vR (some s0)] := by
  unfold fX11_init_b63 at h
  refine r_dup (pc := 63) dX11_init_63 rfl ?_
  obtain ⟨g26, h⟩ := gd h
  obtain ⟨⟨σ27, I28, J29, D30, R31⟩, hc32, h⟩ := ob h
  refine r_callI0 (pc := 64) (av := []) (S := [vR (some s1), vR (some s0)]) dX11_init_64 (kX4_init hc32) mkX11_38 rfl mwX4_init rfl ⟨Nat.le_of_ble_eq_true rfl, Nat.le_of_ble_eq_true rfl⟩ (Nat.le_of_ble_eq_true rfl) (mX4_init hc32) (bdx_le (mX4_init hc32) (mX11_init_b67 h)) ?_
  refine r_sub [0] rfl ?_
  exact wX11_init_b67 h
def fX11_init_b12  (t : Nat) (σ : Shp) (I : Nat → Nat → Int32) (J : Nat → Nat → Int64) (D : Nat → Nat → UInt64) (R : Nat → Nat → Option Nat) (s0 : Nat) (s1 : Nat) : Option ((Shp) × (Nat → Nat → Int32) × (Nat → Nat → Int64) × (Nat → Nat → UInt64) × (Nat → Nat → Option Nat)) :=
  if kdx σ s0 = 12 then
  let R7 := u2 R s0 0 (some s1)
  if kdx σ t = 12 then
  ((R7 t 0) : Option Nat).bind fun a9 =>
  if kdx σ a9 = 8 then
  ((R7 a9 0) : Option Nat).bind fun a11 =>
  let R12 := u2 R7 t 1 (some a11)
  ((R12 t 0) : Option Nat).bind fun a13 =>
  if kdx σ a13 = 8 then
  ((R12 a13 1) : Option Nat).bind fun a15 =>
  let R16 := u2 R12 t 2 (some a15)
  ((R16 t 0) : Option Nat).bind fun a17 =>
  if kdx σ a17 = 8 then
  ((R16 a17 2) : Option Nat).bind fun a19 =>
  let R20 := u2 R16 t 3 (some a19)
  ((R20 t 0) : Option Nat).bind fun a21 =>
  if kdx σ a21 = 8 then
  ((R20 a21 3) : Option Nat).bind fun a23 =>
  let R24 := u2 R20 t 4 (some a23)
  let σ25 := mkO σ 5 14
  fX11_init_b63 t σ25 I J D R24 t (nxx σ + 4)
  else none
  else none
  else none
  else none
  else none
  else none
theorem mX11_init_b12 {σ : Shp} {I : Nat → Nat → Int32} {J : Nat → Nat → Int64} {D : Nat → Nat → UInt64} {R : Nat → Nat → Option Nat} {t : Nat} {σ9 : Shp} {I9 : Nat → Nat → Int32} {J9 : Nat → Nat → Int64} {D9 : Nat → Nat → UInt64} {R9 : Nat → Nat → Option Nat} {s0 : Nat} {s1 : Nat} (h : fX11_init_b12 t σ I J D R s0 s1 = some (σ9, I9, J9, D9, R9)) : Lex σ σ9 := by
  unfold fX11_init_b12 at h
  replace h := (gd h).2
  replace h := (gd h).2
  obtain ⟨a9, ha9, h⟩ := ob h
  replace h := (gd h).2
  obtain ⟨a11, ha11, h⟩ := ob h
  obtain ⟨a13, ha13, h⟩ := ob h
  replace h := (gd h).2
  obtain ⟨a15, ha15, h⟩ := ob h
  obtain ⟨a17, ha17, h⟩ := ob h
  replace h := (gd h).2
  obtain ⟨a19, ha19, h⟩ := ob h
  obtain ⟨a21, ha21, h⟩ := ob h
  replace h := (gd h).2
  obtain ⟨a23, ha23, h⟩ := ob h
  exact Lex_mkO (mX11_init_b63 h)
theorem wX11_init_b12 {G : Gx} {l : Launch} {σ0 : Shp} {σ : Shp} {I : Nat → Nat → Int32} {J : Nat → Nat → Int64} {D : Nat → Nat → UInt64} {R : Nat → Nat → Option Nat} {t : Nat} {σ9 : Shp} {I9 : Nat → Nat → Int32} {J9 : Nat → Nat → Int64} {D9 : Nat → Nat → UInt64} {R9 : Nat → Nat → Option Nat} {s0 : Nat} {s1 : Nat} (h : fX11_init_b12 t σ I J D R s0 s1 = some (σ9, I9, J9, D9, R9)) : WX11_init G l σ0 (σ9, I9, J9, D9, R9) none (σ, I, J, D, R) 12 [(0, vR (some t))] [vR (some s1), vR (some s0)] := by
  unfold fX11_init_b12 at h
  obtain ⟨g6, h⟩ := gd h
  refine r_putRF (pc := 12) dX11_init_12 fwX11_10 rfl rfl g6 ?_
  refine r_aload_n (pc := 15) dX11_init_15 rfl 0 rfl ?_
  refine r_aload_n (pc := 16) dX11_init_16 rfl 0 rfl ?_
  obtain ⟨g8, h⟩ := gd h
  obtain ⟨a9, ha9, h⟩ := ob h
  refine r_getS (pc := 17) dX11_init_17 fgX11_10 rfl g8 ha9 ?_
  obtain ⟨g10, h⟩ := gd h
  obtain ⟨a11, ha11, h⟩ := ob h
  refine r_getS (pc := 20) dX11_init_20 fgX11_16 rfl g10 ha11 ?_
  refine r_putRF (pc := 23) dX11_init_23 fwX11_20 rfl rfl g8 ?_
  refine r_aload_n (pc := 26) dX11_init_26 rfl 0 rfl ?_
  refine r_aload_n (pc := 27) dX11_init_27 rfl 0 rfl ?_
  obtain ⟨a13, ha13, h⟩ := ob h
  refine r_getS (pc := 28) dX11_init_28 fgX11_10 rfl g8 ha13 ?_
  obtain ⟨g14, h⟩ := gd h
  obtain ⟨a15, ha15, h⟩ := ob h
  refine r_getS (pc := 31) dX11_init_31 fgX11_21 rfl g14 ha15 ?_
  refine r_putRF (pc := 34) dX11_init_34 fwX11_25 rfl rfl g8 ?_
  refine r_aload_n (pc := 37) dX11_init_37 rfl 0 rfl ?_
  refine r_aload_n (pc := 38) dX11_init_38 rfl 0 rfl ?_
  obtain ⟨a17, ha17, h⟩ := ob h
  refine r_getS (pc := 39) dX11_init_39 fgX11_10 rfl g8 ha17 ?_
  obtain ⟨g18, h⟩ := gd h
  obtain ⟨a19, ha19, h⟩ := ob h
  refine r_getS (pc := 42) dX11_init_42 fgX11_26 rfl g18 ha19 ?_
  refine r_putRF (pc := 45) dX11_init_45 fwX11_30 rfl rfl g8 ?_
  refine r_aload_n (pc := 48) dX11_init_48 rfl 0 rfl ?_
  refine r_aload_n (pc := 49) dX11_init_49 rfl 0 rfl ?_
  obtain ⟨a21, ha21, h⟩ := ob h
  refine r_getS (pc := 50) dX11_init_50 fgX11_10 rfl g8 ha21 ?_
  obtain ⟨g22, h⟩ := gd h
  obtain ⟨a23, ha23, h⟩ := ob h
  refine r_getS (pc := 53) dX11_init_53 fgX11_31 rfl g22 ha23 ?_
  refine r_putRF (pc := 56) dX11_init_56 fwX11_35 rfl rfl g8 ?_
  refine r_aload_n (pc := 59) dX11_init_59 rfl 0 rfl ?_
  refine r_new (pc := 60) dX11_init_60 cls4 ftk4 cnX11_36 ins4 ini4 (Nat.sub_le_sub_right (mX11_init_b63 h).1 _) (Nat.sub_le_sub_right (mX11_init_b63 h).2 _) ?_
  refine r_sub [0] rfl ?_
  exact wX11_init_b63 h
def fX11_init_b8  (t : Nat) (σ : Shp) (I : Nat → Nat → Int32) (J : Nat → Nat → Int64) (D : Nat → Nat → UInt64) (R : Nat → Nat → Option Nat) (s0 : Nat) (s1 : Nat) : Option ((Shp) × (Nat → Nat → Int32) × (Nat → Nat → Int64) × (Nat → Nat → UInt64) × (Nat → Nat → Option Nat)) :=
  if kdx σ s1 = 8 then
  (fX7_init σ R s1).bind fun (σ3, R4) =>
  fX11_init_b12 t σ3 I J D R4 s0 s1
  else none
theorem mX11_init_b8 {σ : Shp} {I : Nat → Nat → Int32} {J : Nat → Nat → Int64} {D : Nat → Nat → UInt64} {R : Nat → Nat → Option Nat} {t : Nat} {σ9 : Shp} {I9 : Nat → Nat → Int32} {J9 : Nat → Nat → Int64} {D9 : Nat → Nat → UInt64} {R9 : Nat → Nat → Option Nat} {s0 : Nat} {s1 : Nat} (h : fX11_init_b8 t σ I J D R s0 s1 = some (σ9, I9, J9, D9, R9)) : Lex σ σ9 := by
  unfold fX11_init_b8 at h
  replace h := (gd h).2
  obtain ⟨⟨σ3, R4⟩, hc5, h⟩ := ob h
  refine Lex.trans (mX7_init hc5) ?_
  exact mX11_init_b12 h
theorem wX11_init_b8 {G : Gx} {l : Launch} {σ0 : Shp} {σ : Shp} {I : Nat → Nat → Int32} {J : Nat → Nat → Int64} {D : Nat → Nat → UInt64} {R : Nat → Nat → Option Nat} {t : Nat} {σ9 : Shp} {I9 : Nat → Nat → Int32} {J9 : Nat → Nat → Int64} {D9 : Nat → Nat → UInt64} {R9 : Nat → Nat → Option Nat} {s0 : Nat} {s1 : Nat} (h : fX11_init_b8 t σ I J D R s0 s1 = some (σ9, I9, J9, D9, R9)) : WX11_init G l σ0 (σ9, I9, J9, D9, R9) none (σ, I, J, D, R) 8 [(0, vR (some t))] [vR (some s1), vR (some s0)] := by
  unfold fX11_init_b8 at h
  refine r_dup (pc := 8) dX11_init_8 rfl ?_
  obtain ⟨g2, h⟩ := gd h
  obtain ⟨⟨σ3, R4⟩, hc5, h⟩ := ob h
  refine r_callIN0 (pc := 9) (av := []) (S := [vR (some s1), vR (some s0)]) dX11_init_9 (kX7_init hc5) nkX11_9 rfl mwX7_init rfl ⟨Nat.le_of_ble_eq_true rfl, Nat.le_of_ble_eq_true rfl⟩ (Nat.le_of_ble_eq_true rfl) (mX7_init hc5) (bdx_le (mX7_init hc5) (mX11_init_b12 h)) ?_
  refine r_sub [0] rfl ?_
  exact wX11_init_b12 h
def fX11_init (σ : Shp) (I : Nat → Nat → Int32) (J : Nat → Nat → Int64) (D : Nat → Nat → UInt64) (R : Nat → Nat → Option Nat) (t : Nat)  : Option ((Shp) × (Nat → Nat → Int32) × (Nat → Nat → Int64) × (Nat → Nat → UInt64) × (Nat → Nat → Option Nat)) :=
  let σ1 := mkO σ 8 14
  fX11_init_b8 t σ1 I J D R t (nxx σ + 4)
theorem mX11_init {σ : Shp} {I : Nat → Nat → Int32} {J : Nat → Nat → Int64} {D : Nat → Nat → UInt64} {R : Nat → Nat → Option Nat} {t : Nat}  {σ9 : Shp} {I9 : Nat → Nat → Int32} {J9 : Nat → Nat → Int64} {D9 : Nat → Nat → UInt64} {R9 : Nat → Nat → Option Nat} (h : fX11_init σ I J D R t = some (σ9, I9, J9, D9, R9)) : Lex σ σ9 := by
  unfold fX11_init at h
  exact Lex_mkO (mX11_init_b8 h)
theorem kX11_init {G : Gx} {l : Launch} {σ : Shp} {I : Nat → Nat → Int32} {J : Nat → Nat → Int64} {D : Nat → Nat → UInt64} {R : Nat → Nat → Option Nat} {t : Nat}  {σ9 : Shp} {I9 : Nat → Nat → Int32} {J9 : Nat → Nat → Int64} {D9 : Nat → Nat → UInt64} {R9 : Nat → Nat → Option Nat} (h : fX11_init σ I J D R t = some (σ9, I9, J9, D9, R9)) : Con G l yX11_init cX11_init 1 none 3 61 [vR (some t)] (σ, I, J, D, R) (σ9, I9, J9, D9, R9) none := by
  unfold fX11_init at h
  refine Con.mk (by decide +kernel) rfl (Nat.le_of_ble_eq_true rfl) ?_
  show WX11_init G l σ (σ9, I9, J9, D9, R9) none (σ, I, J, D, R) 0 _ []
  refine r_aload_n (pc := 0) dX11_init_0 rfl 0 rfl ?_
  refine r_objInit (pc := 1) (S := []) dX11_init_1 obX11_1 obI obC (Nat.le_of_ble_eq_true rfl) (Nat.le_of_ble_eq_true rfl) (Nat.le_of_ble_eq_true rfl) ?_
  refine r_aload_n (pc := 4) dX11_init_4 rfl 0 rfl ?_
  refine r_new (pc := 5) dX11_init_5 cls7 ftk7 cnX11_7 ins7 ini7 (Nat.sub_le_sub_right (mX11_init_b8 h).1 _) (Nat.sub_le_sub_right (mX11_init_b8 h).2 _) ?_
  refine r_sub [0] rfl ?_
  exact wX11_init_b8 h
abbrev WX11_fail (G : Gx) (l : Launch) (σ0 : Shp) (X1 : Stt) (rv : Option SV) : Stt → Nat → List (Nat × SV) → List SV → Prop := Wm G l yX11_fail cX11_fail 2 (some .int) (fun _ => True) (rmx 0 0 σ0 X1.1) σ0 (Qmx G σ0 X1 rv)
def fX11_fail (σ : Shp) (I : Nat → Nat → Int32) (t : Nat) (x1 : Int32) : Option ((Nat → Nat → Int32) × (Int32)) :=
  if kdx σ t = 12 then
  let I2 := u2 I t 13 ((I t 13) + (1 : Int32))
  let I3 := u2 I2 t 14 x1
  some (I3, ((-10 : Int32) - x1))
  else none
theorem kX11_fail {G : Gx} {l : Launch} {σ : Shp} {I : Nat → Nat → Int32} {J : Nat → Nat → Int64} {D : Nat → Nat → UInt64} {R : Nat → Nat → Option Nat} {t : Nat} {x1 : Int32} {I9 : Nat → Nat → Int32} {r9 : Int32} (h : fX11_fail σ I t x1 = some (I9, r9)) : Con G l yX11_fail cX11_fail 2 (some .int) 0 0 [vR (some t), vI x1] (σ, I, J, D, R) (σ, I9, J, D, R) (some (vI r9)) := by
  unfold fX11_fail at h
  refine Con.mk (by decide +kernel) rfl (Nat.le_of_ble_eq_true rfl) ?_
  show WX11_fail G l σ (σ, I9, J, D, R) (some (vI r9)) (σ, I, J, D, R) 0 _ []
  refine r_aload_n (pc := 0) dX11_fail_0 rfl 0 rfl ?_
  refine r_dup (pc := 1) dX11_fail_1 rfl ?_
  obtain ⟨g1, h⟩ := gd h
  refine r_getI (pc := 2) dX11_fail_2 fgX11_295 rfl g1 ?_
  refine r_iconst (pc := 5) dX11_fail_5 kc_iconst_1 ?_
  refine r_iadd (pc := 6) dX11_fail_6 ?_
  refine r_putI (pc := 7) dX11_fail_7 fwX11_295 rfl g1 ?_
  refine r_aload_n (pc := 10) dX11_fail_10 rfl 0 rfl ?_
  refine r_iload_n (pc := 11) dX11_fail_11 rfl 1 rfl ?_
  refine r_putI (pc := 12) dX11_fail_12 fwX11_304 rfl g1 ?_
  refine r_bipush (pc := 15) dX11_fail_15 kc_bipush_m10 ?_
  refine r_iload_n (pc := 17) dX11_fail_17 rfl 1 rfl ?_
  refine r_isub (pc := 18) dX11_fail_18 ?_
  cases h
  exact r_iret dX11_fail_19
abbrev WX11_isFull (G : Gx) (l : Launch) (σ0 : Shp) (X1 : Stt) (rv : Option SV) : Stt → Nat → List (Nat × SV) → List SV → Prop := Wm G l yX11_isFull cX11_isFull 1 (some .boolean) (fun _ => True) (rmx 0 0 σ0 X1.1) σ0 (Qmx G σ0 X1 rv)
def fX11_isFull (σ : Shp) (I : Nat → Nat → Int32) (t : Nat)  : Option ((Int32)) :=
  if kdx σ t = 12 then
  if (3000 : Int32) ≤ (I t 13) then
    some (1 : Int32)
  else
    if (I t 12) < (4000 : Int32) then
      some (0 : Int32)
    else
      some (1 : Int32)
  else none
theorem kX11_isFull {G : Gx} {l : Launch} {σ : Shp} {I : Nat → Nat → Int32} {J : Nat → Nat → Int64} {D : Nat → Nat → UInt64} {R : Nat → Nat → Option Nat} {t : Nat}  {r9 : Int32} (h : fX11_isFull σ I t = some r9) : Con G l yX11_isFull cX11_isFull 1 (some .boolean) 0 0 [vR (some t)] (σ, I, J, D, R) (σ, I, J, D, R) (some (vI r9)) := by
  unfold fX11_isFull at h
  refine Con.mk (by decide +kernel) rfl (Nat.le_of_ble_eq_true rfl) ?_
  show WX11_isFull G l σ (σ, I, J, D, R) (some (vI r9)) (σ, I, J, D, R) 0 _ []
  refine r_aload_n (pc := 0) dX11_isFull_0 rfl 0 rfl ?_
  obtain ⟨g1, h⟩ := gd h
  refine r_getI (pc := 1) dX11_isFull_1 fgX11_295 rfl g1 ?_
  refine r_sipush (pc := 4) dX11_isFull_4 kc_sipush_3000 ?_
  refine r_icmp_ge (pc := 7) (tgt := 20) dX11_isFull_7 rfl (fun c => ?_) (fun c => ?_)
  · have h := it h c
    refine r_iconst (pc := 20) dX11_isFull_20 kc_iconst_1 ?_
    refine r_goto (pc := 21) (tgt := 25) dX11_isFull_21 rfl ?_
    cases h
    exact r_zret dX11_isFull_25 (Or.inr rfl)
  · have h := ie h c
    refine r_aload_n (pc := 10) dX11_isFull_10 rfl 0 rfl ?_
    refine r_getI (pc := 11) dX11_isFull_11 fgX11_243 rfl g1 ?_
    refine r_sipush (pc := 14) dX11_isFull_14 kc_sipush_4000 ?_
    refine r_icmp_lt (pc := 17) (tgt := 24) dX11_isFull_17 rfl (fun c => ?_) (fun c => ?_)
    · have h := it h c
      refine r_iconst (pc := 24) dX11_isFull_24 kc_iconst_0 ?_
      cases h
      exact r_zret dX11_isFull_25 (Or.inl rfl)
    · have h := ie h c
      refine r_iconst (pc := 20) dX11_isFull_20 kc_iconst_1 ?_
      refine r_goto (pc := 21) (tgt := 25) dX11_isFull_21 rfl ?_
      cases h
      exact r_zret dX11_isFull_25 (Or.inr rfl)
abbrev WX11_isLane (G : Gx) (l : Launch) (σ0 : Shp) (X1 : Stt) (rv : Option SV) : Stt → Nat → List (Nat × SV) → List SV → Prop := Wm G l yX11_isLane cX11_isLane 1 (some .boolean) (fun _ => True) (rmx 0 0 σ0 X1.1) σ0 (Qmx G σ0 X1 rv)
def fX11_isLane  (x0 : Int32) : (Int32) :=
  if x0 < 0 then
    (0 : Int32)
  else
    if (7 : Int32) < x0 then
      (0 : Int32)
    else
      (1 : Int32)
theorem zX11_isLane  (x0 : Int32) : fX11_isLane x0 = 0 ∨ fX11_isLane x0 = 1 := by
  unfold fX11_isLane
  repeat' (first | refine itz ?_ ?_ | exact Or.inl rfl | exact Or.inr rfl)
theorem kX11_isLane {G : Gx} {l : Launch} {σ : Shp} {I : Nat → Nat → Int32} {J : Nat → Nat → Int64} {D : Nat → Nat → UInt64} {R : Nat → Nat → Option Nat} {x0 : Int32} {r9 : Int32} (h : fX11_isLane x0 = r9) : Con G l yX11_isLane cX11_isLane 1 (some .boolean) 0 0 [vI x0] (σ, I, J, D, R) (σ, I, J, D, R) (some (vI r9)) := by
  unfold fX11_isLane at h
  refine Con.mk (by decide +kernel) rfl (Nat.le_of_ble_eq_true rfl) ?_
  show WX11_isLane G l σ (σ, I, J, D, R) (some (vI r9)) (σ, I, J, D, R) 0 _ []
  refine r_iload_n (pc := 0) dX11_isLane_0 rfl 0 rfl ?_
  refine r_if_lt (pc := 1) (tgt := 14) dX11_isLane_1 rfl (fun c => ?_) (fun c => ?_)
  · have h := it h c
    refine r_iconst (pc := 14) dX11_isLane_14 kc_iconst_0 ?_
    subst h
    exact r_zret dX11_isLane_15 (Or.inl rfl)
  · have h := ie h c
    refine r_iload_n (pc := 4) dX11_isLane_4 rfl 0 rfl ?_
    refine r_bipush (pc := 5) dX11_isLane_5 kc_bipush_7 ?_
    refine r_icmp_gt (pc := 7) (tgt := 14) dX11_isLane_7 rfl (fun c => ?_) (fun c => ?_)
    · have h := it h c
      refine r_iconst (pc := 14) dX11_isLane_14 kc_iconst_0 ?_
      subst h
      exact r_zret dX11_isLane_15 (Or.inl rfl)
    · have h := ie h c
      refine r_iconst (pc := 10) dX11_isLane_10 kc_iconst_1 ?_
      refine r_goto (pc := 11) (tgt := 15) dX11_isLane_11 rfl ?_
      subst h
      exact r_zret dX11_isLane_15 (Or.inr rfl)
abbrev WX11_newRow (G : Gx) (l : Launch) (σ0 : Shp) (X1 : Stt) (rv : Option SV) : Stt → Nat → List (Nat × SV) → List SV → Prop := Wm G l yX11_newRow cX11_newRow 3 (some (.object "GlassHouse$Thing")) (fun _ => True) (rmx 2 43 σ0 X1.1) σ0 (Qmx G σ0 X1 rv)
def fX11_newRow_b30  (σ : Shp) (I : Nat → Nat → Int32) (R : Nat → Nat → Option Nat) (s0 : Nat) (s1 : Nat) (s2 : Int32) (s3 : Nat) (s4 : Nat) : Option ((Shp) × (Nat → Nat → Int32) × (Nat → Nat → Option Nat) × (Option Nat)) :=
  if kdx σ s1 = 11 then
  (fX10_init σ I R s1 s2 (some s3) (some s4)).bind fun (I9, R10) =>
  some (σ, I9, R10, (some s0))
  else none
theorem mX11_newRow_b30 {σ : Shp} {I : Nat → Nat → Int32} {R : Nat → Nat → Option Nat} {σ9 : Shp} {I9 : Nat → Nat → Int32} {R9 : Nat → Nat → Option Nat} {r9 : Option Nat} {s0 : Nat} {s1 : Nat} {s2 : Int32} {s3 : Nat} {s4 : Nat} (h : fX11_newRow_b30 σ I R s0 s1 s2 s3 s4 = some (σ9, I9, R9, r9)) : Lex σ σ9 := by
  unfold fX11_newRow_b30 at h
  replace h := (gd h).2
  obtain ⟨⟨I9, R10⟩, hc11, h⟩ := ob h
  cases h
  exact ⟨Nat.le_refl _, Nat.le_refl _⟩
theorem wX11_newRow_b30 {G : Gx} {l : Launch} {σ0 : Shp} {σ : Shp} {I : Nat → Nat → Int32} {J : Nat → Nat → Int64} {D : Nat → Nat → UInt64} {R : Nat → Nat → Option Nat} {σ9 : Shp} {I9 : Nat → Nat → Int32} {R9 : Nat → Nat → Option Nat} {r9 : Option Nat} {s0 : Nat} {s1 : Nat} {s2 : Int32} {s3 : Nat} {s4 : Nat} (h : fX11_newRow_b30 σ I R s0 s1 s2 s3 s4 = some (σ9, I9, R9, r9)) : WX11_newRow G l σ0 (σ9, I9, J, D, R9) (some (vR r9)) (σ, I, J, D, R) 30 [] [vR (some s4), vR (some s3), vI s2, vR (some s1), vR (some s0)] := by
  unfold fX11_newRow_b30 at h
  obtain ⟨g8, h⟩ := gd h
  obtain ⟨⟨I9, R10⟩, hc11, h⟩ := ob h
  refine r_callI0 (pc := 30) (av := [vI s2, vR (some s3), vR (some s4)]) (S := [vR (some s0)]) dX11_newRow_30 (kX10_init hc11) mkX11_215 rfl mwX10_init rfl ⟨Nat.le_of_ble_eq_true rfl, Nat.le_of_ble_eq_true rfl⟩ (Nat.le_of_ble_eq_true rfl) ⟨Nat.le_refl _, Nat.le_refl _⟩ (fun b => b) ?_
  cases h
  exact r_aret (Or.inl ⟨_, rfl⟩) dX11_newRow_33
def fX11_newRow_b26  (σ : Shp) (I : Nat → Nat → Int32) (R : Nat → Nat → Option Nat) (s0 : Nat) (s1 : Nat) (s2 : Int32) (s3 : Nat) : Option ((Shp) × (Nat → Nat → Int32) × (Nat → Nat → Option Nat) × (Option Nat)) :=
  let σ7 := mkA σ 26 (Int32.toNatClampNeg (0 : Int32))
  fX11_newRow_b30 σ7 I R s0 s1 s2 s3 (nxx σ + 4)
theorem mX11_newRow_b26 {σ : Shp} {I : Nat → Nat → Int32} {R : Nat → Nat → Option Nat} {σ9 : Shp} {I9 : Nat → Nat → Int32} {R9 : Nat → Nat → Option Nat} {r9 : Option Nat} {s0 : Nat} {s1 : Nat} {s2 : Int32} {s3 : Nat} (h : fX11_newRow_b26 σ I R s0 s1 s2 s3 = some (σ9, I9, R9, r9)) : Lex σ σ9 := by
  unfold fX11_newRow_b26 at h
  exact Lex_mkA (mX11_newRow_b30 h)
theorem wX11_newRow_b26 {G : Gx} {l : Launch} {σ0 : Shp} {σ : Shp} {I : Nat → Nat → Int32} {J : Nat → Nat → Int64} {D : Nat → Nat → UInt64} {R : Nat → Nat → Option Nat} {σ9 : Shp} {I9 : Nat → Nat → Int32} {R9 : Nat → Nat → Option Nat} {r9 : Option Nat} {s0 : Nat} {s1 : Nat} {s2 : Int32} {s3 : Nat} (h : fX11_newRow_b26 σ I R s0 s1 s2 s3 = some (σ9, I9, R9, r9)) : WX11_newRow G l σ0 (σ9, I9, J, D, R9) (some (vR r9)) (σ, I, J, D, R) 26 [] [vR (some s3), vI s2, vR (some s1), vR (some s0)] := by
  unfold fX11_newRow_b26 at h
  refine r_iconst (pc := 26) dX11_newRow_26 kc_iconst_0 ?_
  refine r_anewa (pc := 27) (t := 26) dX11_newRow_27 (by decide) cnX11_102 (by decide) (by decide) (Nat.sub_le_sub_right (mX11_newRow_b30 h).1 _) (Nat.sub_le_sub_right (mX11_newRow_b30 h).2 _) ?_
  refine r_sub [] rfl ?_
  exact wX11_newRow_b30 h
def fX11_newRow_b13  (σ : Shp) (I : Nat → Nat → Int32) (R : Nat → Nat → Option Nat) (x1 : Int32) (x2 : Int32) (s0 : Nat) : Option ((Shp) × (Nat → Nat → Int32) × (Nat → Nat → Option Nat) × (Option Nat)) :=
  if 0 ≤ x2 then
    if ¬ x2 < 0 then
    if Int32.toNatClampNeg x2 ≤ 1000000 then
    let σ6 := mkA σ 21 (Int32.toNatClampNeg x2)
    fX11_newRow_b26 σ6 I R s0 s0 x1 (nxx σ + 4)
    else none
    else none
  else
    let σ12 := mkA σ 21 (Int32.toNatClampNeg (0 : Int32))
    fX11_newRow_b26 σ12 I R s0 s0 x1 (nxx σ + 4)
theorem mX11_newRow_b13 {σ : Shp} {I : Nat → Nat → Int32} {R : Nat → Nat → Option Nat} {σ9 : Shp} {I9 : Nat → Nat → Int32} {R9 : Nat → Nat → Option Nat} {r9 : Option Nat} {x1 : Int32} {x2 : Int32} {s0 : Nat} (h : fX11_newRow_b13 σ I R x1 x2 s0 = some (σ9, I9, R9, r9)) : Lex σ σ9 := by
  unfold fX11_newRow_b13 at h
  rcases itc h with ⟨c, h⟩ | ⟨c, h⟩
  · replace h := (gd h).2
    replace h := (gd h).2
    exact Lex_mkA (mX11_newRow_b26 h)
  · exact Lex_mkA (mX11_newRow_b26 h)
theorem wX11_newRow_b13 {G : Gx} {l : Launch} {σ0 : Shp} {σ : Shp} {I : Nat → Nat → Int32} {J : Nat → Nat → Int64} {D : Nat → Nat → UInt64} {R : Nat → Nat → Option Nat} {σ9 : Shp} {I9 : Nat → Nat → Int32} {R9 : Nat → Nat → Option Nat} {r9 : Option Nat} {x1 : Int32} {x2 : Int32} {s0 : Nat} (h : fX11_newRow_b13 σ I R x1 x2 s0 = some (σ9, I9, R9, r9)) : WX11_newRow G l σ0 (σ9, I9, J, D, R9) (some (vR r9)) (σ, I, J, D, R) 13 [(1, vI x1), (2, vI x2)] [vR (some s0)] := by
  unfold fX11_newRow_b13 at h
  refine r_dup (pc := 13) dX11_newRow_13 rfl ?_
  refine r_iload_n (pc := 14) dX11_newRow_14 rfl 0 rfl ?_
  refine r_iload_n (pc := 15) dX11_newRow_15 rfl 1 rfl ?_
  refine r_ifge (pc := 16) (tgt := 23) dX11_newRow_16 rfl (fun c => ?_) (fun c => ?_)
  · have h := it h c
    refine r_iload_n (pc := 23) dX11_newRow_23 rfl 1 rfl ?_
    obtain ⟨g4, h⟩ := gd h
    obtain ⟨g5, h⟩ := gd h
    refine r_newa (pc := 24) (t := 21) (ti := 1) (ty := .long) dX11_newRow_24 rfl (by decide) ac21 g4 g5 (Nat.sub_le_sub_right (mX11_newRow_b26 h).1 _) (Nat.sub_le_sub_right (mX11_newRow_b26 h).2 _) ?_
    refine r_sub [] rfl ?_
    exact wX11_newRow_b26 h
  · have h := ie h c
    refine r_iconst (pc := 19) dX11_newRow_19 kc_iconst_0 ?_
    refine r_goto (pc := 20) (tgt := 24) dX11_newRow_20 rfl ?_
    refine r_newa (pc := 24) (t := 21) (ti := 1) (ty := .long) dX11_newRow_24 rfl (by decide) ac21 (by decide) (by decide) (Nat.sub_le_sub_right (mX11_newRow_b26 h).1 _) (Nat.sub_le_sub_right (mX11_newRow_b26 h).2 _) ?_
    refine r_sub [] rfl ?_
    exact wX11_newRow_b26 h
def fX11_newRow (σ : Shp) (I : Nat → Nat → Int32) (R : Nat → Nat → Option Nat) (t : Nat) (x1 : Int32) (x2 : Int32) : Option ((Shp) × (Nat → Nat → Int32) × (Nat → Nat → Option Nat) × (Option Nat)) :=
  if kdx σ t = 12 then
  let I2 := u2 I t 12 ((I t 12) + (1 : Int32))
  let σ3 := mkO σ 11 9
  fX11_newRow_b13 σ3 I2 R x1 x2 (nxx σ + 4)
  else none
theorem mX11_newRow {σ : Shp} {I : Nat → Nat → Int32} {R : Nat → Nat → Option Nat} {t : Nat} {x1 : Int32} {x2 : Int32} {σ9 : Shp} {I9 : Nat → Nat → Int32} {R9 : Nat → Nat → Option Nat} {r9 : Option Nat} (h : fX11_newRow σ I R t x1 x2 = some (σ9, I9, R9, r9)) : Lex σ σ9 := by
  unfold fX11_newRow at h
  replace h := (gd h).2
  exact Lex_mkO (mX11_newRow_b13 h)
theorem kX11_newRow {G : Gx} {l : Launch} {σ : Shp} {I : Nat → Nat → Int32} {J : Nat → Nat → Int64} {D : Nat → Nat → UInt64} {R : Nat → Nat → Option Nat} {t : Nat} {x1 : Int32} {x2 : Int32} {σ9 : Shp} {I9 : Nat → Nat → Int32} {R9 : Nat → Nat → Option Nat} {r9 : Option Nat} (h : fX11_newRow σ I R t x1 x2 = some (σ9, I9, R9, r9)) : Con G l yX11_newRow cX11_newRow 3 (some (.object "GlassHouse$Thing")) 2 43 [vR (some t), vI x1, vI x2] (σ, I, J, D, R) (σ9, I9, J, D, R9) (some (vR r9)) := by
  unfold fX11_newRow at h
  refine Con.mk (by decide +kernel) rfl (Nat.le_of_ble_eq_true rfl) ?_
  show WX11_newRow G l σ (σ9, I9, J, D, R9) (some (vR r9)) (σ, I, J, D, R) 0 _ []
  refine r_aload_n (pc := 0) dX11_newRow_0 rfl 0 rfl ?_
  refine r_dup (pc := 1) dX11_newRow_1 rfl ?_
  obtain ⟨g1, h⟩ := gd h
  refine r_getI (pc := 2) dX11_newRow_2 fgX11_243 rfl g1 ?_
  refine r_iconst (pc := 5) dX11_newRow_5 kc_iconst_1 ?_
  refine r_iadd (pc := 6) dX11_newRow_6 ?_
  refine r_putI (pc := 7) dX11_newRow_7 fwX11_243 rfl g1 ?_
  refine r_new (pc := 10) dX11_newRow_10 cls10 ftk10 cnX11_102 ins10 ini10 (Nat.sub_le_sub_right (mX11_newRow_b13 h).1 _) (Nat.sub_le_sub_right (mX11_newRow_b13 h).2 _) ?_
  refine r_sub [1, 2] rfl ?_
  exact wX11_newRow_b13 h
abbrev WX11_row (G : Gx) (l : Launch) (σ0 : Shp) (X1 : Stt) (rv : Option SV) : Stt → Nat → List (Nat × SV) → List SV → Prop := Wm G l yX11_row cX11_row 4 (some .int) (fun _ => True) (rmx 3 65 σ0 X1.1) σ0 (Qmx G σ0 X1 rv)
def fX11_row_b54  (σ : Shp) (I : Nat → Nat → Int32) (R : Nat → Nat → Option Nat) (s0 : Nat) (s1 : Int32) (s2 : Option Nat) : Option ((Shp) × (Nat → Nat → Int32) × (Nat → Nat → Option Nat) × (Int32)) :=
  if kdx σ s0 = 26 then
  if ¬ (s1 < 0 ∨ lnx σ s0 ≤ Int32.toNatClampNeg s1) then
  if okR σ 11 s2 = true then
  let R13 := u2 R s0 (Int32.toNatClampNeg s1) s2
  some (σ, I, R13, (1 : Int32))
  else none
  else none
  else none
theorem mX11_row_b54 {σ : Shp} {I : Nat → Nat → Int32} {R : Nat → Nat → Option Nat} {σ9 : Shp} {I9 : Nat → Nat → Int32} {R9 : Nat → Nat → Option Nat} {r9 : Int32} {s0 : Nat} {s1 : Int32} {s2 : Option Nat} (h : fX11_row_b54 σ I R s0 s1 s2 = some (σ9, I9, R9, r9)) : Lex σ σ9 := by
  unfold fX11_row_b54 at h
  replace h := (gd h).2
  replace h := (gd h).2
  replace h := (gd h).2
  cases h
  exact ⟨Nat.le_refl _, Nat.le_refl _⟩
theorem wX11_row_b54 {G : Gx} {l : Launch} {σ0 : Shp} {σ : Shp} {I : Nat → Nat → Int32} {J : Nat → Nat → Int64} {D : Nat → Nat → UInt64} {R : Nat → Nat → Option Nat} {σ9 : Shp} {I9 : Nat → Nat → Int32} {R9 : Nat → Nat → Option Nat} {r9 : Int32} {s0 : Nat} {s1 : Int32} {s2 : Option Nat} (h : fX11_row_b54 σ I R s0 s1 s2 = some (σ9, I9, R9, r9)) : WX11_row G l σ0 (σ9, I9, J, D, R9) (some (vI r9)) (σ, I, J, D, R) 54 [] [vR s2, vI s1, vR (some s0)] := by
  unfold fX11_row_b54 at h
  obtain ⟨g10, h⟩ := gd h
  obtain ⟨g11, h⟩ := gd h
  obtain ⟨g12, h⟩ := gd h
  refine r_aastore (c := 10) (pc := 54) dX11_row_54 g10 (by decide) g11 g12 ?_
  refine r_iconst (pc := 55) dX11_row_55 kc_iconst_1 ?_
  cases h
  exact r_iret dX11_row_56
def fX11_row (σ : Shp) (I : Nat → Nat → Int32) (R : Nat → Nat → Option Nat) (t : Nat) (x1 : Int32) (x2 : Int32) (x3 : Int32) : Option ((Shp) × (Nat → Nat → Int32) × (Nat → Nat → Option Nat) × (Int32)) :=
  if (fX11_isBin x1) = 0 then
    some (σ, I, R, (-2 : Int32))
  else
    if (fX11_isLane x2) = 0 then
      some (σ, I, R, (-2 : Int32))
    else
      if x3 ≤ (40 : Int32) then
        if kdx σ t = 12 then
        (fX11_isFull σ I t).bind fun r2 =>
        if r2 = 0 then
          if 0 ≤ x3 then
            ((R t 1) : Option Nat).bind fun a4 =>
            (fX11_newRow σ I R t x2 x3).bind fun (σ5, I6, R7, r8) =>
            fX11_row_b54 σ5 I6 R7 a4 x1 r8
          else
            (fX11_fail σ I t (3 : Int32)).bind fun (I14, r15) =>
            some (σ, I14, R, r15)
        else
          some (σ, I, R, (-4 : Int32))
        else none
      else
        some (σ, I, R, (-2 : Int32))
theorem mX11_row {σ : Shp} {I : Nat → Nat → Int32} {R : Nat → Nat → Option Nat} {t : Nat} {x1 : Int32} {x2 : Int32} {x3 : Int32} {σ9 : Shp} {I9 : Nat → Nat → Int32} {R9 : Nat → Nat → Option Nat} {r9 : Int32} (h : fX11_row σ I R t x1 x2 x3 = some (σ9, I9, R9, r9)) : Lex σ σ9 := by
  unfold fX11_row at h
  rcases itc h with ⟨c, h⟩ | ⟨c, h⟩
  · cases h
    exact ⟨Nat.le_refl _, Nat.le_refl _⟩
  · rcases itc h with ⟨c, h⟩ | ⟨c, h⟩
    · cases h
      exact ⟨Nat.le_refl _, Nat.le_refl _⟩
    · rcases itc h with ⟨c, h⟩ | ⟨c, h⟩
      · replace h := (gd h).2
        obtain ⟨r2, hc3, h⟩ := ob h
        rcases itc h with ⟨c, h⟩ | ⟨c, h⟩
        · rcases itc h with ⟨c, h⟩ | ⟨c, h⟩
          · obtain ⟨a4, ha4, h⟩ := ob h
            obtain ⟨⟨σ5, I6, R7, r8⟩, hc9, h⟩ := ob h
            refine Lex.trans (mX11_newRow hc9) ?_
            exact mX11_row_b54 h
          · obtain ⟨⟨I14, r15⟩, hc16, h⟩ := ob h
            cases h
            exact ⟨Nat.le_refl _, Nat.le_refl _⟩
        · cases h
          exact ⟨Nat.le_refl _, Nat.le_refl _⟩
      · cases h
        exact ⟨Nat.le_refl _, Nat.le_refl _⟩
theorem kX11_row {G : Gx} {l : Launch} {σ : Shp} {I : Nat → Nat → Int32} {J : Nat → Nat → Int64} {D : Nat → Nat → UInt64} {R : Nat → Nat → Option Nat} {t : Nat} {x1 : Int32} {x2 : Int32} {x3 : Int32} {σ9 : Shp} {I9 : Nat → Nat → Int32} {R9 : Nat → Nat → Option Nat} {r9 : Int32} (h : fX11_row σ I R t x1 x2 x3 = some (σ9, I9, R9, r9)) : Con G l yX11_row cX11_row 4 (some .int) 3 65 [vR (some t), vI x1, vI x2, vI x3] (σ, I, J, D, R) (σ9, I9, J, D, R9) (some (vI r9)) := by
  unfold fX11_row at h
  refine Con.mk (by decide +kernel) rfl (Nat.le_of_ble_eq_true rfl) ?_
  show WX11_row G l σ (σ9, I9, J, D, R9) (some (vI r9)) (σ, I, J, D, R) 0 _ []
  refine r_iload_n (pc := 0) dX11_row_0 rfl 1 rfl ?_
  refine r_callS1 (pc := 1) (av := [vI x1]) (S := []) dX11_row_1 (kX11_isBin rfl) mkX11_76 mwX11_isBin rfl ⟨Nat.le_of_ble_eq_true rfl, Nat.le_of_ble_eq_true rfl⟩ (Nat.le_of_ble_eq_true rfl) ⟨Nat.le_refl _, Nat.le_refl _⟩ (fun b => b) ?_
  refine r_if_eq (pc := 4) (tgt := 20) dX11_row_4 rfl (fun c => ?_) (fun c => ?_)
  · have h := it h c
    refine r_bipush (pc := 20) dX11_row_20 kc_bipush_m2 ?_
    cases h
    exact r_iret dX11_row_22
  · have h := ie h c
    refine r_iload_n (pc := 7) dX11_row_7 rfl 2 rfl ?_
    refine r_callS1 (pc := 8) (av := [vI x2]) (S := []) dX11_row_8 (kX11_isLane rfl) mkX11_80 mwX11_isLane rfl ⟨Nat.le_of_ble_eq_true rfl, Nat.le_of_ble_eq_true rfl⟩ (Nat.le_of_ble_eq_true rfl) ⟨Nat.le_refl _, Nat.le_refl _⟩ (fun b => b) ?_
    refine r_if_eq (pc := 11) (tgt := 20) dX11_row_11 rfl (fun c => ?_) (fun c => ?_)
    · have h := it h c
      refine r_bipush (pc := 20) dX11_row_20 kc_bipush_m2 ?_
      cases h
      exact r_iret dX11_row_22
    · have h := ie h c
      refine r_iload_n (pc := 14) dX11_row_14 rfl 3 rfl ?_
      refine r_bipush (pc := 15) dX11_row_15 kc_bipush_40 ?_
      refine r_icmp_le (pc := 17) (tgt := 23) dX11_row_17 rfl (fun c => ?_) (fun c => ?_)
      · have h := it h c
        refine r_aload_n (pc := 23) dX11_row_23 rfl 0 rfl ?_
        obtain ⟨g1, h⟩ := gd h
        obtain ⟨r2, hc3, h⟩ := ob h
        refine r_callV1 (pc := 24) (av := []) (S := []) dX11_row_24 (kX11_isFull hc3) g1 rfl mkX11_83 mwX11_isFull rfl ⟨Nat.le_of_ble_eq_true rfl, Nat.le_of_ble_eq_true rfl⟩ (Nat.le_of_ble_eq_true rfl) ⟨Nat.le_refl _, Nat.le_refl _⟩ (fun b => b) ?_
        refine r_if_eq (pc := 27) (tgt := 33) dX11_row_27 rfl (fun c => ?_) (fun c => ?_)
        · have h := it h c
          refine r_iload_n (pc := 33) dX11_row_33 rfl 3 rfl ?_
          refine r_ifge (pc := 34) (tgt := 43) dX11_row_34 rfl (fun c => ?_) (fun c => ?_)
          · have h := it h c
            refine r_aload_n (pc := 43) dX11_row_43 rfl 0 rfl ?_
            obtain ⟨a4, ha4, h⟩ := ob h
            refine r_getS (pc := 44) dX11_row_44 fgX11_20 rfl g1 ha4 ?_
            refine r_iload_n (pc := 47) dX11_row_47 rfl 1 rfl ?_
            refine r_aload_n (pc := 48) dX11_row_48 rfl 0 rfl ?_
            refine r_iload_n (pc := 49) dX11_row_49 rfl 2 rfl ?_
            refine r_iload_n (pc := 50) dX11_row_50 rfl 3 rfl ?_
            obtain ⟨⟨σ5, I6, R7, r8⟩, hc9, h⟩ := ob h
            refine r_callV1 (pc := 51) (av := [vI x2, vI x3]) (S := [vI x1, vR (some a4)]) dX11_row_51 (kX11_newRow hc9) g1 rfl mkX11_91 mwX11_newRow rfl ⟨Nat.le_of_ble_eq_true rfl, Nat.le_of_ble_eq_true rfl⟩ (Nat.le_of_ble_eq_true rfl) (mX11_newRow hc9) (bdx_le (mX11_newRow hc9) (mX11_row_b54 h)) ?_
            refine r_sub [] rfl ?_
            exact wX11_row_b54 h
          · have h := ie h c
            refine r_aload_n (pc := 37) dX11_row_37 rfl 0 rfl ?_
            refine r_iconst (pc := 38) dX11_row_38 kc_iconst_3 ?_
            obtain ⟨⟨I14, r15⟩, hc16, h⟩ := ob h
            refine r_callV1 (pc := 39) (av := [vI (3 : Int32)]) (S := []) dX11_row_39 (kX11_fail hc16) g1 rfl mkX11_87 mwX11_fail rfl ⟨Nat.le_of_ble_eq_true rfl, Nat.le_of_ble_eq_true rfl⟩ (Nat.le_of_ble_eq_true rfl) ⟨Nat.le_refl _, Nat.le_refl _⟩ (fun b => b) ?_
            cases h
            exact r_iret dX11_row_42
        · have h := ie h c
          refine r_bipush (pc := 30) dX11_row_30 kc_bipush_m4 ?_
          cases h
          exact r_iret dX11_row_32
      · have h := ie h c
        refine r_bipush (pc := 20) dX11_row_20 kc_bipush_m2 ?_
        cases h
        exact r_iret dX11_row_22
abbrev WX11_isGridForm (G : Gx) (l : Launch) (σ0 : Shp) (X1 : Stt) (rv : Option SV) : Stt → Nat → List (Nat × SV) → List SV → Prop := Wm G l yX11_isGridForm cX11_isGridForm 1 (some .boolean) (fun _ => True) (rmx 0 0 σ0 X1.1) σ0 (Qmx G σ0 X1 rv)
def fX11_isGridForm  (x0 : Int32) : (Int32) :=
  if x0 < (8 : Int32) then
    (0 : Int32)
  else
    if (10 : Int32) < x0 then
      (0 : Int32)
    else
      (1 : Int32)
theorem zX11_isGridForm  (x0 : Int32) : fX11_isGridForm x0 = 0 ∨ fX11_isGridForm x0 = 1 := by
  unfold fX11_isGridForm
  repeat' (first | refine itz ?_ ?_ | exact Or.inl rfl | exact Or.inr rfl)
theorem kX11_isGridForm {G : Gx} {l : Launch} {σ : Shp} {I : Nat → Nat → Int32} {J : Nat → Nat → Int64} {D : Nat → Nat → UInt64} {R : Nat → Nat → Option Nat} {x0 : Int32} {r9 : Int32} (h : fX11_isGridForm x0 = r9) : Con G l yX11_isGridForm cX11_isGridForm 1 (some .boolean) 0 0 [vI x0] (σ, I, J, D, R) (σ, I, J, D, R) (some (vI r9)) := by
  unfold fX11_isGridForm at h
  refine Con.mk (by decide +kernel) rfl (Nat.le_of_ble_eq_true rfl) ?_
  show WX11_isGridForm G l σ (σ, I, J, D, R) (some (vI r9)) (σ, I, J, D, R) 0 _ []
  refine r_iload_n (pc := 0) dX11_isGridForm_0 rfl 0 rfl ?_
  refine r_bipush (pc := 1) dX11_isGridForm_1 kc_bipush_8 ?_
  refine r_icmp_lt (pc := 3) (tgt := 16) dX11_isGridForm_3 rfl (fun c => ?_) (fun c => ?_)
  · have h := it h c
    refine r_iconst (pc := 16) dX11_isGridForm_16 kc_iconst_0 ?_
    subst h
    exact r_zret dX11_isGridForm_17 (Or.inl rfl)
  · have h := ie h c
    refine r_iload_n (pc := 6) dX11_isGridForm_6 rfl 0 rfl ?_
    refine r_bipush (pc := 7) dX11_isGridForm_7 kc_bipush_10 ?_
    refine r_icmp_gt (pc := 9) (tgt := 16) dX11_isGridForm_9 rfl (fun c => ?_) (fun c => ?_)
    · have h := it h c
      refine r_iconst (pc := 16) dX11_isGridForm_16 kc_iconst_0 ?_
      subst h
      exact r_zret dX11_isGridForm_17 (Or.inl rfl)
    · have h := ie h c
      refine r_iconst (pc := 12) dX11_isGridForm_12 kc_iconst_1 ?_
      refine r_goto (pc := 13) (tgt := 17) dX11_isGridForm_13 rfl ?_
      subst h
      exact r_zret dX11_isGridForm_17 (Or.inr rfl)
abbrev WX11_laneOfGrid (G : Gx) (l : Launch) (σ0 : Shp) (X1 : Stt) (rv : Option SV) : Stt → Nat → List (Nat × SV) → List SV → Prop := Wm G l yX11_laneOfGrid cX11_laneOfGrid 1 (some .int) (fun _ => True) (rmx 0 0 σ0 X1.1) σ0 (Qmx G σ0 X1 rv)
def fX11_laneOfGrid  (x0 : Int32) : (Int32) :=
  if x0 = (8 : Int32) then
    (3 : Int32)
  else
    if x0 = (9 : Int32) then
      (4 : Int32)
    else
      (7 : Int32)
theorem kX11_laneOfGrid {G : Gx} {l : Launch} {σ : Shp} {I : Nat → Nat → Int32} {J : Nat → Nat → Int64} {D : Nat → Nat → UInt64} {R : Nat → Nat → Option Nat} {x0 : Int32} {r9 : Int32} (h : fX11_laneOfGrid x0 = r9) : Con G l yX11_laneOfGrid cX11_laneOfGrid 1 (some .int) 0 0 [vI x0] (σ, I, J, D, R) (σ, I, J, D, R) (some (vI r9)) := by
  unfold fX11_laneOfGrid at h
  refine Con.mk (by decide +kernel) rfl (Nat.le_of_ble_eq_true rfl) ?_
  show WX11_laneOfGrid G l σ (σ, I, J, D, R) (some (vI r9)) (σ, I, J, D, R) 0 _ []
  refine r_iload_n (pc := 0) dX11_laneOfGrid_0 rfl 0 rfl ?_
  refine r_bipush (pc := 1) dX11_laneOfGrid_1 kc_bipush_8 ?_
  refine r_icmp_ne (pc := 3) (tgt := 10) dX11_laneOfGrid_3 rfl (fun c => ?_) (fun c => ?_)
  · have h := ie h c
    refine r_iload_n (pc := 10) dX11_laneOfGrid_10 rfl 0 rfl ?_
    refine r_bipush (pc := 11) dX11_laneOfGrid_11 kc_bipush_9 ?_
    refine r_icmp_ne (pc := 13) (tgt := 20) dX11_laneOfGrid_13 rfl (fun c => ?_) (fun c => ?_)
    · have h := ie h c
      refine r_bipush (pc := 20) dX11_laneOfGrid_20 kc_bipush_7 ?_
      subst h
      exact r_iret dX11_laneOfGrid_22
    · have h := it h c
      refine r_iconst (pc := 16) dX11_laneOfGrid_16 kc_iconst_4 ?_
      refine r_goto (pc := 17) (tgt := 22) dX11_laneOfGrid_17 rfl ?_
      subst h
      exact r_iret dX11_laneOfGrid_22
  · have h := it h c
    refine r_iconst (pc := 6) dX11_laneOfGrid_6 kc_iconst_3 ?_
    refine r_goto (pc := 7) (tgt := 22) dX11_laneOfGrid_7 rfl ?_
    subst h
    exact r_iret dX11_laneOfGrid_22
abbrev WX11_newPlaces (G : Gx) (l : Launch) (σ0 : Shp) (X1 : Stt) (rv : Option SV) : Stt → Nat → List (Nat × SV) → List SV → Prop := Wm G l yX11_newPlaces cX11_newPlaces 3 (some (.object "GlassHouse$Thing")) (fun _ => True) (rmx 2 43 σ0 X1.1) σ0 (Qmx G σ0 X1 rv)
def fX11_newPlaces_b30  (σ : Shp) (I : Nat → Nat → Int32) (R : Nat → Nat → Option Nat) (s0 : Nat) (s1 : Nat) (s2 : Int32) (s3 : Nat) (s4 : Nat) : Option ((Shp) × (Nat → Nat → Int32) × (Nat → Nat → Option Nat) × (Option Nat)) :=
  if kdx σ s1 = 11 then
  (fX10_init σ I R s1 s2 (some s3) (some s4)).bind fun (I8, R9) =>
  some (σ, I8, R9, (some s0))
  else none
theorem mX11_newPlaces_b30 {σ : Shp} {I : Nat → Nat → Int32} {R : Nat → Nat → Option Nat} {σ9 : Shp} {I9 : Nat → Nat → Int32} {R9 : Nat → Nat → Option Nat} {r9 : Option Nat} {s0 : Nat} {s1 : Nat} {s2 : Int32} {s3 : Nat} {s4 : Nat} (h : fX11_newPlaces_b30 σ I R s0 s1 s2 s3 s4 = some (σ9, I9, R9, r9)) : Lex σ σ9 := by
  unfold fX11_newPlaces_b30 at h
  replace h := (gd h).2
  obtain ⟨⟨I8, R9⟩, hc10, h⟩ := ob h
  cases h
  exact ⟨Nat.le_refl _, Nat.le_refl _⟩
theorem wX11_newPlaces_b30 {G : Gx} {l : Launch} {σ0 : Shp} {σ : Shp} {I : Nat → Nat → Int32} {J : Nat → Nat → Int64} {D : Nat → Nat → UInt64} {R : Nat → Nat → Option Nat} {σ9 : Shp} {I9 : Nat → Nat → Int32} {R9 : Nat → Nat → Option Nat} {r9 : Option Nat} {s0 : Nat} {s1 : Nat} {s2 : Int32} {s3 : Nat} {s4 : Nat} (h : fX11_newPlaces_b30 σ I R s0 s1 s2 s3 s4 = some (σ9, I9, R9, r9)) : WX11_newPlaces G l σ0 (σ9, I9, J, D, R9) (some (vR r9)) (σ, I, J, D, R) 30 [] [vR (some s4), vR (some s3), vI s2, vR (some s1), vR (some s0)] := by
  unfold fX11_newPlaces_b30 at h
  obtain ⟨g7, h⟩ := gd h
  obtain ⟨⟨I8, R9⟩, hc10, h⟩ := ob h
  refine r_callI0 (pc := 30) (av := [vI s2, vR (some s3), vR (some s4)]) (S := [vR (some s0)]) dX11_newPlaces_30 (kX10_init hc10) mkX11_215 rfl mwX10_init rfl ⟨Nat.le_of_ble_eq_true rfl, Nat.le_of_ble_eq_true rfl⟩ (Nat.le_of_ble_eq_true rfl) ⟨Nat.le_refl _, Nat.le_refl _⟩ (fun b => b) ?_
  cases h
  exact r_aret (Or.inl ⟨_, rfl⟩) dX11_newPlaces_33
def fX11_newPlaces_b13  (σ : Shp) (I : Nat → Nat → Int32) (R : Nat → Nat → Option Nat) (x1 : Int32) (x2 : Int32) (s0 : Nat) : Option ((Shp) × (Nat → Nat → Int32) × (Nat → Nat → Option Nat) × (Option Nat)) :=
  if 0 ≤ x2 then
    if ¬ x2 < 0 then
    if Int32.toNatClampNeg x2 ≤ 1000000 then
    let σ6 := mkA σ 26 (Int32.toNatClampNeg x2)
    fX11_newPlaces_b30 σ6 I R s0 s0 x1 0 (nxx σ + 4)
    else none
    else none
  else
    let σ11 := mkA σ 26 (Int32.toNatClampNeg (0 : Int32))
    fX11_newPlaces_b30 σ11 I R s0 s0 x1 0 (nxx σ + 4)
theorem mX11_newPlaces_b13 {σ : Shp} {I : Nat → Nat → Int32} {R : Nat → Nat → Option Nat} {σ9 : Shp} {I9 : Nat → Nat → Int32} {R9 : Nat → Nat → Option Nat} {r9 : Option Nat} {x1 : Int32} {x2 : Int32} {s0 : Nat} (h : fX11_newPlaces_b13 σ I R x1 x2 s0 = some (σ9, I9, R9, r9)) : Lex σ σ9 := by
  unfold fX11_newPlaces_b13 at h
  rcases itc h with ⟨c, h⟩ | ⟨c, h⟩
  · replace h := (gd h).2
    replace h := (gd h).2
    exact Lex_mkA (mX11_newPlaces_b30 h)
  · exact Lex_mkA (mX11_newPlaces_b30 h)
theorem wX11_newPlaces_b13 {G : Gx} {l : Launch} {σ0 : Shp} {σ : Shp} {I : Nat → Nat → Int32} {J : Nat → Nat → Int64} {D : Nat → Nat → UInt64} {R : Nat → Nat → Option Nat} {σ9 : Shp} {I9 : Nat → Nat → Int32} {R9 : Nat → Nat → Option Nat} {r9 : Option Nat} {x1 : Int32} {x2 : Int32} {s0 : Nat} (h : fX11_newPlaces_b13 σ I R x1 x2 s0 = some (σ9, I9, R9, r9)) : WX11_newPlaces G l σ0 (σ9, I9, J, D, R9) (some (vR r9)) (σ, I, J, D, R) 13 [(1, vI x1), (2, vI x2)] [vR (some s0)] := by
  unfold fX11_newPlaces_b13 at h
  refine r_dup (pc := 13) dX11_newPlaces_13 rfl ?_
  refine r_iload_n (pc := 14) dX11_newPlaces_14 rfl 0 rfl ?_
  refine r_gets0 (pc := 15) dX11_newPlaces_15 gsX11_212 ?_
  refine r_iload_n (pc := 18) dX11_newPlaces_18 rfl 1 rfl ?_
  refine r_ifge (pc := 19) (tgt := 26) dX11_newPlaces_19 rfl (fun c => ?_) (fun c => ?_)
  · have h := it h c
    refine r_iload_n (pc := 26) dX11_newPlaces_26 rfl 1 rfl ?_
    obtain ⟨g4, h⟩ := gd h
    obtain ⟨g5, h⟩ := gd h
    refine r_anewa (pc := 27) (t := 26) dX11_newPlaces_27 (by decide) cnX11_102 g4 g5 (Nat.sub_le_sub_right (mX11_newPlaces_b30 h).1 _) (Nat.sub_le_sub_right (mX11_newPlaces_b30 h).2 _) ?_
    refine r_sub [] rfl ?_
    exact wX11_newPlaces_b30 h
  · have h := ie h c
    refine r_iconst (pc := 22) dX11_newPlaces_22 kc_iconst_0 ?_
    refine r_goto (pc := 23) (tgt := 27) dX11_newPlaces_23 rfl ?_
    refine r_anewa (pc := 27) (t := 26) dX11_newPlaces_27 (by decide) cnX11_102 (by decide) (by decide) (Nat.sub_le_sub_right (mX11_newPlaces_b30 h).1 _) (Nat.sub_le_sub_right (mX11_newPlaces_b30 h).2 _) ?_
    refine r_sub [] rfl ?_
    exact wX11_newPlaces_b30 h
def fX11_newPlaces (σ : Shp) (I : Nat → Nat → Int32) (R : Nat → Nat → Option Nat) (t : Nat) (x1 : Int32) (x2 : Int32) : Option ((Shp) × (Nat → Nat → Int32) × (Nat → Nat → Option Nat) × (Option Nat)) :=
  if kdx σ t = 12 then
  let I2 := u2 I t 12 ((I t 12) + (1 : Int32))
  let σ3 := mkO σ 11 9
  fX11_newPlaces_b13 σ3 I2 R x1 x2 (nxx σ + 4)
  else none
theorem mX11_newPlaces {σ : Shp} {I : Nat → Nat → Int32} {R : Nat → Nat → Option Nat} {t : Nat} {x1 : Int32} {x2 : Int32} {σ9 : Shp} {I9 : Nat → Nat → Int32} {R9 : Nat → Nat → Option Nat} {r9 : Option Nat} (h : fX11_newPlaces σ I R t x1 x2 = some (σ9, I9, R9, r9)) : Lex σ σ9 := by
  unfold fX11_newPlaces at h
  replace h := (gd h).2
  exact Lex_mkO (mX11_newPlaces_b13 h)
theorem kX11_newPlaces {G : Gx} {l : Launch} {σ : Shp} {I : Nat → Nat → Int32} {J : Nat → Nat → Int64} {D : Nat → Nat → UInt64} {R : Nat → Nat → Option Nat} {t : Nat} {x1 : Int32} {x2 : Int32} {σ9 : Shp} {I9 : Nat → Nat → Int32} {R9 : Nat → Nat → Option Nat} {r9 : Option Nat} (h : fX11_newPlaces σ I R t x1 x2 = some (σ9, I9, R9, r9)) : Con G l yX11_newPlaces cX11_newPlaces 3 (some (.object "GlassHouse$Thing")) 2 43 [vR (some t), vI x1, vI x2] (σ, I, J, D, R) (σ9, I9, J, D, R9) (some (vR r9)) := by
  unfold fX11_newPlaces at h
  refine Con.mk (by decide +kernel) rfl (Nat.le_of_ble_eq_true rfl) ?_
  show WX11_newPlaces G l σ (σ9, I9, J, D, R9) (some (vR r9)) (σ, I, J, D, R) 0 _ []
  refine r_aload_n (pc := 0) dX11_newPlaces_0 rfl 0 rfl ?_
  refine r_dup (pc := 1) dX11_newPlaces_1 rfl ?_
  obtain ⟨g1, h⟩ := gd h
  refine r_getI (pc := 2) dX11_newPlaces_2 fgX11_243 rfl g1 ?_
  refine r_iconst (pc := 5) dX11_newPlaces_5 kc_iconst_1 ?_
  refine r_iadd (pc := 6) dX11_newPlaces_6 ?_
  refine r_putI (pc := 7) dX11_newPlaces_7 fwX11_243 rfl g1 ?_
  refine r_new (pc := 10) dX11_newPlaces_10 cls10 ftk10 cnX11_102 ins10 ini10 (Nat.sub_le_sub_right (mX11_newPlaces_b13 h).1 _) (Nat.sub_le_sub_right (mX11_newPlaces_b13 h).2 _) ?_
  refine r_sub [1, 2] rfl ?_
  exact wX11_newPlaces_b13 h
abbrev WX11_grid (G : Gx) (l : Launch) (σ0 : Shp) (X1 : Stt) (rv : Option SV) : Stt → Nat → List (Nat × SV) → List SV → Prop := Wm G l yX11_grid cX11_grid 8 (some .int) (fun _ => True) (rmx 3 65 σ0 X1.1) σ0 (Qmx G σ0 X1 rv)
def fX11_grid_b104 (q76 : (Shp) → (Nat → Nat → Int32) → (Nat → Nat → Option Nat) → (Int32) → (Int32) → (Int32) → (Option Nat) → (Int32) → (Option ((Shp) × (Nat → Nat → Int32) × (Nat → Nat → Option Nat) × (Int32)))) (t : Nat) (σ : Shp) (I : Nat → Nat → Int32) (R : Nat → Nat → Option Nat) (x1 : Int32) (x2 : Int32) (x4 : Int32) (x6 : Option Nat) (x7 : Int32) (s0 : Nat) (s1 : Int32) (s2 : Option Nat) : Option ((Shp) × (Nat → Nat → Int32) × (Nat → Nat → Option Nat) × (Int32)) :=
  if kdx σ s0 = 26 then
  if ¬ (s1 < 0 ∨ lnx σ s0 ≤ Int32.toNatClampNeg s1) then
  if okR σ 11 s2 = true then
  let R36 := u2 R s0 (Int32.toNatClampNeg s1) s2
  let v37 := x7 + (1 : Int32)
  q76 σ I R36 x1 x2 x4 x6 v37
  else none
  else none
  else none
theorem mX11_grid_b104 {σ : Shp} {I : Nat → Nat → Int32} {R : Nat → Nat → Option Nat} {t : Nat} {σ9 : Shp} {I9 : Nat → Nat → Int32} {R9 : Nat → Nat → Option Nat} {r9 : Int32} {q76 : (Shp) → (Nat → Nat → Int32) → (Nat → Nat → Option Nat) → (Int32) → (Int32) → (Int32) → (Option Nat) → (Int32) → (Option ((Shp) × (Nat → Nat → Int32) × (Nat → Nat → Option Nat) × (Int32)))} {x1 : Int32} {x2 : Int32} {x4 : Int32} {x6 : Option Nat} {x7 : Int32} {s0 : Nat} {s1 : Int32} {s2 : Option Nat} (mq76 : ∀ (σ : Shp) (I : Nat → Nat → Int32) (R : Nat → Nat → Option Nat) (x1 : Int32) (x2 : Int32) (x4 : Int32) (x6 : Option Nat) (x7 : Int32), q76 σ I R x1 x2 x4 x6 x7 = some (σ9, I9, R9, r9) → Lex σ σ9) (h : fX11_grid_b104 q76 t σ I R x1 x2 x4 x6 x7 s0 s1 s2 = some (σ9, I9, R9, r9)) : Lex σ σ9 := by
  unfold fX11_grid_b104 at h
  replace h := (gd h).2
  replace h := (gd h).2
  replace h := (gd h).2
  exact mq76 _ _ _ _ _ _ _ _ h
theorem wX11_grid_b104 {G : Gx} {l : Launch} {σ0 : Shp} {σ : Shp} {I : Nat → Nat → Int32} {J : Nat → Nat → Int64} {D : Nat → Nat → UInt64} {R : Nat → Nat → Option Nat} {t : Nat} {σ9 : Shp} {I9 : Nat → Nat → Int32} {R9 : Nat → Nat → Option Nat} {r9 : Int32} {q76 : (Shp) → (Nat → Nat → Int32) → (Nat → Nat → Option Nat) → (Int32) → (Int32) → (Int32) → (Option Nat) → (Int32) → (Option ((Shp) × (Nat → Nat → Int32) × (Nat → Nat → Option Nat) × (Int32)))} {x1 : Int32} {x2 : Int32} {x4 : Int32} {x6 : Option Nat} {x7 : Int32} {s0 : Nat} {s1 : Int32} {s2 : Option Nat} (hq76 : ∀ (σ : Shp) (I : Nat → Nat → Int32) (R : Nat → Nat → Option Nat) (x1 : Int32) (x2 : Int32) (x4 : Int32) (x6 : Option Nat) (x7 : Int32), q76 σ I R x1 x2 x4 x6 x7 = some (σ9, I9, R9, r9) → WX11_grid G l σ0 (σ9, I9, J, D, R9) (some (vI r9)) (σ, I, J, D, R) 76 [(0, vR (some t)), (1, vI x1), (2, vI x2), (4, vI x4), (6, vR x6), (7, vI x7)] []) (mq76 : ∀ (σ : Shp) (I : Nat → Nat → Int32) (R : Nat → Nat → Option Nat) (x1 : Int32) (x2 : Int32) (x4 : Int32) (x6 : Option Nat) (x7 : Int32), q76 σ I R x1 x2 x4 x6 x7 = some (σ9, I9, R9, r9) → Lex σ σ9) (h : fX11_grid_b104 q76 t σ I R x1 x2 x4 x6 x7 s0 s1 s2 = some (σ9, I9, R9, r9)) : WX11_grid G l σ0 (σ9, I9, J, D, R9) (some (vI r9)) (σ, I, J, D, R) 104 [(0, vR (some t)), (1, vI x1), (2, vI x2), (4, vI x4), (6, vR x6), (7, vI x7)] [vR s2, vI s1, vR (some s0)] := by
  unfold fX11_grid_b104 at h
  obtain ⟨g33, h⟩ := gd h
  obtain ⟨g34, h⟩ := gd h
  obtain ⟨g35, h⟩ := gd h
  refine r_aastore (c := 10) (pc := 104) dX11_grid_104 g33 (by decide) g34 g35 ?_
  refine r_iinc (pc := 105) (v := (x7 + (1 : Int32))) (L' := [(7, vI (x7 + (1 : Int32))), (0, vR (some t)), (1, vI x1), (2, vI x2), (4, vI x4), (6, vR x6)]) dX11_grid_105 5 rfl (kc_inc_1 _) (by decide) rfl ?_
  refine r_goto (pc := 108) (tgt := 76) dX11_grid_108 rfl ?_
  refine r_sub [1, 2, 3, 4, 5, 0] rfl ?_
  exact hq76 _ _ _ _ _ _ _ _ h
def fX11_grid_l76  (t : Nat) : Nat → (Shp) → (Nat → Nat → Int32) → (Nat → Nat → Option Nat) → (Int32) → (Int32) → (Int32) → (Option Nat) → (Int32) → Option ((Shp) × (Nat → Nat → Int32) × (Nat → Nat → Option Nat) × (Int32))
  | 0, _, _, _, _, _, _, _, _ => none
  | n + 1, σ, I, R, x1, x2, x4, x6, x7 =>
    (x6 : Option Nat).bind fun a18 =>
    if kdx σ a18 = 11 then
    ((R a18 2) : Option Nat).bind fun a20 =>
    if kdx σ a20 = 26 then
    if (Int32.ofNat (lnx σ a20)) ≤ x7 then
      if kdx σ t = 12 then
      ((R t 1) : Option Nat).bind fun a23 =>
      if kdx σ a23 = 26 then
      if ¬ (x1 < 0 ∨ lnx σ a23 ≤ Int32.toNatClampNeg x1) then
      let R26 := u2 R a23 (Int32.toNatClampNeg x1) (some a18)
      some (σ, I, R26, (1 : Int32))
      else none
      else none
      else none
    else
      if kdx σ t = 12 then
      (fX11_newRow σ I R t (fX11_laneOfGrid x2) x4).bind fun (σ28, I29, R30, r31) =>
      fX11_grid_b104 (fX11_grid_l76 t n) t σ28 I29 R30 x1 x2 x4 x6 x7 a20 x7 r31
      else none
    else none
    else none
theorem mX11_grid_l76  {t : Nat} {σ9 : Shp} {I9 : Nat → Nat → Int32} {R9 : Nat → Nat → Option Nat} {r9 : Int32} : ∀ (n : Nat) (σ : Shp) (I : Nat → Nat → Int32) (R : Nat → Nat → Option Nat) (x1 : Int32) (x2 : Int32) (x4 : Int32) (x6 : Option Nat) (x7 : Int32), fX11_grid_l76 t n σ I R x1 x2 x4 x6 x7 = some (σ9, I9, R9, r9) → Lex σ σ9 := by
  intro n
  induction n with
  | zero =>
    intro σ I R x1 x2 x4 x6 x7 h
    have h : none = some _ := h
    cases h
  | succ n ih =>
    intro σ I R x1 x2 x4 x6 x7 h
    rw [fX11_grid_l76] at h
    obtain ⟨a18, ha18, h⟩ := ob h
    replace h := (gd h).2
    obtain ⟨a20, ha20, h⟩ := ob h
    replace h := (gd h).2
    rcases itc h with ⟨c, h⟩ | ⟨c, h⟩
    · replace h := (gd h).2
      obtain ⟨a23, ha23, h⟩ := ob h
      replace h := (gd h).2
      replace h := (gd h).2
      cases h
      exact ⟨Nat.le_refl _, Nat.le_refl _⟩
    · replace h := (gd h).2
      obtain ⟨⟨σ28, I29, R30, r31⟩, hc32, h⟩ := ob h
      refine Lex.trans (mX11_newRow hc32) ?_
      exact mX11_grid_b104 ih h
theorem wX11_grid_l76 {G : Gx} {l : Launch} {σ0 : Shp} {J : Nat → Nat → Int64} {D : Nat → Nat → UInt64} {t : Nat} {σ9 : Shp} {I9 : Nat → Nat → Int32} {R9 : Nat → Nat → Option Nat} {r9 : Int32} : ∀ (n : Nat) (σ : Shp) (I : Nat → Nat → Int32) (R : Nat → Nat → Option Nat) (x1 : Int32) (x2 : Int32) (x4 : Int32) (x6 : Option Nat) (x7 : Int32), fX11_grid_l76 t n σ I R x1 x2 x4 x6 x7 = some (σ9, I9, R9, r9) → WX11_grid G l σ0 (σ9, I9, J, D, R9) (some (vI r9)) (σ, I, J, D, R) 76 [(0, vR (some t)), (1, vI x1), (2, vI x2), (4, vI x4), (6, vR x6), (7, vI x7)] [] := by
  intro n
  induction n with
  | zero =>
    intro σ I R x1 x2 x4 x6 x7 h
    have h : none = some _ := h
    cases h
  | succ n ih =>
    intro σ I R x1 x2 x4 x6 x7 h
    rw [fX11_grid_l76] at h
    refine r_iload (pc := 76) dX11_grid_76 5 rfl ?_
    refine r_aload (pc := 78) dX11_grid_78 4 rfl ?_
    obtain ⟨a18, ha18, h⟩ := ob h
    refine r_ref0 ha18 ?_
    obtain ⟨g19, h⟩ := gd h
    obtain ⟨a20, ha20, h⟩ := ob h
    refine r_getS (pc := 80) dX11_grid_80 fgX11_101 rfl g19 ha20 ?_
    obtain ⟨g21, h⟩ := gd h
    refine r_alen (pc := 83) dX11_grid_83 g21 (by decide) ?_
    refine r_icmp_ge (pc := 84) (tgt := 111) dX11_grid_84 rfl (fun c => ?_) (fun c => ?_)
    · have h := it h c
      refine r_aload_n (pc := 111) dX11_grid_111 rfl 0 rfl ?_
      obtain ⟨g22, h⟩ := gd h
      obtain ⟨a23, ha23, h⟩ := ob h
      refine r_getS (pc := 112) dX11_grid_112 fgX11_20 rfl g22 ha23 ?_
      refine r_iload_n (pc := 115) dX11_grid_115 rfl 1 rfl ?_
      refine r_aload (pc := 116) dX11_grid_116 4 rfl ?_
      refine r_ref0 ha18 ?_
      obtain ⟨g24, h⟩ := gd h
      obtain ⟨g25, h⟩ := gd h
      refine r_aastore (c := 10) (pc := 118) dX11_grid_118 g24 (by decide) g25 (okR_s g19) ?_
      refine r_iconst (pc := 119) dX11_grid_119 kc_iconst_1 ?_
      cases h
      exact r_iret dX11_grid_120
    · have h := ie h c
      refine r_aload (pc := 87) dX11_grid_87 4 rfl ?_
      refine r_ref0 ha18 ?_
      refine r_getS (pc := 89) dX11_grid_89 fgX11_101 rfl g19 ha20 ?_
      refine r_iload (pc := 92) dX11_grid_92 5 rfl ?_
      refine r_aload_n (pc := 94) dX11_grid_94 rfl 0 rfl ?_
      refine r_iload_n (pc := 95) dX11_grid_95 rfl 2 rfl ?_
      refine r_callS1 (pc := 96) (av := [vI x2]) (S := [vR (some t), vI x7, vR (some a20)]) dX11_grid_96 (kX11_laneOfGrid rfl) mkX11_106 mwX11_laneOfGrid rfl ⟨Nat.le_of_ble_eq_true rfl, Nat.le_of_ble_eq_true rfl⟩ (Nat.le_of_ble_eq_true rfl) ⟨Nat.le_refl _, Nat.le_refl _⟩ (fun b => b) ?_
      refine r_iload (pc := 99) dX11_grid_99 3 rfl ?_
      obtain ⟨g27, h⟩ := gd h
      obtain ⟨⟨σ28, I29, R30, r31⟩, hc32, h⟩ := ob h
      refine r_callV1 (pc := 101) (av := [vI (fX11_laneOfGrid x2), vI x4]) (S := [vI x7, vR (some a20)]) dX11_grid_101 (kX11_newRow hc32) g27 rfl mkX11_91 mwX11_newRow rfl ⟨Nat.le_of_ble_eq_true rfl, Nat.le_of_ble_eq_true rfl⟩ (Nat.le_of_ble_eq_true rfl) (mX11_newRow hc32) (bdx_le (mX11_newRow hc32) (mX11_grid_b104 (mX11_grid_l76 n) h)) ?_
      refine r_sub [0, 1, 2, 3, 4, 5] rfl ?_
      exact wX11_grid_b104 ih (mX11_grid_l76 n) h
def fX11_grid_b66  (t : Nat) (σ : Shp) (I : Nat → Nat → Int32) (R : Nat → Nat → Option Nat) (x1 : Int32) (x2 : Int32) (x4 : Int32) (x5 : Int32) (s0 : Option Nat) : Option ((Shp) × (Nat → Nat → Int32) × (Nat → Nat → Option Nat) × (Int32)) :=
  if x5 = 0 then
    fX11_grid_l76 t FUx σ I R x1 x2 x4 s0 (0 : Int32)
  else
    if kdx σ t = 12 then
    ((R t 1) : Option Nat).bind fun a13 =>
    if kdx σ a13 = 26 then
    if ¬ (x1 < 0 ∨ lnx σ a13 ≤ Int32.toNatClampNeg x1) then
    if okR σ 11 s0 = true then
    let R17 := u2 R a13 (Int32.toNatClampNeg x1) s0
    some (σ, I, R17, (1 : Int32))
    else none
    else none
    else none
    else none
theorem mX11_grid_b66 {σ : Shp} {I : Nat → Nat → Int32} {R : Nat → Nat → Option Nat} {t : Nat} {σ9 : Shp} {I9 : Nat → Nat → Int32} {R9 : Nat → Nat → Option Nat} {r9 : Int32} {x1 : Int32} {x2 : Int32} {x4 : Int32} {x5 : Int32} {s0 : Option Nat} (h : fX11_grid_b66 t σ I R x1 x2 x4 x5 s0 = some (σ9, I9, R9, r9)) : Lex σ σ9 := by
  unfold fX11_grid_b66 at h
  rcases itc h with ⟨c, h⟩ | ⟨c, h⟩
  · exact mX11_grid_l76 _ _ _ _ _ _ _ _ _ h
  · replace h := (gd h).2
    obtain ⟨a13, ha13, h⟩ := ob h
    replace h := (gd h).2
    replace h := (gd h).2
    replace h := (gd h).2
    cases h
    exact ⟨Nat.le_refl _, Nat.le_refl _⟩
theorem wX11_grid_b66 {G : Gx} {l : Launch} {σ0 : Shp} {σ : Shp} {I : Nat → Nat → Int32} {J : Nat → Nat → Int64} {D : Nat → Nat → UInt64} {R : Nat → Nat → Option Nat} {t : Nat} {σ9 : Shp} {I9 : Nat → Nat → Int32} {R9 : Nat → Nat → Option Nat} {r9 : Int32} {x1 : Int32} {x2 : Int32} {x4 : Int32} {x5 : Int32} {s0 : Option Nat} (h : fX11_grid_b66 t σ I R x1 x2 x4 x5 s0 = some (σ9, I9, R9, r9)) : WX11_grid G l σ0 (σ9, I9, J, D, R9) (some (vI r9)) (σ, I, J, D, R) 66 [(0, vR (some t)), (1, vI x1), (2, vI x2), (4, vI x4), (5, vI x5)] [vR s0] := by
  unfold fX11_grid_b66 at h
  refine r_astore (pc := 66) (L' := [(6, vR s0), (0, vR (some t)), (1, vI x1), (2, vI x2), (4, vI x4), (5, vI x5)]) dX11_grid_66 (by decide) rfl ?_
  refine r_iload (pc := 68) dX11_grid_68 5 rfl ?_
  refine r_ifne (pc := 70) (tgt := 111) dX11_grid_70 rfl (fun c => ?_) (fun c => ?_)
  · have h := ie h c
    refine r_aload_n (pc := 111) dX11_grid_111 rfl 1 rfl ?_
    obtain ⟨g12, h⟩ := gd h
    obtain ⟨a13, ha13, h⟩ := ob h
    refine r_getS (pc := 112) dX11_grid_112 fgX11_20 rfl g12 ha13 ?_
    refine r_iload_n (pc := 115) dX11_grid_115 rfl 2 rfl ?_
    refine r_aload (pc := 116) dX11_grid_116 0 rfl ?_
    obtain ⟨g14, h⟩ := gd h
    obtain ⟨g15, h⟩ := gd h
    obtain ⟨g16, h⟩ := gd h
    refine r_aastore (c := 10) (pc := 118) dX11_grid_118 g14 (by decide) g15 g16 ?_
    refine r_iconst (pc := 119) dX11_grid_119 kc_iconst_1 ?_
    cases h
    exact r_iret dX11_grid_120
  · have h := it h c
    refine r_iconst (pc := 73) dX11_grid_73 kc_iconst_0 ?_
    refine r_istore (pc := 74) (L' := [(7, vI (0 : Int32)), (6, vR s0), (0, vR (some t)), (1, vI x1), (2, vI x2), (4, vI x4), (5, vI x5)]) dX11_grid_74 (by decide) rfl ?_
    refine r_sub [2, 3, 4, 5, 1, 0] rfl ?_
    exact wX11_grid_l76 _ _ _ _ _ _ _ _ _ h
def fX11_grid (σ : Shp) (I : Nat → Nat → Int32) (R : Nat → Nat → Option Nat) (t : Nat) (x1 : Int32) (x2 : Int32) (x3 : Int32) (x4 : Int32) (x5 : Int32) : Option ((Shp) × (Nat → Nat → Int32) × (Nat → Nat → Option Nat) × (Int32)) :=
  if (fX11_isBin x1) = 0 then
    some (σ, I, R, (-2 : Int32))
  else
    if (fX11_isGridForm x2) = 0 then
      some (σ, I, R, (-2 : Int32))
    else
      if (10 : Int32) < x3 then
        some (σ, I, R, (-2 : Int32))
      else
        if x4 ≤ (40 : Int32) then
          if kdx σ t = 12 then
          (fX11_isFull σ I t).bind fun r2 =>
          if r2 = 0 then
            if x3 < 0 then
              (fX11_fail σ I t (3 : Int32)).bind fun (I4, r5) =>
              some (σ, I4, R, r5)
            else
              if 0 ≤ x4 then
                (fX11_newPlaces σ I R t x2 x3).bind fun (σ7, I8, R9, r10) =>
                fX11_grid_b66 t σ7 I8 R9 x1 x2 x4 x5 r10
              else
                if x5 = 0 then
                  (fX11_fail σ I t (3 : Int32)).bind fun (I43, r44) =>
                  some (σ, I43, R, r44)
                else
                  (fX11_newPlaces σ I R t x2 x3).bind fun (σ38, I39, R40, r41) =>
                  fX11_grid_b66 t σ38 I39 R40 x1 x2 x4 x5 r41
          else
            some (σ, I, R, (-4 : Int32))
          else none
        else
          some (σ, I, R, (-2 : Int32))
theorem mX11_grid {σ : Shp} {I : Nat → Nat → Int32} {R : Nat → Nat → Option Nat} {t : Nat} {x1 : Int32} {x2 : Int32} {x3 : Int32} {x4 : Int32} {x5 : Int32} {σ9 : Shp} {I9 : Nat → Nat → Int32} {R9 : Nat → Nat → Option Nat} {r9 : Int32} (h : fX11_grid σ I R t x1 x2 x3 x4 x5 = some (σ9, I9, R9, r9)) : Lex σ σ9 := by
  unfold fX11_grid at h
  rcases itc h with ⟨c, h⟩ | ⟨c, h⟩
  · cases h
    exact ⟨Nat.le_refl _, Nat.le_refl _⟩
  · rcases itc h with ⟨c, h⟩ | ⟨c, h⟩
    · cases h
      exact ⟨Nat.le_refl _, Nat.le_refl _⟩
    · rcases itc h with ⟨c, h⟩ | ⟨c, h⟩
      · cases h
        exact ⟨Nat.le_refl _, Nat.le_refl _⟩
      · rcases itc h with ⟨c, h⟩ | ⟨c, h⟩
        · replace h := (gd h).2
          obtain ⟨r2, hc3, h⟩ := ob h
          rcases itc h with ⟨c, h⟩ | ⟨c, h⟩
          · rcases itc h with ⟨c, h⟩ | ⟨c, h⟩
            · obtain ⟨⟨I4, r5⟩, hc6, h⟩ := ob h
              cases h
              exact ⟨Nat.le_refl _, Nat.le_refl _⟩
            · rcases itc h with ⟨c, h⟩ | ⟨c, h⟩
              · obtain ⟨⟨σ7, I8, R9, r10⟩, hc11, h⟩ := ob h
                refine Lex.trans (mX11_newPlaces hc11) ?_
                exact mX11_grid_b66 h
              · rcases itc h with ⟨c, h⟩ | ⟨c, h⟩
                · obtain ⟨⟨I43, r44⟩, hc45, h⟩ := ob h
                  cases h
                  exact ⟨Nat.le_refl _, Nat.le_refl _⟩
                · obtain ⟨⟨σ38, I39, R40, r41⟩, hc42, h⟩ := ob h
                  refine Lex.trans (mX11_newPlaces hc42) ?_
                  exact mX11_grid_b66 h
          · cases h
            exact ⟨Nat.le_refl _, Nat.le_refl _⟩
        · cases h
          exact ⟨Nat.le_refl _, Nat.le_refl _⟩
theorem kX11_grid {G : Gx} {l : Launch} {σ : Shp} {I : Nat → Nat → Int32} {J : Nat → Nat → Int64} {D : Nat → Nat → UInt64} {R : Nat → Nat → Option Nat} {t : Nat} {x1 : Int32} {x2 : Int32} {x3 : Int32} {x4 : Int32} {x5 : Int32} {σ9 : Shp} {I9 : Nat → Nat → Int32} {R9 : Nat → Nat → Option Nat} {r9 : Int32} (h : fX11_grid σ I R t x1 x2 x3 x4 x5 = some (σ9, I9, R9, r9)) : Con G l yX11_grid cX11_grid 8 (some .int) 3 65 [vR (some t), vI x1, vI x2, vI x3, vI x4, vI x5] (σ, I, J, D, R) (σ9, I9, J, D, R9) (some (vI r9)) := by
  unfold fX11_grid at h
  refine Con.mk (by decide +kernel) rfl (Nat.le_of_ble_eq_true rfl) ?_
  show WX11_grid G l σ (σ9, I9, J, D, R9) (some (vI r9)) (σ, I, J, D, R) 0 _ []
  refine r_iload_n (pc := 0) dX11_grid_0 rfl 1 rfl ?_
  refine r_callS1 (pc := 1) (av := [vI x1]) (S := []) dX11_grid_1 (kX11_isBin rfl) mkX11_76 mwX11_isBin rfl ⟨Nat.le_of_ble_eq_true rfl, Nat.le_of_ble_eq_true rfl⟩ (Nat.le_of_ble_eq_true rfl) ⟨Nat.le_refl _, Nat.le_refl _⟩ (fun b => b) ?_
  refine r_if_eq (pc := 4) (tgt := 27) dX11_grid_4 rfl (fun c => ?_) (fun c => ?_)
  · have h := it h c
    refine r_bipush (pc := 27) dX11_grid_27 kc_bipush_m2 ?_
    cases h
    exact r_iret dX11_grid_29
  · have h := ie h c
    refine r_iload_n (pc := 7) dX11_grid_7 rfl 2 rfl ?_
    refine r_callS1 (pc := 8) (av := [vI x2]) (S := []) dX11_grid_8 (kX11_isGridForm rfl) mkX11_95 mwX11_isGridForm rfl ⟨Nat.le_of_ble_eq_true rfl, Nat.le_of_ble_eq_true rfl⟩ (Nat.le_of_ble_eq_true rfl) ⟨Nat.le_refl _, Nat.le_refl _⟩ (fun b => b) ?_
    refine r_if_eq (pc := 11) (tgt := 27) dX11_grid_11 rfl (fun c => ?_) (fun c => ?_)
    · have h := it h c
      refine r_bipush (pc := 27) dX11_grid_27 kc_bipush_m2 ?_
      cases h
      exact r_iret dX11_grid_29
    · have h := ie h c
      refine r_iload_n (pc := 14) dX11_grid_14 rfl 3 rfl ?_
      refine r_bipush (pc := 15) dX11_grid_15 kc_bipush_10 ?_
      refine r_icmp_gt (pc := 17) (tgt := 27) dX11_grid_17 rfl (fun c => ?_) (fun c => ?_)
      · have h := it h c
        refine r_bipush (pc := 27) dX11_grid_27 kc_bipush_m2 ?_
        cases h
        exact r_iret dX11_grid_29
      · have h := ie h c
        refine r_iload (pc := 20) dX11_grid_20 4 rfl ?_
        refine r_bipush (pc := 22) dX11_grid_22 kc_bipush_40 ?_
        refine r_icmp_le (pc := 24) (tgt := 30) dX11_grid_24 rfl (fun c => ?_) (fun c => ?_)
        · have h := it h c
          refine r_aload_n (pc := 30) dX11_grid_30 rfl 0 rfl ?_
          obtain ⟨g1, h⟩ := gd h
          obtain ⟨r2, hc3, h⟩ := ob h
          refine r_callV1 (pc := 31) (av := []) (S := []) dX11_grid_31 (kX11_isFull hc3) g1 rfl mkX11_83 mwX11_isFull rfl ⟨Nat.le_of_ble_eq_true rfl, Nat.le_of_ble_eq_true rfl⟩ (Nat.le_of_ble_eq_true rfl) ⟨Nat.le_refl _, Nat.le_refl _⟩ (fun b => b) ?_
          refine r_if_eq (pc := 34) (tgt := 40) dX11_grid_34 rfl (fun c => ?_) (fun c => ?_)
          · have h := it h c
            refine r_iload_n (pc := 40) dX11_grid_40 rfl 3 rfl ?_
            refine r_if_lt (pc := 41) (tgt := 54) dX11_grid_41 rfl (fun c => ?_) (fun c => ?_)
            · have h := it h c
              refine r_aload_n (pc := 54) dX11_grid_54 rfl 0 rfl ?_
              refine r_iconst (pc := 55) dX11_grid_55 kc_iconst_3 ?_
              obtain ⟨⟨I4, r5⟩, hc6, h⟩ := ob h
              refine r_callV1 (pc := 56) (av := [vI (3 : Int32)]) (S := []) dX11_grid_56 (kX11_fail hc6) g1 rfl mkX11_87 mwX11_fail rfl ⟨Nat.le_of_ble_eq_true rfl, Nat.le_of_ble_eq_true rfl⟩ (Nat.le_of_ble_eq_true rfl) ⟨Nat.le_refl _, Nat.le_refl _⟩ (fun b => b) ?_
              cases h
              exact r_iret dX11_grid_59
            · have h := ie h c
              refine r_iload (pc := 44) dX11_grid_44 4 rfl ?_
              refine r_ifge (pc := 46) (tgt := 60) dX11_grid_46 rfl (fun c => ?_) (fun c => ?_)
              · have h := it h c
                refine r_aload_n (pc := 60) dX11_grid_60 rfl 0 rfl ?_
                refine r_iload_n (pc := 61) dX11_grid_61 rfl 2 rfl ?_
                refine r_iload_n (pc := 62) dX11_grid_62 rfl 3 rfl ?_
                obtain ⟨⟨σ7, I8, R9, r10⟩, hc11, h⟩ := ob h
                refine r_callV1 (pc := 63) (av := [vI x2, vI x3]) (S := []) dX11_grid_63 (kX11_newPlaces hc11) g1 rfl mkX11_98 mwX11_newPlaces rfl ⟨Nat.le_of_ble_eq_true rfl, Nat.le_of_ble_eq_true rfl⟩ (Nat.le_of_ble_eq_true rfl) (mX11_newPlaces hc11) (bdx_le (mX11_newPlaces hc11) (mX11_grid_b66 h)) ?_
                refine r_sub [0, 1, 2, 4, 5] rfl ?_
                exact wX11_grid_b66 h
              · have h := ie h c
                refine r_iload (pc := 49) dX11_grid_49 5 rfl ?_
                refine r_ifne (pc := 51) (tgt := 60) dX11_grid_51 rfl (fun c => ?_) (fun c => ?_)
                · have h := ie h c
                  refine r_aload_n (pc := 60) dX11_grid_60 rfl 0 rfl ?_
                  refine r_iload_n (pc := 61) dX11_grid_61 rfl 2 rfl ?_
                  refine r_iload_n (pc := 62) dX11_grid_62 rfl 3 rfl ?_
                  obtain ⟨⟨σ38, I39, R40, r41⟩, hc42, h⟩ := ob h
                  refine r_callV1 (pc := 63) (av := [vI x2, vI x3]) (S := []) dX11_grid_63 (kX11_newPlaces hc42) g1 rfl mkX11_98 mwX11_newPlaces rfl ⟨Nat.le_of_ble_eq_true rfl, Nat.le_of_ble_eq_true rfl⟩ (Nat.le_of_ble_eq_true rfl) (mX11_newPlaces hc42) (bdx_le (mX11_newPlaces hc42) (mX11_grid_b66 h)) ?_
                  refine r_sub [0, 1, 2, 4, 5] rfl ?_
                  exact wX11_grid_b66 h
                · have h := it h c
                  refine r_aload_n (pc := 54) dX11_grid_54 rfl 0 rfl ?_
                  refine r_iconst (pc := 55) dX11_grid_55 kc_iconst_3 ?_
                  obtain ⟨⟨I43, r44⟩, hc45, h⟩ := ob h
                  refine r_callV1 (pc := 56) (av := [vI (3 : Int32)]) (S := []) dX11_grid_56 (kX11_fail hc45) g1 rfl mkX11_87 mwX11_fail rfl ⟨Nat.le_of_ble_eq_true rfl, Nat.le_of_ble_eq_true rfl⟩ (Nat.le_of_ble_eq_true rfl) ⟨Nat.le_refl _, Nat.le_refl _⟩ (fun b => b) ?_
                  cases h
                  exact r_iret dX11_grid_59
          · have h := ie h c
            refine r_bipush (pc := 37) dX11_grid_37 kc_bipush_m4 ?_
            cases h
            exact r_iret dX11_grid_39
        · have h := ie h c
          refine r_bipush (pc := 27) dX11_grid_27 kc_bipush_m2 ?_
          cases h
          exact r_iret dX11_grid_29
abbrev WX11_intoBin (G : Gx) (l : Launch) (σ0 : Shp) (X1 : Stt) (rv : Option SV) : Stt → Nat → List (Nat × SV) → List SV → Prop := Wm G l yX11_intoBin cX11_intoBin 4 (some .int) (fun _ => True) (rmx 3 65 σ0 X1.1) σ0 (Qmx G σ0 X1 rv)
def fX11_intoBin_b31  (σ : Shp) (I : Nat → Nat → Int32) (R : Nat → Nat → Option Nat) (s0 : Nat) (s1 : Int32) (s2 : Option Nat) : Option ((Shp) × (Nat → Nat → Int32) × (Nat → Nat → Option Nat) × (Int32)) :=
  if kdx σ s0 = 26 then
  if ¬ (s1 < 0 ∨ lnx σ s0 ≤ Int32.toNatClampNeg s1) then
  if okR σ 11 s2 = true then
  let R13 := u2 R s0 (Int32.toNatClampNeg s1) s2
  some (σ, I, R13, (1 : Int32))
  else none
  else none
  else none
theorem mX11_intoBin_b31 {σ : Shp} {I : Nat → Nat → Int32} {R : Nat → Nat → Option Nat} {σ9 : Shp} {I9 : Nat → Nat → Int32} {R9 : Nat → Nat → Option Nat} {r9 : Int32} {s0 : Nat} {s1 : Int32} {s2 : Option Nat} (h : fX11_intoBin_b31 σ I R s0 s1 s2 = some (σ9, I9, R9, r9)) : Lex σ σ9 := by
  unfold fX11_intoBin_b31 at h
  replace h := (gd h).2
  replace h := (gd h).2
  replace h := (gd h).2
  cases h
  exact ⟨Nat.le_refl _, Nat.le_refl _⟩
theorem wX11_intoBin_b31 {G : Gx} {l : Launch} {σ0 : Shp} {σ : Shp} {I : Nat → Nat → Int32} {J : Nat → Nat → Int64} {D : Nat → Nat → UInt64} {R : Nat → Nat → Option Nat} {σ9 : Shp} {I9 : Nat → Nat → Int32} {R9 : Nat → Nat → Option Nat} {r9 : Int32} {s0 : Nat} {s1 : Int32} {s2 : Option Nat} (h : fX11_intoBin_b31 σ I R s0 s1 s2 = some (σ9, I9, R9, r9)) : WX11_intoBin G l σ0 (σ9, I9, J, D, R9) (some (vI r9)) (σ, I, J, D, R) 31 [] [vR s2, vI s1, vR (some s0)] := by
  unfold fX11_intoBin_b31 at h
  obtain ⟨g10, h⟩ := gd h
  obtain ⟨g11, h⟩ := gd h
  obtain ⟨g12, h⟩ := gd h
  refine r_aastore (c := 10) (pc := 31) dX11_intoBin_31 g10 (by decide) g11 g12 ?_
  refine r_iconst (pc := 32) dX11_intoBin_32 kc_iconst_1 ?_
  cases h
  exact r_iret dX11_intoBin_33
def fX11_intoBin (σ : Shp) (I : Nat → Nat → Int32) (R : Nat → Nat → Option Nat) (t : Nat) (x1 : Int32) (x2 : Int32) (x3 : Int32) : Option ((Shp) × (Nat → Nat → Int32) × (Nat → Nat → Option Nat) × (Int32)) :=
  if kdx σ t = 12 then
  (fX11_isFull σ I t).bind fun r2 =>
  if r2 = 0 then
    if 0 ≤ x3 then
      ((R t 1) : Option Nat).bind fun a4 =>
      (fX11_newPlaces σ I R t x2 x3).bind fun (σ5, I6, R7, r8) =>
      fX11_intoBin_b31 σ5 I6 R7 a4 x1 r8
    else
      (fX11_fail σ I t (3 : Int32)).bind fun (I14, r15) =>
      some (σ, I14, R, r15)
  else
    some (σ, I, R, (-4 : Int32))
  else none
theorem mX11_intoBin {σ : Shp} {I : Nat → Nat → Int32} {R : Nat → Nat → Option Nat} {t : Nat} {x1 : Int32} {x2 : Int32} {x3 : Int32} {σ9 : Shp} {I9 : Nat → Nat → Int32} {R9 : Nat → Nat → Option Nat} {r9 : Int32} (h : fX11_intoBin σ I R t x1 x2 x3 = some (σ9, I9, R9, r9)) : Lex σ σ9 := by
  unfold fX11_intoBin at h
  replace h := (gd h).2
  obtain ⟨r2, hc3, h⟩ := ob h
  rcases itc h with ⟨c, h⟩ | ⟨c, h⟩
  · rcases itc h with ⟨c, h⟩ | ⟨c, h⟩
    · obtain ⟨a4, ha4, h⟩ := ob h
      obtain ⟨⟨σ5, I6, R7, r8⟩, hc9, h⟩ := ob h
      refine Lex.trans (mX11_newPlaces hc9) ?_
      exact mX11_intoBin_b31 h
    · obtain ⟨⟨I14, r15⟩, hc16, h⟩ := ob h
      cases h
      exact ⟨Nat.le_refl _, Nat.le_refl _⟩
  · cases h
    exact ⟨Nat.le_refl _, Nat.le_refl _⟩
theorem kX11_intoBin {G : Gx} {l : Launch} {σ : Shp} {I : Nat → Nat → Int32} {J : Nat → Nat → Int64} {D : Nat → Nat → UInt64} {R : Nat → Nat → Option Nat} {t : Nat} {x1 : Int32} {x2 : Int32} {x3 : Int32} {σ9 : Shp} {I9 : Nat → Nat → Int32} {R9 : Nat → Nat → Option Nat} {r9 : Int32} (h : fX11_intoBin σ I R t x1 x2 x3 = some (σ9, I9, R9, r9)) : Con G l yX11_intoBin cX11_intoBin 4 (some .int) 3 65 [vR (some t), vI x1, vI x2, vI x3] (σ, I, J, D, R) (σ9, I9, J, D, R9) (some (vI r9)) := by
  unfold fX11_intoBin at h
  refine Con.mk (by decide +kernel) rfl (Nat.le_of_ble_eq_true rfl) ?_
  show WX11_intoBin G l σ (σ9, I9, J, D, R9) (some (vI r9)) (σ, I, J, D, R) 0 _ []
  refine r_aload_n (pc := 0) dX11_intoBin_0 rfl 0 rfl ?_
  obtain ⟨g1, h⟩ := gd h
  obtain ⟨r2, hc3, h⟩ := ob h
  refine r_callV1 (pc := 1) (av := []) (S := []) dX11_intoBin_1 (kX11_isFull hc3) g1 rfl mkX11_83 mwX11_isFull rfl ⟨Nat.le_of_ble_eq_true rfl, Nat.le_of_ble_eq_true rfl⟩ (Nat.le_of_ble_eq_true rfl) ⟨Nat.le_refl _, Nat.le_refl _⟩ (fun b => b) ?_
  refine r_if_eq (pc := 4) (tgt := 10) dX11_intoBin_4 rfl (fun c => ?_) (fun c => ?_)
  · have h := it h c
    refine r_iload_n (pc := 10) dX11_intoBin_10 rfl 3 rfl ?_
    refine r_ifge (pc := 11) (tgt := 20) dX11_intoBin_11 rfl (fun c => ?_) (fun c => ?_)
    · have h := it h c
      refine r_aload_n (pc := 20) dX11_intoBin_20 rfl 0 rfl ?_
      obtain ⟨a4, ha4, h⟩ := ob h
      refine r_getS (pc := 21) dX11_intoBin_21 fgX11_20 rfl g1 ha4 ?_
      refine r_iload_n (pc := 24) dX11_intoBin_24 rfl 1 rfl ?_
      refine r_aload_n (pc := 25) dX11_intoBin_25 rfl 0 rfl ?_
      refine r_iload_n (pc := 26) dX11_intoBin_26 rfl 2 rfl ?_
      refine r_iload_n (pc := 27) dX11_intoBin_27 rfl 3 rfl ?_
      obtain ⟨⟨σ5, I6, R7, r8⟩, hc9, h⟩ := ob h
      refine r_callV1 (pc := 28) (av := [vI x2, vI x3]) (S := [vI x1, vR (some a4)]) dX11_intoBin_28 (kX11_newPlaces hc9) g1 rfl mkX11_98 mwX11_newPlaces rfl ⟨Nat.le_of_ble_eq_true rfl, Nat.le_of_ble_eq_true rfl⟩ (Nat.le_of_ble_eq_true rfl) (mX11_newPlaces hc9) (bdx_le (mX11_newPlaces hc9) (mX11_intoBin_b31 h)) ?_
      refine r_sub [] rfl ?_
      exact wX11_intoBin_b31 h
    · have h := ie h c
      refine r_aload_n (pc := 14) dX11_intoBin_14 rfl 0 rfl ?_
      refine r_iconst (pc := 15) dX11_intoBin_15 kc_iconst_3 ?_
      obtain ⟨⟨I14, r15⟩, hc16, h⟩ := ob h
      refine r_callV1 (pc := 16) (av := [vI (3 : Int32)]) (S := []) dX11_intoBin_16 (kX11_fail hc16) g1 rfl mkX11_87 mwX11_fail rfl ⟨Nat.le_of_ble_eq_true rfl, Nat.le_of_ble_eq_true rfl⟩ (Nat.le_of_ble_eq_true rfl) ⟨Nat.le_refl _, Nat.le_refl _⟩ (fun b => b) ?_
      cases h
      exact r_iret dX11_intoBin_19
  · have h := ie h c
    refine r_bipush (pc := 7) dX11_intoBin_7 kc_bipush_m4 ?_
    cases h
    exact r_iret dX11_intoBin_9
abbrev WX11_storeys (G : Gx) (l : Launch) (σ0 : Shp) (X1 : Stt) (rv : Option SV) : Stt → Nat → List (Nat × SV) → List SV → Prop := Wm G l yX11_storeys cX11_storeys 3 (some .int) (fun _ => True) (rmx 4 88 σ0 X1.1) σ0 (Qmx G σ0 X1 rv)
def fX11_storeys_b23  (σ : Shp) (I : Nat → Nat → Int32) (R : Nat → Nat → Option Nat) (s0 : Int32) : Option ((Shp) × (Nat → Nat → Int32) × (Nat → Nat → Option Nat) × (Int32)) :=
  some (σ, I, R, s0)
theorem mX11_storeys_b23 {σ : Shp} {I : Nat → Nat → Int32} {R : Nat → Nat → Option Nat} {σ9 : Shp} {I9 : Nat → Nat → Int32} {R9 : Nat → Nat → Option Nat} {r9 : Int32} {s0 : Int32} (h : fX11_storeys_b23 σ I R s0 = some (σ9, I9, R9, r9)) : Lex σ σ9 := by
  unfold fX11_storeys_b23 at h
  cases h
  exact ⟨Nat.le_refl _, Nat.le_refl _⟩
theorem wX11_storeys_b23 {G : Gx} {l : Launch} {σ0 : Shp} {σ : Shp} {I : Nat → Nat → Int32} {J : Nat → Nat → Int64} {D : Nat → Nat → UInt64} {R : Nat → Nat → Option Nat} {σ9 : Shp} {I9 : Nat → Nat → Int32} {R9 : Nat → Nat → Option Nat} {r9 : Int32} {s0 : Int32} (h : fX11_storeys_b23 σ I R s0 = some (σ9, I9, R9, r9)) : WX11_storeys G l σ0 (σ9, I9, J, D, R9) (some (vI r9)) (σ, I, J, D, R) 23 [] [vI s0] := by
  unfold fX11_storeys_b23 at h
  cases h
  exact r_iret dX11_storeys_23
def fX11_storeys (σ : Shp) (I : Nat → Nat → Int32) (R : Nat → Nat → Option Nat) (t : Nat) (x1 : Int32) (x2 : Int32) : Option ((Shp) × (Nat → Nat → Int32) × (Nat → Nat → Option Nat) × (Int32)) :=
  if (fX11_isBin x1) = 0 then
    some (σ, I, R, (-2 : Int32))
  else
    if x2 ≤ (4 : Int32) then
      if kdx σ t = 12 then
      (fX11_intoBin σ I R t x1 (11 : Int32) x2).bind fun (σ2, I3, R4, r5) =>
      fX11_storeys_b23 σ2 I3 R4 r5
      else none
    else
      some (σ, I, R, (-2 : Int32))
theorem mX11_storeys {σ : Shp} {I : Nat → Nat → Int32} {R : Nat → Nat → Option Nat} {t : Nat} {x1 : Int32} {x2 : Int32} {σ9 : Shp} {I9 : Nat → Nat → Int32} {R9 : Nat → Nat → Option Nat} {r9 : Int32} (h : fX11_storeys σ I R t x1 x2 = some (σ9, I9, R9, r9)) : Lex σ σ9 := by
  unfold fX11_storeys at h
  rcases itc h with ⟨c, h⟩ | ⟨c, h⟩
  · cases h
    exact ⟨Nat.le_refl _, Nat.le_refl _⟩
  · rcases itc h with ⟨c, h⟩ | ⟨c, h⟩
    · replace h := (gd h).2
      obtain ⟨⟨σ2, I3, R4, r5⟩, hc6, h⟩ := ob h
      refine Lex.trans (mX11_intoBin hc6) ?_
      exact mX11_storeys_b23 h
    · cases h
      exact ⟨Nat.le_refl _, Nat.le_refl _⟩
theorem kX11_storeys {G : Gx} {l : Launch} {σ : Shp} {I : Nat → Nat → Int32} {J : Nat → Nat → Int64} {D : Nat → Nat → UInt64} {R : Nat → Nat → Option Nat} {t : Nat} {x1 : Int32} {x2 : Int32} {σ9 : Shp} {I9 : Nat → Nat → Int32} {R9 : Nat → Nat → Option Nat} {r9 : Int32} (h : fX11_storeys σ I R t x1 x2 = some (σ9, I9, R9, r9)) : Con G l yX11_storeys cX11_storeys 3 (some .int) 4 88 [vR (some t), vI x1, vI x2] (σ, I, J, D, R) (σ9, I9, J, D, R9) (some (vI r9)) := by
  unfold fX11_storeys at h
  refine Con.mk (by decide +kernel) rfl (Nat.le_of_ble_eq_true rfl) ?_
  show WX11_storeys G l σ (σ9, I9, J, D, R9) (some (vI r9)) (σ, I, J, D, R) 0 _ []
  refine r_iload_n (pc := 0) dX11_storeys_0 rfl 1 rfl ?_
  refine r_callS1 (pc := 1) (av := [vI x1]) (S := []) dX11_storeys_1 (kX11_isBin rfl) mkX11_76 mwX11_isBin rfl ⟨Nat.le_of_ble_eq_true rfl, Nat.le_of_ble_eq_true rfl⟩ (Nat.le_of_ble_eq_true rfl) ⟨Nat.le_refl _, Nat.le_refl _⟩ (fun b => b) ?_
  refine r_if_eq (pc := 4) (tgt := 12) dX11_storeys_4 rfl (fun c => ?_) (fun c => ?_)
  · have h := it h c
    refine r_bipush (pc := 12) dX11_storeys_12 kc_bipush_m2 ?_
    cases h
    exact r_iret dX11_storeys_14
  · have h := ie h c
    refine r_iload_n (pc := 7) dX11_storeys_7 rfl 2 rfl ?_
    refine r_iconst (pc := 8) dX11_storeys_8 kc_iconst_4 ?_
    refine r_icmp_le (pc := 9) (tgt := 15) dX11_storeys_9 rfl (fun c => ?_) (fun c => ?_)
    · have h := it h c
      refine r_aload_n (pc := 15) dX11_storeys_15 rfl 0 rfl ?_
      refine r_iload_n (pc := 16) dX11_storeys_16 rfl 1 rfl ?_
      refine r_bipush (pc := 17) dX11_storeys_17 kc_bipush_11 ?_
      refine r_iload_n (pc := 19) dX11_storeys_19 rfl 2 rfl ?_
      obtain ⟨g1, h⟩ := gd h
      obtain ⟨⟨σ2, I3, R4, r5⟩, hc6, h⟩ := ob h
      refine r_callV1 (pc := 20) (av := [vI x1, vI (11 : Int32), vI x2]) (S := []) dX11_storeys_20 (kX11_intoBin hc6) g1 rfl mkX11_109 mwX11_intoBin rfl ⟨Nat.le_of_ble_eq_true rfl, Nat.le_of_ble_eq_true rfl⟩ (Nat.le_of_ble_eq_true rfl) (mX11_intoBin hc6) (bdx_le (mX11_intoBin hc6) (mX11_storeys_b23 h)) ?_
      refine r_sub [] rfl ?_
      exact wX11_storeys_b23 h
    · have h := ie h c
      refine r_bipush (pc := 12) dX11_storeys_12 kc_bipush_m2 ?_
      cases h
      exact r_iret dX11_storeys_14
abbrev WX11_share (G : Gx) (l : Launch) (σ0 : Shp) (X1 : Stt) (rv : Option SV) : Stt → Nat → List (Nat × SV) → List SV → Prop := Wm G l yX11_share cX11_share 3 (some .int) (fun _ => True) (rmx 1 20 σ0 X1.1) σ0 (Qmx G σ0 X1 rv)
def fX11_share_b22  (σ : Shp) (t : Nat) (R : Nat → Nat → Option Nat) (x1 : Int32) (x2 : Int32) : Option ((Nat → Nat → Option Nat) × (Int32)) :=
  if kdx σ t = 12 then
  ((R t 1) : Option Nat).bind fun a2 =>
  if x2 = (-1 : Int32) then
    if kdx σ a2 = 26 then
    if ¬ (x1 < 0 ∨ lnx σ a2 ≤ Int32.toNatClampNeg x1) then
    let R10 := u2 R a2 (Int32.toNatClampNeg x1) none
    some (R10, (1 : Int32))
    else none
    else none
  else
    if kdx σ a2 = 26 then
    if ¬ (x2 < 0 ∨ lnx σ a2 ≤ Int32.toNatClampNeg x2) then
    if ¬ (x1 < 0 ∨ lnx σ a2 ≤ Int32.toNatClampNeg x1) then
    if okR σ 11 (R a2 (Int32.toNatClampNeg x2)) = true then
    let R7 := u2 R a2 (Int32.toNatClampNeg x1) (R a2 (Int32.toNatClampNeg x2))
    some (R7, (1 : Int32))
    else none
    else none
    else none
    else none
  else none
theorem wX11_share_b22 {G : Gx} {l : Launch} {σ : Shp} {I : Nat → Nat → Int32} {J : Nat → Nat → Int64} {D : Nat → Nat → UInt64} {R : Nat → Nat → Option Nat} {t : Nat} {R9 : Nat → Nat → Option Nat} {r9 : Int32} {x1 : Int32} {x2 : Int32} (h : fX11_share_b22 σ t R x1 x2 = some (R9, r9)) : WX11_share G l σ (σ, I, J, D, R9) (some (vI r9)) (σ, I, J, D, R) 22 [(0, vR (some t)), (1, vI x1), (2, vI x2)] [] := by
  unfold fX11_share_b22 at h
  refine r_aload_n (pc := 22) dX11_share_22 rfl 0 rfl ?_
  obtain ⟨g1, h⟩ := gd h
  obtain ⟨a2, ha2, h⟩ := ob h
  refine r_getS (pc := 23) dX11_share_23 fgX11_20 rfl g1 ha2 ?_
  refine r_iload_n (pc := 26) dX11_share_26 rfl 1 rfl ?_
  refine r_iload_n (pc := 27) dX11_share_27 rfl 2 rfl ?_
  refine r_iconst (pc := 28) dX11_share_28 kc_iconst_m1 ?_
  refine r_icmp_ne (pc := 29) (tgt := 36) dX11_share_29 rfl (fun c => ?_) (fun c => ?_)
  · have h := ie h c
    refine r_aload_n (pc := 36) dX11_share_36 rfl 0 rfl ?_
    refine r_getS (pc := 37) dX11_share_37 fgX11_20 rfl g1 ha2 ?_
    refine r_iload_n (pc := 40) dX11_share_40 rfl 2 rfl ?_
    obtain ⟨g3, h⟩ := gd h
    obtain ⟨g4, h⟩ := gd h
    refine r_aaload (pc := 41) dX11_share_41 g3 (by decide) g4 ?_
    obtain ⟨g5, h⟩ := gd h
    obtain ⟨g6, h⟩ := gd h
    refine r_aastore (c := 10) (pc := 42) dX11_share_42 g3 (by decide) g5 g6 ?_
    refine r_iconst (pc := 43) dX11_share_43 kc_iconst_1 ?_
    cases h
    exact r_iret dX11_share_44
  · have h := it h c
    refine r_null (pc := 32) dX11_share_32 ?_
    refine r_goto (pc := 33) (tgt := 42) dX11_share_33 rfl ?_
    obtain ⟨g8, h⟩ := gd h
    obtain ⟨g9, h⟩ := gd h
    refine r_aastore (c := 10) (pc := 42) dX11_share_42 g8 (by decide) g9 rfl ?_
    refine r_iconst (pc := 43) dX11_share_43 kc_iconst_1 ?_
    cases h
    exact r_iret dX11_share_44
def fX11_share (σ : Shp) (R : Nat → Nat → Option Nat) (t : Nat) (x1 : Int32) (x2 : Int32) : Option ((Nat → Nat → Option Nat) × (Int32)) :=
  if (fX11_isBin x1) = 0 then
    some (R, (-2 : Int32))
  else
    if x2 = (-1 : Int32) then
      fX11_share_b22 σ t R x1 x2
    else
      if (fX11_isBin x2) = 0 then
        some (R, (-2 : Int32))
      else
        fX11_share_b22 σ t R x1 x2
theorem kX11_share {G : Gx} {l : Launch} {σ : Shp} {I : Nat → Nat → Int32} {J : Nat → Nat → Int64} {D : Nat → Nat → UInt64} {R : Nat → Nat → Option Nat} {t : Nat} {x1 : Int32} {x2 : Int32} {R9 : Nat → Nat → Option Nat} {r9 : Int32} (h : fX11_share σ R t x1 x2 = some (R9, r9)) : Con G l yX11_share cX11_share 3 (some .int) 1 20 [vR (some t), vI x1, vI x2] (σ, I, J, D, R) (σ, I, J, D, R9) (some (vI r9)) := by
  unfold fX11_share at h
  refine Con.mk (by decide +kernel) rfl (Nat.le_of_ble_eq_true rfl) ?_
  show WX11_share G l σ (σ, I, J, D, R9) (some (vI r9)) (σ, I, J, D, R) 0 _ []
  refine r_iload_n (pc := 0) dX11_share_0 rfl 1 rfl ?_
  refine r_callS1 (pc := 1) (av := [vI x1]) (S := []) dX11_share_1 (kX11_isBin rfl) mkX11_76 mwX11_isBin rfl ⟨Nat.le_of_ble_eq_true rfl, Nat.le_of_ble_eq_true rfl⟩ (Nat.le_of_ble_eq_true rfl) ⟨Nat.le_refl _, Nat.le_refl _⟩ (fun b => b) ?_
  refine r_if_eq (pc := 4) (tgt := 19) dX11_share_4 rfl (fun c => ?_) (fun c => ?_)
  · have h := it h c
    refine r_bipush (pc := 19) dX11_share_19 kc_bipush_m2 ?_
    cases h
    exact r_iret dX11_share_21
  · have h := ie h c
    refine r_iload_n (pc := 7) dX11_share_7 rfl 2 rfl ?_
    refine r_iconst (pc := 8) dX11_share_8 kc_iconst_m1 ?_
    refine r_icmp_eq (pc := 9) (tgt := 22) dX11_share_9 rfl (fun c => ?_) (fun c => ?_)
    · have h := it h c
      refine r_sub [0, 1, 2] rfl ?_
      exact wX11_share_b22 h
    · have h := ie h c
      refine r_iload_n (pc := 12) dX11_share_12 rfl 2 rfl ?_
      refine r_callS1 (pc := 13) (av := [vI x2]) (S := []) dX11_share_13 (kX11_isBin rfl) mkX11_76 mwX11_isBin rfl ⟨Nat.le_of_ble_eq_true rfl, Nat.le_of_ble_eq_true rfl⟩ (Nat.le_of_ble_eq_true rfl) ⟨Nat.le_refl _, Nat.le_refl _⟩ (fun b => b) ?_
      refine r_ifne (pc := 16) (tgt := 22) dX11_share_16 rfl (fun c => ?_) (fun c => ?_)
      · have h := ie h c
        refine r_sub [0, 1, 2] rfl ?_
        exact wX11_share_b22 h
      · have h := it h c
        refine r_bipush (pc := 19) dX11_share_19 kc_bipush_m2 ?_
        cases h
        exact r_iret dX11_share_21
abbrev WX11_form (G : Gx) (l : Launch) (σ0 : Shp) (X1 : Stt) (rv : Option SV) : Stt → Nat → List (Nat × SV) → List SV → Prop := Wm G l yX11_form cX11_form 3 (some .int) (fun _ => True) (rmx 1 20 σ0 X1.1) σ0 (Qmx G σ0 X1 rv)
def fX11_form (σ : Shp) (I : Nat → Nat → Int32) (R : Nat → Nat → Option Nat) (t : Nat) (x1 : Int32) : Option ((Int32)) :=
  if (fX11_isBin x1) = 0 then
    some (-2 : Int32)
  else
    if kdx σ t = 12 then
    ((R t 1) : Option Nat).bind fun a2 =>
    if kdx σ a2 = 26 then
    if ¬ (x1 < 0 ∨ lnx σ a2 ≤ Int32.toNatClampNeg x1) then
    let v5 := (R a2 (Int32.toNatClampNeg x1))
    onl v5
      (
        some (-1 : Int32))
      (fun a6 =>
        if kdx σ a6 = 11 then
        some (I a6 0)
        else none)
    else none
    else none
    else none
theorem kX11_form {G : Gx} {l : Launch} {σ : Shp} {I : Nat → Nat → Int32} {J : Nat → Nat → Int64} {D : Nat → Nat → UInt64} {R : Nat → Nat → Option Nat} {t : Nat} {x1 : Int32} {r9 : Int32} (h : fX11_form σ I R t x1 = some r9) : Con G l yX11_form cX11_form 3 (some .int) 1 20 [vR (some t), vI x1] (σ, I, J, D, R) (σ, I, J, D, R) (some (vI r9)) := by
  unfold fX11_form at h
  refine Con.mk (by decide +kernel) rfl (Nat.le_of_ble_eq_true rfl) ?_
  show WX11_form G l σ (σ, I, J, D, R) (some (vI r9)) (σ, I, J, D, R) 0 _ []
  refine r_iload_n (pc := 0) dX11_form_0 rfl 1 rfl ?_
  refine r_callS1 (pc := 1) (av := [vI x1]) (S := []) dX11_form_1 (kX11_isBin rfl) mkX11_76 mwX11_isBin rfl ⟨Nat.le_of_ble_eq_true rfl, Nat.le_of_ble_eq_true rfl⟩ (Nat.le_of_ble_eq_true rfl) ⟨Nat.le_refl _, Nat.le_refl _⟩ (fun b => b) ?_
  refine r_ifne (pc := 4) (tgt := 10) dX11_form_4 rfl (fun c => ?_) (fun c => ?_)
  · have h := ie h c
    refine r_aload_n (pc := 10) dX11_form_10 rfl 0 rfl ?_
    obtain ⟨g1, h⟩ := gd h
    obtain ⟨a2, ha2, h⟩ := ob h
    refine r_getS (pc := 11) dX11_form_11 fgX11_20 rfl g1 ha2 ?_
    refine r_iload_n (pc := 14) dX11_form_14 rfl 1 rfl ?_
    obtain ⟨g3, h⟩ := gd h
    obtain ⟨g4, h⟩ := gd h
    refine r_aaload (pc := 15) dX11_form_15 g3 (by decide) g4 ?_
    refine r_astore_n (pc := 16) (L' := [(2, vR (R a2 (Int32.toNatClampNeg x1))), (0, vR (some t)), (1, vI x1)]) dX11_form_16 rfl (by decide) rfl ?_
    refine r_aload_n (pc := 17) dX11_form_17 rfl 0 rfl ?_
    rcases onl_c h with ⟨ea6, h⟩ | ⟨a6, ha6, h⟩
    · refine r_ref0n ea6 ?_
      refine r_ifnonnull_n (pc := 18) dX11_form_18 ?_
      refine r_iconst (pc := 21) dX11_form_21 kc_iconst_m1 ?_
      refine r_goto (pc := 22) (tgt := 29) dX11_form_22 rfl ?_
      cases h
      exact r_iret dX11_form_29
    · refine r_ref0 ha6 ?_
      refine r_ifnonnull_s (pc := 18) (tgt := 25) dX11_form_18 rfl ?_
      refine r_aload_n (pc := 25) dX11_form_25 rfl 0 rfl ?_
      refine r_ref0 ha6 ?_
      obtain ⟨g7, h⟩ := gd h
      refine r_getI (pc := 26) dX11_form_26 fgX11_113 rfl g7 ?_
      cases h
      exact r_iret dX11_form_29
  · have h := it h c
    refine r_bipush (pc := 7) dX11_form_7 kc_bipush_m2 ?_
    cases h
    exact r_iret dX11_form_9
abbrev WX11_isForm (G : Gx) (l : Launch) (σ0 : Shp) (X1 : Stt) (rv : Option SV) : Stt → Nat → List (Nat × SV) → List SV → Prop := Wm G l yX11_isForm cX11_isForm 1 (some .boolean) (fun _ => True) (rmx 0 0 σ0 X1.1) σ0 (Qmx G σ0 X1 rv)
def fX11_isForm  (x0 : Int32) : (Int32) :=
  if x0 < 0 then
    (0 : Int32)
  else
    if (17 : Int32) < x0 then
      (0 : Int32)
    else
      (1 : Int32)
theorem zX11_isForm  (x0 : Int32) : fX11_isForm x0 = 0 ∨ fX11_isForm x0 = 1 := by
  unfold fX11_isForm
  repeat' (first | refine itz ?_ ?_ | exact Or.inl rfl | exact Or.inr rfl)
theorem kX11_isForm {G : Gx} {l : Launch} {σ : Shp} {I : Nat → Nat → Int32} {J : Nat → Nat → Int64} {D : Nat → Nat → UInt64} {R : Nat → Nat → Option Nat} {x0 : Int32} {r9 : Int32} (h : fX11_isForm x0 = r9) : Con G l yX11_isForm cX11_isForm 1 (some .boolean) 0 0 [vI x0] (σ, I, J, D, R) (σ, I, J, D, R) (some (vI r9)) := by
  unfold fX11_isForm at h
  refine Con.mk (by decide +kernel) rfl (Nat.le_of_ble_eq_true rfl) ?_
  show WX11_isForm G l σ (σ, I, J, D, R) (some (vI r9)) (σ, I, J, D, R) 0 _ []
  refine r_iload_n (pc := 0) dX11_isForm_0 rfl 0 rfl ?_
  refine r_if_lt (pc := 1) (tgt := 14) dX11_isForm_1 rfl (fun c => ?_) (fun c => ?_)
  · have h := it h c
    refine r_iconst (pc := 14) dX11_isForm_14 kc_iconst_0 ?_
    subst h
    exact r_zret dX11_isForm_15 (Or.inl rfl)
  · have h := ie h c
    refine r_iload_n (pc := 4) dX11_isForm_4 rfl 0 rfl ?_
    refine r_bipush (pc := 5) dX11_isForm_5 kc_bipush_17 ?_
    refine r_icmp_gt (pc := 7) (tgt := 14) dX11_isForm_7 rfl (fun c => ?_) (fun c => ?_)
    · have h := it h c
      refine r_iconst (pc := 14) dX11_isForm_14 kc_iconst_0 ?_
      subst h
      exact r_zret dX11_isForm_15 (Or.inl rfl)
    · have h := ie h c
      refine r_iconst (pc := 10) dX11_isForm_10 kc_iconst_1 ?_
      refine r_goto (pc := 11) (tgt := 15) dX11_isForm_11 rfl ?_
      subst h
      exact r_zret dX11_isForm_15 (Or.inr rfl)
abbrev WX11_isTrayForm (G : Gx) (l : Launch) (σ0 : Shp) (X1 : Stt) (rv : Option SV) : Stt → Nat → List (Nat × SV) → List SV → Prop := Wm G l yX11_isTrayForm cX11_isTrayForm 1 (some .boolean) (fun _ => True) (rmx 0 0 σ0 X1.1) σ0 (Qmx G σ0 X1 rv)
def fX11_isTrayForm  (x0 : Int32) : (Int32) :=
  if x0 < (12 : Int32) then
    (0 : Int32)
  else
    if (15 : Int32) < x0 then
      (0 : Int32)
    else
      (1 : Int32)
theorem zX11_isTrayForm  (x0 : Int32) : fX11_isTrayForm x0 = 0 ∨ fX11_isTrayForm x0 = 1 := by
  unfold fX11_isTrayForm
  repeat' (first | refine itz ?_ ?_ | exact Or.inl rfl | exact Or.inr rfl)
theorem kX11_isTrayForm {G : Gx} {l : Launch} {σ : Shp} {I : Nat → Nat → Int32} {J : Nat → Nat → Int64} {D : Nat → Nat → UInt64} {R : Nat → Nat → Option Nat} {x0 : Int32} {r9 : Int32} (h : fX11_isTrayForm x0 = r9) : Con G l yX11_isTrayForm cX11_isTrayForm 1 (some .boolean) 0 0 [vI x0] (σ, I, J, D, R) (σ, I, J, D, R) (some (vI r9)) := by
  unfold fX11_isTrayForm at h
  refine Con.mk (by decide +kernel) rfl (Nat.le_of_ble_eq_true rfl) ?_
  show WX11_isTrayForm G l σ (σ, I, J, D, R) (some (vI r9)) (σ, I, J, D, R) 0 _ []
  refine r_iload_n (pc := 0) dX11_isTrayForm_0 rfl 0 rfl ?_
  refine r_bipush (pc := 1) dX11_isTrayForm_1 kc_bipush_12 ?_
  refine r_icmp_lt (pc := 3) (tgt := 16) dX11_isTrayForm_3 rfl (fun c => ?_) (fun c => ?_)
  · have h := it h c
    refine r_iconst (pc := 16) dX11_isTrayForm_16 kc_iconst_0 ?_
    subst h
    exact r_zret dX11_isTrayForm_17 (Or.inl rfl)
  · have h := ie h c
    refine r_iload_n (pc := 6) dX11_isTrayForm_6 rfl 0 rfl ?_
    refine r_bipush (pc := 7) dX11_isTrayForm_7 kc_bipush_15 ?_
    refine r_icmp_gt (pc := 9) (tgt := 16) dX11_isTrayForm_9 rfl (fun c => ?_) (fun c => ?_)
    · have h := it h c
      refine r_iconst (pc := 16) dX11_isTrayForm_16 kc_iconst_0 ?_
      subst h
      exact r_zret dX11_isTrayForm_17 (Or.inl rfl)
    · have h := ie h c
      refine r_iconst (pc := 12) dX11_isTrayForm_12 kc_iconst_1 ?_
      refine r_goto (pc := 13) (tgt := 17) dX11_isTrayForm_13 rfl ?_
      subst h
      exact r_zret dX11_isTrayForm_17 (Or.inr rfl)
abbrev WX11_trayTakes (G : Gx) (l : Launch) (σ0 : Shp) (X1 : Stt) (rv : Option SV) : Stt → Nat → List (Nat × SV) → List SV → Prop := Wm G l yX11_trayTakes cX11_trayTakes 2 (some .boolean) (fun _ => True) (rmx 1 20 σ0 X1.1) σ0 (Qmx G σ0 X1 rv)
def fX11_trayTakes  (x0 : Int32) (x1 : Int32) : (Int32) :=
  if x0 = (12 : Int32) then
    if (3 : Int32) < x1 then
      (0 : Int32)
    else
      (1 : Int32)
  else
  if x0 = (13 : Int32) then
    if x1 = (1 : Int32) then
      (1 : Int32)
    else
      if x1 = (2 : Int32) then
        (1 : Int32)
      else
        (0 : Int32)
  else
  if x0 = (14 : Int32) then
    if x1 = 0 then
      (1 : Int32)
    else
      if x1 = (3 : Int32) then
        (1 : Int32)
      else
        (0 : Int32)
  else
  if x0 = (15 : Int32) then
    (fX11_thirsts x1)
  else
  (0 : Int32)
theorem zX11_trayTakes  (x0 : Int32) (x1 : Int32) : fX11_trayTakes x0 x1 = 0 ∨ fX11_trayTakes x0 x1 = 1 := by
  unfold fX11_trayTakes
  repeat' (first | refine itz ?_ ?_ | exact Or.inl rfl | exact Or.inr rfl | exact zX11_thirsts _)
theorem kX11_trayTakes {G : Gx} {l : Launch} {σ : Shp} {I : Nat → Nat → Int32} {J : Nat → Nat → Int64} {D : Nat → Nat → UInt64} {R : Nat → Nat → Option Nat} {x0 : Int32} {x1 : Int32} {r9 : Int32} (h : fX11_trayTakes x0 x1 = r9) : Con G l yX11_trayTakes cX11_trayTakes 2 (some .boolean) 1 20 [vI x0, vI x1] (σ, I, J, D, R) (σ, I, J, D, R) (some (vI r9)) := by
  unfold fX11_trayTakes at h
  refine Con.mk (by decide +kernel) rfl (Nat.le_of_ble_eq_true rfl) ?_
  show WX11_trayTakes G l σ (σ, I, J, D, R) (some (vI r9)) (σ, I, J, D, R) 0 _ []
  refine r_iload_n (pc := 0) dX11_trayTakes_0 rfl 0 rfl ?_
  rcases itc h with ⟨c1, h⟩ | ⟨c1, h⟩
  · refine r_tsIn (x := x0) (pc := 1) (tgt := 32) dX11_trayTakes_1 (by rw [c1]; decide) (by rw [c1]; decide) (by rw [c1]; rfl) rfl ?_
    refine r_iload_n (pc := 32) dX11_trayTakes_32 rfl 1 rfl ?_
    refine r_iconst (pc := 33) dX11_trayTakes_33 kc_iconst_3 ?_
    refine r_icmp_gt (pc := 34) (tgt := 41) dX11_trayTakes_34 rfl (fun c => ?_) (fun c => ?_)
    · have h := it h c
      refine r_iconst (pc := 41) dX11_trayTakes_41 kc_iconst_0 ?_
      subst h
      exact r_zret dX11_trayTakes_42 (Or.inl rfl)
    · have h := ie h c
      refine r_iconst (pc := 37) dX11_trayTakes_37 kc_iconst_1 ?_
      refine r_goto (pc := 38) (tgt := 42) dX11_trayTakes_38 rfl ?_
      subst h
      exact r_zret dX11_trayTakes_42 (Or.inr rfl)
  · rcases itc h with ⟨c2, h⟩ | ⟨c2, h⟩
    · refine r_tsIn (x := x0) (pc := 1) (tgt := 43) dX11_trayTakes_1 (by rw [c2]; decide) (by rw [c2]; decide) (by rw [c2]; rfl) rfl ?_
      refine r_iload_n (pc := 43) dX11_trayTakes_43 rfl 1 rfl ?_
      refine r_iconst (pc := 44) dX11_trayTakes_44 kc_iconst_1 ?_
      refine r_icmp_eq (pc := 45) (tgt := 53) dX11_trayTakes_45 rfl (fun c => ?_) (fun c => ?_)
      · have h := it h c
        refine r_iconst (pc := 53) dX11_trayTakes_53 kc_iconst_1 ?_
        refine r_goto (pc := 54) (tgt := 58) dX11_trayTakes_54 rfl ?_
        subst h
        exact r_zret dX11_trayTakes_58 (Or.inr rfl)
      · have h := ie h c
        refine r_iload_n (pc := 48) dX11_trayTakes_48 rfl 1 rfl ?_
        refine r_iconst (pc := 49) dX11_trayTakes_49 kc_iconst_2 ?_
        refine r_icmp_ne (pc := 50) (tgt := 57) dX11_trayTakes_50 rfl (fun c => ?_) (fun c => ?_)
        · have h := ie h c
          refine r_iconst (pc := 57) dX11_trayTakes_57 kc_iconst_0 ?_
          subst h
          exact r_zret dX11_trayTakes_58 (Or.inl rfl)
        · have h := it h c
          refine r_iconst (pc := 53) dX11_trayTakes_53 kc_iconst_1 ?_
          refine r_goto (pc := 54) (tgt := 58) dX11_trayTakes_54 rfl ?_
          subst h
          exact r_zret dX11_trayTakes_58 (Or.inr rfl)
    · rcases itc h with ⟨c3, h⟩ | ⟨c3, h⟩
      · refine r_tsIn (x := x0) (pc := 1) (tgt := 59) dX11_trayTakes_1 (by rw [c3]; decide) (by rw [c3]; decide) (by rw [c3]; rfl) rfl ?_
        refine r_iload_n (pc := 59) dX11_trayTakes_59 rfl 1 rfl ?_
        refine r_if_eq (pc := 60) (tgt := 68) dX11_trayTakes_60 rfl (fun c => ?_) (fun c => ?_)
        · have h := it h c
          refine r_iconst (pc := 68) dX11_trayTakes_68 kc_iconst_1 ?_
          refine r_goto (pc := 69) (tgt := 73) dX11_trayTakes_69 rfl ?_
          subst h
          exact r_zret dX11_trayTakes_73 (Or.inr rfl)
        · have h := ie h c
          refine r_iload_n (pc := 63) dX11_trayTakes_63 rfl 1 rfl ?_
          refine r_iconst (pc := 64) dX11_trayTakes_64 kc_iconst_3 ?_
          refine r_icmp_ne (pc := 65) (tgt := 72) dX11_trayTakes_65 rfl (fun c => ?_) (fun c => ?_)
          · have h := ie h c
            refine r_iconst (pc := 72) dX11_trayTakes_72 kc_iconst_0 ?_
            subst h
            exact r_zret dX11_trayTakes_73 (Or.inl rfl)
          · have h := it h c
            refine r_iconst (pc := 68) dX11_trayTakes_68 kc_iconst_1 ?_
            refine r_goto (pc := 69) (tgt := 73) dX11_trayTakes_69 rfl ?_
            subst h
            exact r_zret dX11_trayTakes_73 (Or.inr rfl)
      · rcases itc h with ⟨c4, h⟩ | ⟨c4, h⟩
        · refine r_tsIn (x := x0) (pc := 1) (tgt := 74) dX11_trayTakes_1 (by rw [c4]; decide) (by rw [c4]; decide) (by rw [c4]; rfl) rfl ?_
          refine r_iload_n (pc := 74) dX11_trayTakes_74 rfl 1 rfl ?_
          refine r_callS1 (pc := 75) (av := [vI x1]) (S := []) dX11_trayTakes_75 (kX11_thirsts rfl) mkX11_515 mwX11_thirsts rfl ⟨Nat.le_of_ble_eq_true rfl, Nat.le_of_ble_eq_true rfl⟩ (Nat.le_of_ble_eq_true rfl) ⟨Nat.le_refl _, Nat.le_refl _⟩ (fun b => b) ?_
          subst h
          exact r_zret dX11_trayTakes_78 (zX11_thirsts x1)
        · refine r_tsOut (x := x0) (pc := 1) (tgt := 79) dX11_trayTakes_1 (by have ec1 := i32n c1 (k := 12) rfl; have ec2 := i32n c2 (k := 13) rfl; have ec3 := i32n c3 (k := 14) rfl; have ec4 := i32n c4 (k := 15) rfl; omega) rfl ?_
          refine r_iconst (pc := 79) dX11_trayTakes_79 kc_iconst_0 ?_
          subst h
          exact r_zret dX11_trayTakes_80 (Or.inl rfl)
abbrev WX11_is (G : Gx) (l : Launch) (σ0 : Shp) (X1 : Stt) (rv : Option SV) : Stt → Nat → List (Nat × SV) → List SV → Prop := Wm G l yX11_is cX11_is 4 (some .int) (fun _ => True) (rmx 2 41 σ0 X1.1) σ0 (Qmx G σ0 X1 rv)
def fX11_is (σ : Shp) (I : Nat → Nat → Int32) (R : Nat → Nat → Option Nat) (t : Nat) (x1 : Int32) (x2 : Int32) : Option ((Int32)) :=
  if (fX11_isBin x1) = 0 then
    some (-2 : Int32)
  else
    if (fX11_isForm x2) = 0 then
      some (-2 : Int32)
    else
      if kdx σ t = 12 then
      ((R t 1) : Option Nat).bind fun a2 =>
      if kdx σ a2 = 26 then
      if ¬ (x1 < 0 ∨ lnx σ a2 ≤ Int32.toNatClampNeg x1) then
      let v5 := (R a2 (Int32.toNatClampNeg x1))
      onl v5
        (
          some (0 : Int32))
        (fun a6 =>
          if kdx σ a6 = 11 then
          if (I a6 0) = (16 : Int32) then
            if (fX11_isTrayForm x2) = 0 then
              if (I a6 0) = x2 then
                some (1 : Int32)
              else
                some (0 : Int32)
            else
              if (fX11_trayTakes x2 (I a6 3)) = 0 then
                some (0 : Int32)
              else
                some (1 : Int32)
          else
            if (I a6 0) = x2 then
              some (1 : Int32)
            else
              some (0 : Int32)
          else none)
      else none
      else none
      else none
theorem kX11_is {G : Gx} {l : Launch} {σ : Shp} {I : Nat → Nat → Int32} {J : Nat → Nat → Int64} {D : Nat → Nat → UInt64} {R : Nat → Nat → Option Nat} {t : Nat} {x1 : Int32} {x2 : Int32} {r9 : Int32} (h : fX11_is σ I R t x1 x2 = some r9) : Con G l yX11_is cX11_is 4 (some .int) 2 41 [vR (some t), vI x1, vI x2] (σ, I, J, D, R) (σ, I, J, D, R) (some (vI r9)) := by
  unfold fX11_is at h
  refine Con.mk (by decide +kernel) rfl (Nat.le_of_ble_eq_true rfl) ?_
  show WX11_is G l σ (σ, I, J, D, R) (some (vI r9)) (σ, I, J, D, R) 0 _ []
  refine r_iload_n (pc := 0) dX11_is_0 rfl 1 rfl ?_
  refine r_callS1 (pc := 1) (av := [vI x1]) (S := []) dX11_is_1 (kX11_isBin rfl) mkX11_76 mwX11_isBin rfl ⟨Nat.le_of_ble_eq_true rfl, Nat.le_of_ble_eq_true rfl⟩ (Nat.le_of_ble_eq_true rfl) ⟨Nat.le_refl _, Nat.le_refl _⟩ (fun b => b) ?_
  refine r_if_eq (pc := 4) (tgt := 14) dX11_is_4 rfl (fun c => ?_) (fun c => ?_)
  · have h := it h c
    refine r_bipush (pc := 14) dX11_is_14 kc_bipush_m2 ?_
    cases h
    exact r_iret dX11_is_16
  · have h := ie h c
    refine r_iload_n (pc := 7) dX11_is_7 rfl 2 rfl ?_
    refine r_callS1 (pc := 8) (av := [vI x2]) (S := []) dX11_is_8 (kX11_isForm rfl) mkX11_117 mwX11_isForm rfl ⟨Nat.le_of_ble_eq_true rfl, Nat.le_of_ble_eq_true rfl⟩ (Nat.le_of_ble_eq_true rfl) ⟨Nat.le_refl _, Nat.le_refl _⟩ (fun b => b) ?_
    refine r_ifne (pc := 11) (tgt := 17) dX11_is_11 rfl (fun c => ?_) (fun c => ?_)
    · have h := ie h c
      refine r_aload_n (pc := 17) dX11_is_17 rfl 0 rfl ?_
      obtain ⟨g1, h⟩ := gd h
      obtain ⟨a2, ha2, h⟩ := ob h
      refine r_getS (pc := 18) dX11_is_18 fgX11_20 rfl g1 ha2 ?_
      refine r_iload_n (pc := 21) dX11_is_21 rfl 1 rfl ?_
      obtain ⟨g3, h⟩ := gd h
      obtain ⟨g4, h⟩ := gd h
      refine r_aaload (pc := 22) dX11_is_22 g3 (by decide) g4 ?_
      refine r_astore_n (pc := 23) (L' := [(3, vR (R a2 (Int32.toNatClampNeg x1))), (0, vR (some t)), (1, vI x1), (2, vI x2)]) dX11_is_23 rfl (by decide) rfl ?_
      refine r_aload_n (pc := 24) dX11_is_24 rfl 0 rfl ?_
      rcases onl_c h with ⟨ea6, h⟩ | ⟨a6, ha6, h⟩
      · refine r_ref0n ea6 ?_
        refine r_ifnonnull_n (pc := 25) dX11_is_25 ?_
        refine r_iconst (pc := 28) dX11_is_28 kc_iconst_0 ?_
        cases h
        exact r_iret dX11_is_29
      · refine r_ref0 ha6 ?_
        refine r_ifnonnull_s (pc := 25) (tgt := 30) dX11_is_25 rfl ?_
        refine r_aload_n (pc := 30) dX11_is_30 rfl 0 rfl ?_
        refine r_ref0 ha6 ?_
        obtain ⟨g7, h⟩ := gd h
        refine r_getI (pc := 31) dX11_is_31 fgX11_113 rfl g7 ?_
        refine r_bipush (pc := 34) dX11_is_34 kc_bipush_16 ?_
        refine r_icmp_ne (pc := 36) (tgt := 63) dX11_is_36 rfl (fun c => ?_) (fun c => ?_)
        · have h := ie h c
          refine r_aload_n (pc := 63) dX11_is_63 rfl 0 rfl ?_
          refine r_ref0 ha6 ?_
          refine r_getI (pc := 64) dX11_is_64 fgX11_113 rfl g7 ?_
          refine r_iload_n (pc := 67) dX11_is_67 rfl 3 rfl ?_
          refine r_icmp_ne (pc := 68) (tgt := 75) dX11_is_68 rfl (fun c => ?_) (fun c => ?_)
          · have h := ie h c
            refine r_iconst (pc := 75) dX11_is_75 kc_iconst_0 ?_
            cases h
            exact r_iret dX11_is_76
          · have h := it h c
            refine r_iconst (pc := 71) dX11_is_71 kc_iconst_1 ?_
            refine r_goto (pc := 72) (tgt := 76) dX11_is_72 rfl ?_
            cases h
            exact r_iret dX11_is_76
        · have h := it h c
          refine r_iload_n (pc := 39) dX11_is_39 rfl 3 rfl ?_
          refine r_callS1 (pc := 40) (av := [vI x2]) (S := []) dX11_is_40 (kX11_isTrayForm rfl) mkX11_120 mwX11_isTrayForm rfl ⟨Nat.le_of_ble_eq_true rfl, Nat.le_of_ble_eq_true rfl⟩ (Nat.le_of_ble_eq_true rfl) ⟨Nat.le_refl _, Nat.le_refl _⟩ (fun b => b) ?_
          refine r_if_eq (pc := 43) (tgt := 63) dX11_is_43 rfl (fun c => ?_) (fun c => ?_)
          · have h := it h c
            refine r_aload_n (pc := 63) dX11_is_63 rfl 0 rfl ?_
            refine r_ref0 ha6 ?_
            refine r_getI (pc := 64) dX11_is_64 fgX11_113 rfl g7 ?_
            refine r_iload_n (pc := 67) dX11_is_67 rfl 3 rfl ?_
            refine r_icmp_ne (pc := 68) (tgt := 75) dX11_is_68 rfl (fun c => ?_) (fun c => ?_)
            · have h := ie h c
              refine r_iconst (pc := 75) dX11_is_75 kc_iconst_0 ?_
              cases h
              exact r_iret dX11_is_76
            · have h := it h c
              refine r_iconst (pc := 71) dX11_is_71 kc_iconst_1 ?_
              refine r_goto (pc := 72) (tgt := 76) dX11_is_72 rfl ?_
              cases h
              exact r_iret dX11_is_76
          · have h := ie h c
            refine r_iload_n (pc := 46) dX11_is_46 rfl 3 rfl ?_
            refine r_aload_n (pc := 47) dX11_is_47 rfl 0 rfl ?_
            refine r_ref0 ha6 ?_
            refine r_getI (pc := 48) dX11_is_48 fgX11_123 rfl g7 ?_
            refine r_callS1 (pc := 51) (av := [vI x2, vI (I a6 3)]) (S := []) dX11_is_51 (kX11_trayTakes rfl) mkX11_126 mwX11_trayTakes rfl ⟨Nat.le_of_ble_eq_true rfl, Nat.le_of_ble_eq_true rfl⟩ (Nat.le_of_ble_eq_true rfl) ⟨Nat.le_refl _, Nat.le_refl _⟩ (fun b => b) ?_
            refine r_if_eq (pc := 54) (tgt := 61) dX11_is_54 rfl (fun c => ?_) (fun c => ?_)
            · have h := it h c
              refine r_iconst (pc := 61) dX11_is_61 kc_iconst_0 ?_
              cases h
              exact r_iret dX11_is_62
            · have h := ie h c
              refine r_iconst (pc := 57) dX11_is_57 kc_iconst_1 ?_
              refine r_goto (pc := 58) (tgt := 62) dX11_is_58 rfl ?_
              cases h
              exact r_iret dX11_is_62
    · have h := it h c
      refine r_bipush (pc := 14) dX11_is_14 kc_bipush_m2 ?_
      cases h
      exact r_iret dX11_is_16
abbrev WX11_get (G : Gx) (l : Launch) (σ0 : Shp) (X1 : Stt) (rv : Option SV) : Stt → Nat → List (Nat × SV) → List SV → Prop := Wm G l yX11_get cX11_get 6 (some .long) (fun _ => True) (rmx 3 65 σ0 X1.1) σ0 (Qmx G σ0 X1 rv)
def fX11_get (σ : Shp) (I : Nat → Nat → Int32) (J : Nat → Nat → Int64) (R : Nat → Nat → Option Nat) (t : Nat) (x1 : Int32) (x2 : Int32) (x3 : Int32) : Option ((Nat → Nat → Int32) × (Int64)) :=
  if (fX11_isBin x1) = 0 then
    some (I, (0 : Int64))
  else
    if (fX11_isLane x2) = 0 then
      some (I, (0 : Int64))
    else
      if kdx σ t = 12 then
      ((R t 1) : Option Nat).bind fun a2 =>
      if kdx σ a2 = 26 then
      if ¬ (x1 < 0 ∨ lnx σ a2 ≤ Int32.toNatClampNeg x1) then
      let v5 := (R a2 (Int32.toNatClampNeg x1))
      (fX11_cellFault σ I R v5 x2 x3).bind fun r6 =>
      if r6 = 0 then
        onl v5
          (
            (fX11_fail σ I t r6).bind fun (I12, r13) =>
            some (I12, (0 : Int64)))
          (fun a11 =>
            if kdx σ a11 = 11 then
            ((R a11 1) : Option Nat).bind fun a16 =>
            if kdx σ a16 = 21 then
            if ¬ (x3 < 0 ∨ lnx σ a16 ≤ Int32.toNatClampNeg x3) then
            some (I, (J a16 (Int32.toNatClampNeg x3)))
            else none
            else none
            else none)
      else
        (fX11_fail σ I t r6).bind fun (I8, r9) =>
        some (I8, (0 : Int64))
      else none
      else none
      else none
theorem kX11_get {G : Gx} {l : Launch} {σ : Shp} {I : Nat → Nat → Int32} {J : Nat → Nat → Int64} {D : Nat → Nat → UInt64} {R : Nat → Nat → Option Nat} {t : Nat} {x1 : Int32} {x2 : Int32} {x3 : Int32} {I9 : Nat → Nat → Int32} {r9 : Int64} (h : fX11_get σ I J R t x1 x2 x3 = some (I9, r9)) : Con G l yX11_get cX11_get 6 (some .long) 3 65 [vR (some t), vI x1, vI x2, vI x3] (σ, I, J, D, R) (σ, I9, J, D, R) (some (vL r9)) := by
  unfold fX11_get at h
  refine Con.mk (by decide +kernel) rfl (Nat.le_of_ble_eq_true rfl) ?_
  show WX11_get G l σ (σ, I9, J, D, R) (some (vL r9)) (σ, I, J, D, R) 0 _ []
  refine r_iload_n (pc := 0) dX11_get_0 rfl 1 rfl ?_
  refine r_callS1 (pc := 1) (av := [vI x1]) (S := []) dX11_get_1 (kX11_isBin rfl) mkX11_76 mwX11_isBin rfl ⟨Nat.le_of_ble_eq_true rfl, Nat.le_of_ble_eq_true rfl⟩ (Nat.le_of_ble_eq_true rfl) ⟨Nat.le_refl _, Nat.le_refl _⟩ (fun b => b) ?_
  refine r_if_eq (pc := 4) (tgt := 14) dX11_get_4 rfl (fun c => ?_) (fun c => ?_)
  · have h := it h c
    refine r_lconst (pc := 14) dX11_get_14 kc_lconst_0 ?_
    cases h
    exact r_lret dX11_get_15
  · have h := ie h c
    refine r_iload_n (pc := 7) dX11_get_7 rfl 2 rfl ?_
    refine r_callS1 (pc := 8) (av := [vI x2]) (S := []) dX11_get_8 (kX11_isLane rfl) mkX11_80 mwX11_isLane rfl ⟨Nat.le_of_ble_eq_true rfl, Nat.le_of_ble_eq_true rfl⟩ (Nat.le_of_ble_eq_true rfl) ⟨Nat.le_refl _, Nat.le_refl _⟩ (fun b => b) ?_
    refine r_ifne (pc := 11) (tgt := 16) dX11_get_11 rfl (fun c => ?_) (fun c => ?_)
    · have h := ie h c
      refine r_aload_n (pc := 16) dX11_get_16 rfl 0 rfl ?_
      obtain ⟨g1, h⟩ := gd h
      obtain ⟨a2, ha2, h⟩ := ob h
      refine r_getS (pc := 17) dX11_get_17 fgX11_20 rfl g1 ha2 ?_
      refine r_iload_n (pc := 20) dX11_get_20 rfl 1 rfl ?_
      obtain ⟨g3, h⟩ := gd h
      obtain ⟨g4, h⟩ := gd h
      refine r_aaload (pc := 21) dX11_get_21 g3 (by decide) g4 ?_
      refine r_astore (pc := 22) (L' := [(4, vR (R a2 (Int32.toNatClampNeg x1))), (0, vR (some t)), (1, vI x1), (2, vI x2), (3, vI x3)]) dX11_get_22 (by decide) rfl ?_
      refine r_aload (pc := 24) dX11_get_24 0 rfl ?_
      refine r_iload_n (pc := 26) dX11_get_26 rfl 3 rfl ?_
      refine r_iload_n (pc := 27) dX11_get_27 rfl 4 rfl ?_
      obtain ⟨r6, hc7, h⟩ := ob h
      refine r_callS1 (pc := 28) (av := [vR (R a2 (Int32.toNatClampNeg x1)), vI x2, vI x3]) (S := []) dX11_get_28 (kX11_cellFault hc7) mkX11_130 mwX11_cellFault rfl ⟨Nat.le_of_ble_eq_true rfl, Nat.le_of_ble_eq_true rfl⟩ (Nat.le_of_ble_eq_true rfl) ⟨Nat.le_refl _, Nat.le_refl _⟩ (fun b => b) ?_
      refine r_istore (pc := 31) (L' := [(5, vI r6), (4, vR (R a2 (Int32.toNatClampNeg x1))), (0, vR (some t)), (1, vI x1), (2, vI x2), (3, vI x3)]) dX11_get_31 (by decide) rfl ?_
      refine r_iload (pc := 33) dX11_get_33 0 rfl ?_
      refine r_ifne (pc := 35) (tgt := 43) dX11_get_35 rfl (fun c => ?_) (fun c => ?_)
      · have h := ie h c
        refine r_aload_n (pc := 43) dX11_get_43 rfl 2 rfl ?_
        refine r_iload (pc := 44) dX11_get_44 0 rfl ?_
        obtain ⟨⟨I8, r9⟩, hc10, h⟩ := ob h
        refine r_callV1 (pc := 46) (av := [vI r6]) (S := []) dX11_get_46 (kX11_fail hc10) g1 rfl mkX11_87 mwX11_fail rfl ⟨Nat.le_of_ble_eq_true rfl, Nat.le_of_ble_eq_true rfl⟩ (Nat.le_of_ble_eq_true rfl) ⟨Nat.le_refl _, Nat.le_refl _⟩ (fun b => b) ?_
        refine r_pop (pc := 49) dX11_get_49 rfl ?_
        refine r_lconst (pc := 50) dX11_get_50 kc_lconst_0 ?_
        cases h
        exact r_lret dX11_get_51
      · have h := it h c
        refine r_aload (pc := 38) dX11_get_38 1 rfl ?_
        rcases onl_c h with ⟨ea11, h⟩ | ⟨a11, ha11, h⟩
        · refine r_ref0n ea11 ?_
          refine r_ifnonnull_n (pc := 40) dX11_get_40 ?_
          refine r_aload_n (pc := 43) dX11_get_43 rfl 2 rfl ?_
          refine r_iload (pc := 44) dX11_get_44 0 rfl ?_
          obtain ⟨⟨I12, r13⟩, hc14, h⟩ := ob h
          refine r_callV1 (pc := 46) (av := [vI r6]) (S := []) dX11_get_46 (kX11_fail hc14) g1 rfl mkX11_87 mwX11_fail rfl ⟨Nat.le_of_ble_eq_true rfl, Nat.le_of_ble_eq_true rfl⟩ (Nat.le_of_ble_eq_true rfl) ⟨Nat.le_refl _, Nat.le_refl _⟩ (fun b => b) ?_
          refine r_pop (pc := 49) dX11_get_49 rfl ?_
          refine r_lconst (pc := 50) dX11_get_50 kc_lconst_0 ?_
          cases h
          exact r_lret dX11_get_51
        · refine r_ref0 ha11 ?_
          refine r_ifnonnull_s (pc := 40) (tgt := 52) dX11_get_40 rfl ?_
          refine r_aload (pc := 52) dX11_get_52 1 rfl ?_
          refine r_ref0 ha11 ?_
          obtain ⟨g15, h⟩ := gd h
          obtain ⟨a16, ha16, h⟩ := ob h
          refine r_getS (pc := 54) dX11_get_54 fgX11_134 rfl g15 ha16 ?_
          refine r_iload_n (pc := 57) dX11_get_57 rfl 5 rfl ?_
          obtain ⟨g17, h⟩ := gd h
          obtain ⟨g18, h⟩ := gd h
          refine r_laload (pc := 58) dX11_get_58 g17 g18 ?_
          cases h
          exact r_lret dX11_get_59
    · have h := it h c
      refine r_lconst (pc := 14) dX11_get_14 kc_lconst_0 ?_
      cases h
      exact r_lret dX11_get_15
abbrev WX11_put (G : Gx) (l : Launch) (σ0 : Shp) (X1 : Stt) (rv : Option SV) : Stt → Nat → List (Nat × SV) → List SV → Prop := Wm G l yX11_put cX11_put 8 (some .int) (fun _ => True) (rmx 3 65 σ0 X1.1) σ0 (Qmx G σ0 X1 rv)
def fX11_put (σ : Shp) (I : Nat → Nat → Int32) (J : Nat → Nat → Int64) (R : Nat → Nat → Option Nat) (t : Nat) (x1 : Int32) (x2 : Int32) (x3 : Int32) (x4 : Int64) : Option ((Nat → Nat → Int32) × (Nat → Nat → Int64) × (Int32)) :=
  if (fX11_isBin x1) = 0 then
    some (I, J, (-2 : Int32))
  else
    if (fX11_isLane x2) = 0 then
      some (I, J, (-2 : Int32))
    else
      if kdx σ t = 12 then
      ((R t 1) : Option Nat).bind fun a2 =>
      if kdx σ a2 = 26 then
      if ¬ (x1 < 0 ∨ lnx σ a2 ≤ Int32.toNatClampNeg x1) then
      let v5 := (R a2 (Int32.toNatClampNeg x1))
      (fX11_cellFault σ I R v5 x2 x3).bind fun r6 =>
      if r6 = 0 then
        onl v5
          (
            (fX11_fail σ I t r6).bind fun (I12, r13) =>
            some (I12, J, r13))
          (fun a11 =>
            if kdx σ a11 = 11 then
            ((R a11 1) : Option Nat).bind fun a16 =>
            if kdx σ a16 = 21 then
            if ¬ (x3 < 0 ∨ lnx σ a16 ≤ Int32.toNatClampNeg x3) then
            let J19 := u2 J a16 (Int32.toNatClampNeg x3) (fX11_cellOf x2 x4)
            some (I, J19, (1 : Int32))
            else none
            else none
            else none)
      else
        (fX11_fail σ I t r6).bind fun (I8, r9) =>
        some (I8, J, r9)
      else none
      else none
      else none
theorem kX11_put {G : Gx} {l : Launch} {σ : Shp} {I : Nat → Nat → Int32} {J : Nat → Nat → Int64} {D : Nat → Nat → UInt64} {R : Nat → Nat → Option Nat} {t : Nat} {x1 : Int32} {x2 : Int32} {x3 : Int32} {x4 : Int64} {I9 : Nat → Nat → Int32} {J9 : Nat → Nat → Int64} {r9 : Int32} (h : fX11_put σ I J R t x1 x2 x3 x4 = some (I9, J9, r9)) : Con G l yX11_put cX11_put 8 (some .int) 3 65 [vR (some t), vI x1, vI x2, vI x3, vL x4] (σ, I, J, D, R) (σ, I9, J9, D, R) (some (vI r9)) := by
  unfold fX11_put at h
  refine Con.mk (by decide +kernel) rfl (Nat.le_of_ble_eq_true rfl) ?_
  show WX11_put G l σ (σ, I9, J9, D, R) (some (vI r9)) (σ, I, J, D, R) 0 _ []
  refine r_iload_n (pc := 0) dX11_put_0 rfl 1 rfl ?_
  refine r_callS1 (pc := 1) (av := [vI x1]) (S := []) dX11_put_1 (kX11_isBin rfl) mkX11_76 mwX11_isBin rfl ⟨Nat.le_of_ble_eq_true rfl, Nat.le_of_ble_eq_true rfl⟩ (Nat.le_of_ble_eq_true rfl) ⟨Nat.le_refl _, Nat.le_refl _⟩ (fun b => b) ?_
  refine r_if_eq (pc := 4) (tgt := 14) dX11_put_4 rfl (fun c => ?_) (fun c => ?_)
  · have h := it h c
    refine r_bipush (pc := 14) dX11_put_14 kc_bipush_m2 ?_
    cases h
    exact r_iret dX11_put_16
  · have h := ie h c
    refine r_iload_n (pc := 7) dX11_put_7 rfl 2 rfl ?_
    refine r_callS1 (pc := 8) (av := [vI x2]) (S := []) dX11_put_8 (kX11_isLane rfl) mkX11_80 mwX11_isLane rfl ⟨Nat.le_of_ble_eq_true rfl, Nat.le_of_ble_eq_true rfl⟩ (Nat.le_of_ble_eq_true rfl) ⟨Nat.le_refl _, Nat.le_refl _⟩ (fun b => b) ?_
    refine r_ifne (pc := 11) (tgt := 17) dX11_put_11 rfl (fun c => ?_) (fun c => ?_)
    · have h := ie h c
      refine r_aload_n (pc := 17) dX11_put_17 rfl 0 rfl ?_
      obtain ⟨g1, h⟩ := gd h
      obtain ⟨a2, ha2, h⟩ := ob h
      refine r_getS (pc := 18) dX11_put_18 fgX11_20 rfl g1 ha2 ?_
      refine r_iload_n (pc := 21) dX11_put_21 rfl 1 rfl ?_
      obtain ⟨g3, h⟩ := gd h
      obtain ⟨g4, h⟩ := gd h
      refine r_aaload (pc := 22) dX11_put_22 g3 (by decide) g4 ?_
      refine r_astore (pc := 23) (L' := [(6, vR (R a2 (Int32.toNatClampNeg x1))), (0, vR (some t)), (1, vI x1), (2, vI x2), (3, vI x3), (4, vL x4)]) dX11_put_23 (by decide) rfl ?_
      refine r_aload (pc := 25) dX11_put_25 0 rfl ?_
      refine r_iload_n (pc := 27) dX11_put_27 rfl 3 rfl ?_
      refine r_iload_n (pc := 28) dX11_put_28 rfl 4 rfl ?_
      obtain ⟨r6, hc7, h⟩ := ob h
      refine r_callS1 (pc := 29) (av := [vR (R a2 (Int32.toNatClampNeg x1)), vI x2, vI x3]) (S := []) dX11_put_29 (kX11_cellFault hc7) mkX11_130 mwX11_cellFault rfl ⟨Nat.le_of_ble_eq_true rfl, Nat.le_of_ble_eq_true rfl⟩ (Nat.le_of_ble_eq_true rfl) ⟨Nat.le_refl _, Nat.le_refl _⟩ (fun b => b) ?_
      refine r_istore (pc := 32) (L' := [(7, vI r6), (6, vR (R a2 (Int32.toNatClampNeg x1))), (0, vR (some t)), (1, vI x1), (2, vI x2), (3, vI x3), (4, vL x4)]) dX11_put_32 (by decide) rfl ?_
      refine r_iload (pc := 34) dX11_put_34 0 rfl ?_
      refine r_ifne (pc := 36) (tgt := 44) dX11_put_36 rfl (fun c => ?_) (fun c => ?_)
      · have h := ie h c
        refine r_aload_n (pc := 44) dX11_put_44 rfl 2 rfl ?_
        refine r_iload (pc := 45) dX11_put_45 0 rfl ?_
        obtain ⟨⟨I8, r9⟩, hc10, h⟩ := ob h
        refine r_callV1 (pc := 47) (av := [vI r6]) (S := []) dX11_put_47 (kX11_fail hc10) g1 rfl mkX11_87 mwX11_fail rfl ⟨Nat.le_of_ble_eq_true rfl, Nat.le_of_ble_eq_true rfl⟩ (Nat.le_of_ble_eq_true rfl) ⟨Nat.le_refl _, Nat.le_refl _⟩ (fun b => b) ?_
        cases h
        exact r_iret dX11_put_50
      · have h := it h c
        refine r_aload (pc := 39) dX11_put_39 1 rfl ?_
        rcases onl_c h with ⟨ea11, h⟩ | ⟨a11, ha11, h⟩
        · refine r_ref0n ea11 ?_
          refine r_ifnonnull_n (pc := 41) dX11_put_41 ?_
          refine r_aload_n (pc := 44) dX11_put_44 rfl 2 rfl ?_
          refine r_iload (pc := 45) dX11_put_45 0 rfl ?_
          obtain ⟨⟨I12, r13⟩, hc14, h⟩ := ob h
          refine r_callV1 (pc := 47) (av := [vI r6]) (S := []) dX11_put_47 (kX11_fail hc14) g1 rfl mkX11_87 mwX11_fail rfl ⟨Nat.le_of_ble_eq_true rfl, Nat.le_of_ble_eq_true rfl⟩ (Nat.le_of_ble_eq_true rfl) ⟨Nat.le_refl _, Nat.le_refl _⟩ (fun b => b) ?_
          cases h
          exact r_iret dX11_put_50
        · refine r_ref0 ha11 ?_
          refine r_ifnonnull_s (pc := 41) (tgt := 51) dX11_put_41 rfl ?_
          refine r_aload (pc := 51) dX11_put_51 1 rfl ?_
          refine r_ref0 ha11 ?_
          obtain ⟨g15, h⟩ := gd h
          obtain ⟨a16, ha16, h⟩ := ob h
          refine r_getS (pc := 53) dX11_put_53 fgX11_134 rfl g15 ha16 ?_
          refine r_iload_n (pc := 56) dX11_put_56 rfl 5 rfl ?_
          refine r_iload_n (pc := 57) dX11_put_57 rfl 4 rfl ?_
          refine r_lload (pc := 58) dX11_put_58 6 rfl ?_
          refine r_callS1 (pc := 60) (av := [vI x2, vL x4]) (S := [vI x3, vR (some a16)]) dX11_put_60 (kX11_cellOf rfl) mkX11_137 mwX11_cellOf rfl ⟨Nat.le_of_ble_eq_true rfl, Nat.le_of_ble_eq_true rfl⟩ (Nat.le_of_ble_eq_true rfl) ⟨Nat.le_refl _, Nat.le_refl _⟩ (fun b => b) ?_
          obtain ⟨g17, h⟩ := gd h
          obtain ⟨g18, h⟩ := gd h
          refine r_lastore (pc := 63) dX11_put_63 g17 g18 ?_
          refine r_iconst (pc := 64) dX11_put_64 kc_iconst_1 ?_
          cases h
          exact r_iret dX11_put_65
    · have h := it h c
      refine r_bipush (pc := 14) dX11_put_14 kc_bipush_m2 ?_
      cases h
      exact r_iret dX11_put_16
abbrev WX11_placeFault (G : Gx) (l : Launch) (σ0 : Shp) (X1 : Stt) (rv : Option SV) : Stt → Nat → List (Nat × SV) → List SV → Prop := Wm G l yX11_placeFault cX11_placeFault 4 (some .int) (fun _ => True) (rmx 2 42 σ0 X1.1) σ0 (Qmx G σ0 X1 rv)
def fX11_placeFault (σ : Shp) (I : Nat → Nat → Int32) (R : Nat → Nat → Option Nat) (x0 : Option Nat) (x1 : Int32) (x2 : Int32) : Option ((Int32)) :=
  (fX11_takenFault σ I x0 x1).bind fun r1 =>
  if r1 = 0 then
    onl x0
      (
        some r1)
      (fun a3 =>
        if x2 < 0 then
          some (2 : Int32)
        else
          if kdx σ a3 = 11 then
          ((R a3 2) : Option Nat).bind fun a5 =>
          if kdx σ a5 = 26 then
          if x2 < (Int32.ofNat (lnx σ a5)) then
            some (0 : Int32)
          else
            some (2 : Int32)
          else none
          else none)
  else
    some r1
theorem kX11_placeFault {G : Gx} {l : Launch} {σ : Shp} {I : Nat → Nat → Int32} {J : Nat → Nat → Int64} {D : Nat → Nat → UInt64} {R : Nat → Nat → Option Nat} {x0 : Option Nat} {x1 : Int32} {x2 : Int32} {r9 : Int32} (h : fX11_placeFault σ I R x0 x1 x2 = some r9) : Con G l yX11_placeFault cX11_placeFault 4 (some .int) 2 42 [vR x0, vI x1, vI x2] (σ, I, J, D, R) (σ, I, J, D, R) (some (vI r9)) := by
  unfold fX11_placeFault at h
  refine Con.mk (by decide +kernel) rfl (Nat.le_of_ble_eq_true rfl) ?_
  show WX11_placeFault G l σ (σ, I, J, D, R) (some (vI r9)) (σ, I, J, D, R) 0 _ []
  refine r_aload_n (pc := 0) dX11_placeFault_0 rfl 0 rfl ?_
  refine r_iload_n (pc := 1) dX11_placeFault_1 rfl 1 rfl ?_
  obtain ⟨r1, hc2, h⟩ := ob h
  refine r_callS1 (pc := 2) (av := [vR x0, vI x1]) (S := []) dX11_placeFault_2 (kX11_takenFault hc2) mkX11_267 mwX11_takenFault rfl ⟨Nat.le_of_ble_eq_true rfl, Nat.le_of_ble_eq_true rfl⟩ (Nat.le_of_ble_eq_true rfl) ⟨Nat.le_refl _, Nat.le_refl _⟩ (fun b => b) ?_
  refine r_istore_n (pc := 5) (L' := [(3, vI r1), (0, vR x0), (1, vI x1), (2, vI x2)]) dX11_placeFault_5 rfl (by decide) rfl ?_
  refine r_iload_n (pc := 6) dX11_placeFault_6 rfl 0 rfl ?_
  refine r_ifne (pc := 7) (tgt := 14) dX11_placeFault_7 rfl (fun c => ?_) (fun c => ?_)
  · have h := ie h c
    refine r_iload_n (pc := 14) dX11_placeFault_14 rfl 0 rfl ?_
    cases h
    exact r_iret dX11_placeFault_15
  · have h := it h c
    refine r_aload_n (pc := 10) dX11_placeFault_10 rfl 1 rfl ?_
    rcases onl_c h with ⟨ea3, h⟩ | ⟨a3, ha3, h⟩
    · refine r_ref0n ea3 ?_
      refine r_ifnonnull_n (pc := 11) dX11_placeFault_11 ?_
      refine r_iload_n (pc := 14) dX11_placeFault_14 rfl 0 rfl ?_
      cases h
      exact r_iret dX11_placeFault_15
    · refine r_ref0 ha3 ?_
      refine r_ifnonnull_s (pc := 11) (tgt := 16) dX11_placeFault_11 rfl ?_
      refine r_iload_n (pc := 16) dX11_placeFault_16 rfl 3 rfl ?_
      refine r_if_lt (pc := 17) (tgt := 29) dX11_placeFault_17 rfl (fun c => ?_) (fun c => ?_)
      · have h := it h c
        refine r_iconst (pc := 29) dX11_placeFault_29 kc_iconst_2 ?_
        refine r_goto (pc := 30) (tgt := 34) dX11_placeFault_30 rfl ?_
        cases h
        exact r_iret dX11_placeFault_34
      · have h := ie h c
        refine r_iload_n (pc := 20) dX11_placeFault_20 rfl 3 rfl ?_
        refine r_aload_n (pc := 21) dX11_placeFault_21 rfl 1 rfl ?_
        refine r_ref0 ha3 ?_
        obtain ⟨g4, h⟩ := gd h
        obtain ⟨a5, ha5, h⟩ := ob h
        refine r_getS (pc := 22) dX11_placeFault_22 fgX11_101 rfl g4 ha5 ?_
        obtain ⟨g6, h⟩ := gd h
        refine r_alen (pc := 25) dX11_placeFault_25 g6 (by decide) ?_
        refine r_icmp_lt (pc := 26) (tgt := 33) dX11_placeFault_26 rfl (fun c => ?_) (fun c => ?_)
        · have h := it h c
          refine r_iconst (pc := 33) dX11_placeFault_33 kc_iconst_0 ?_
          cases h
          exact r_iret dX11_placeFault_34
        · have h := ie h c
          refine r_iconst (pc := 29) dX11_placeFault_29 kc_iconst_2 ?_
          refine r_goto (pc := 30) (tgt := 34) dX11_placeFault_30 rfl ?_
          cases h
          exact r_iret dX11_placeFault_34
abbrev WX11_placeOf (G : Gx) (l : Launch) (σ0 : Shp) (X1 : Stt) (rv : Option SV) : Stt → Nat → List (Nat × SV) → List SV → Prop := Wm G l yX11_placeOf cX11_placeOf 2 (some (.object "GlassHouse$Thing")) (fun _ => True) (rmx 0 0 σ0 X1.1) σ0 (Qmx G σ0 X1 rv)
def fX11_placeOf (σ : Shp) (R : Nat → Nat → Option Nat) (x0 : Option Nat) (x1 : Int32) : Option ((Option Nat)) :=
  onl x0
    (
      some none)
    (fun a1 =>
      if x1 < 0 then
        some none
      else
        if kdx σ a1 = 11 then
        ((R a1 2) : Option Nat).bind fun a3 =>
        if kdx σ a3 = 26 then
        if x1 < (Int32.ofNat (lnx σ a3)) then
          if ¬ (x1 < 0 ∨ lnx σ a3 ≤ Int32.toNatClampNeg x1) then
          some (R a3 (Int32.toNatClampNeg x1))
          else none
        else
          some none
        else none
        else none)
theorem kX11_placeOf {G : Gx} {l : Launch} {σ : Shp} {I : Nat → Nat → Int32} {J : Nat → Nat → Int64} {D : Nat → Nat → UInt64} {R : Nat → Nat → Option Nat} {x0 : Option Nat} {x1 : Int32} {r9 : Option Nat} (h : fX11_placeOf σ R x0 x1 = some r9) : Con G l yX11_placeOf cX11_placeOf 2 (some (.object "GlassHouse$Thing")) 0 0 [vR x0, vI x1] (σ, I, J, D, R) (σ, I, J, D, R) (some (vR r9)) := by
  unfold fX11_placeOf at h
  refine Con.mk (by decide +kernel) rfl (Nat.le_of_ble_eq_true rfl) ?_
  show WX11_placeOf G l σ (σ, I, J, D, R) (some (vR r9)) (σ, I, J, D, R) 0 _ []
  refine r_aload_n (pc := 0) dX11_placeOf_0 rfl 0 rfl ?_
  rcases onl_c h with ⟨ea1, h⟩ | ⟨a1, ha1, h⟩
  · refine r_ref0n ea1 ?_
    refine r_ifnull_n (pc := 1) (tgt := 17) dX11_placeOf_1 rfl ?_
    refine r_null (pc := 17) dX11_placeOf_17 ?_
    refine r_goto (pc := 18) (tgt := 27) dX11_placeOf_18 rfl ?_
    cases h
    exact r_aret (Or.inl ⟨_, rfl⟩) dX11_placeOf_27
  · refine r_ref0 ha1 ?_
    refine r_ifnull_s (pc := 1) dX11_placeOf_1 ?_
    refine r_iload_n (pc := 4) dX11_placeOf_4 rfl 1 rfl ?_
    refine r_if_lt (pc := 5) (tgt := 17) dX11_placeOf_5 rfl (fun c => ?_) (fun c => ?_)
    · have h := it h c
      refine r_null (pc := 17) dX11_placeOf_17 ?_
      refine r_goto (pc := 18) (tgt := 27) dX11_placeOf_18 rfl ?_
      cases h
      exact r_aret (Or.inl ⟨_, rfl⟩) dX11_placeOf_27
    · have h := ie h c
      refine r_iload_n (pc := 8) dX11_placeOf_8 rfl 1 rfl ?_
      refine r_aload_n (pc := 9) dX11_placeOf_9 rfl 0 rfl ?_
      refine r_ref0 ha1 ?_
      obtain ⟨g2, h⟩ := gd h
      obtain ⟨a3, ha3, h⟩ := ob h
      refine r_getS (pc := 10) dX11_placeOf_10 fgX11_101 rfl g2 ha3 ?_
      obtain ⟨g4, h⟩ := gd h
      refine r_alen (pc := 13) dX11_placeOf_13 g4 (by decide) ?_
      refine r_icmp_lt (pc := 14) (tgt := 21) dX11_placeOf_14 rfl (fun c => ?_) (fun c => ?_)
      · have h := it h c
        refine r_aload_n (pc := 21) dX11_placeOf_21 rfl 0 rfl ?_
        refine r_ref0 ha1 ?_
        refine r_getS (pc := 22) dX11_placeOf_22 fgX11_101 rfl g2 ha3 ?_
        refine r_iload_n (pc := 25) dX11_placeOf_25 rfl 1 rfl ?_
        obtain ⟨g5, h⟩ := gd h
        refine r_aaload (pc := 26) dX11_placeOf_26 g4 (by decide) g5 ?_
        cases h
        exact r_aret (Or.inl ⟨_, rfl⟩) dX11_placeOf_27
      · have h := ie h c
        refine r_null (pc := 17) dX11_placeOf_17 ?_
        refine r_goto (pc := 18) (tgt := 27) dX11_placeOf_18 rfl ?_
        cases h
        exact r_aret (Or.inl ⟨_, rfl⟩) dX11_placeOf_27
abbrev WX11_bayAt (G : Gx) (l : Launch) (σ0 : Shp) (X1 : Stt) (rv : Option SV) : Stt → Nat → List (Nat × SV) → List SV → Prop := Wm G l yX11_bayAt cX11_bayAt 3 (some (.object "GlassHouse$Thing")) (fun _ => True) (rmx 3 65 σ0 X1.1) σ0 (Qmx G σ0 X1 rv)
def fX11_bayAt (σ : Shp) (I : Nat → Nat → Int32) (R : Nat → Nat → Option Nat) (x0 : Option Nat) (x1 : Int32) (x2 : Int32) : Option ((Option Nat)) :=
  (fX11_placeFault σ I R x0 x1 x2).bind fun r1 =>
  if r1 = 0 then
    (fX11_placeOf σ R x0 x2).bind fun r3 =>
    some r3
  else
    some none
theorem kX11_bayAt {G : Gx} {l : Launch} {σ : Shp} {I : Nat → Nat → Int32} {J : Nat → Nat → Int64} {D : Nat → Nat → UInt64} {R : Nat → Nat → Option Nat} {x0 : Option Nat} {x1 : Int32} {x2 : Int32} {r9 : Option Nat} (h : fX11_bayAt σ I R x0 x1 x2 = some r9) : Con G l yX11_bayAt cX11_bayAt 3 (some (.object "GlassHouse$Thing")) 3 65 [vR x0, vI x1, vI x2] (σ, I, J, D, R) (σ, I, J, D, R) (some (vR r9)) := by
  unfold fX11_bayAt at h
  refine Con.mk (by decide +kernel) rfl (Nat.le_of_ble_eq_true rfl) ?_
  show WX11_bayAt G l σ (σ, I, J, D, R) (some (vR r9)) (σ, I, J, D, R) 0 _ []
  refine r_aload_n (pc := 0) dX11_bayAt_0 rfl 0 rfl ?_
  refine r_iload_n (pc := 1) dX11_bayAt_1 rfl 1 rfl ?_
  refine r_iload_n (pc := 2) dX11_bayAt_2 rfl 2 rfl ?_
  obtain ⟨r1, hc2, h⟩ := ob h
  refine r_callS1 (pc := 3) (av := [vR x0, vI x1, vI x2]) (S := []) dX11_bayAt_3 (kX11_placeFault hc2) mkX11_149 mwX11_placeFault rfl ⟨Nat.le_of_ble_eq_true rfl, Nat.le_of_ble_eq_true rfl⟩ (Nat.le_of_ble_eq_true rfl) ⟨Nat.le_refl _, Nat.le_refl _⟩ (fun b => b) ?_
  refine r_ifne (pc := 6) (tgt := 17) dX11_bayAt_6 rfl (fun c => ?_) (fun c => ?_)
  · have h := ie h c
    refine r_null (pc := 17) dX11_bayAt_17 ?_
    cases h
    exact r_aret (Or.inl ⟨_, rfl⟩) dX11_bayAt_18
  · have h := it h c
    refine r_aload_n (pc := 9) dX11_bayAt_9 rfl 0 rfl ?_
    refine r_iload_n (pc := 10) dX11_bayAt_10 rfl 2 rfl ?_
    obtain ⟨r3, hc4, h⟩ := ob h
    refine r_callS1 (pc := 11) (av := [vR x0, vI x2]) (S := []) dX11_bayAt_11 (kX11_placeOf hc4) mkX11_152 mwX11_placeOf rfl ⟨Nat.le_of_ble_eq_true rfl, Nat.le_of_ble_eq_true rfl⟩ (Nat.le_of_ble_eq_true rfl) ⟨Nat.le_refl _, Nat.le_refl _⟩ (fun b => b) ?_
    refine r_goto (pc := 14) (tgt := 18) dX11_bayAt_14 rfl ?_
    cases h
    exact r_aret (Or.inl ⟨_, rfl⟩) dX11_bayAt_18
abbrev WX11_bayFault (G : Gx) (l : Launch) (σ0 : Shp) (X1 : Stt) (rv : Option SV) : Stt → Nat → List (Nat × SV) → List SV → Prop := Wm G l yX11_bayFault cX11_bayFault 5 (some .int) (fun _ => True) (rmx 3 65 σ0 X1.1) σ0 (Qmx G σ0 X1 rv)
def fX11_bayFault (σ : Shp) (I : Nat → Nat → Int32) (R : Nat → Nat → Option Nat) (x0 : Option Nat) (x1 : Int32) (x2 : Int32) (x3 : Int32) : Option ((Int32)) :=
  (fX11_placeFault σ I R x0 x1 x2).bind fun r1 =>
  if r1 = 0 then
    (fX11_placeOf σ R x0 x2).bind fun r3 =>
    (fX11_cellFault σ I R r3 (fX11_laneOfGrid x1) x3).bind fun r5 =>
    some r5
  else
    some r1
theorem kX11_bayFault {G : Gx} {l : Launch} {σ : Shp} {I : Nat → Nat → Int32} {J : Nat → Nat → Int64} {D : Nat → Nat → UInt64} {R : Nat → Nat → Option Nat} {x0 : Option Nat} {x1 : Int32} {x2 : Int32} {x3 : Int32} {r9 : Int32} (h : fX11_bayFault σ I R x0 x1 x2 x3 = some r9) : Con G l yX11_bayFault cX11_bayFault 5 (some .int) 3 65 [vR x0, vI x1, vI x2, vI x3] (σ, I, J, D, R) (σ, I, J, D, R) (some (vI r9)) := by
  unfold fX11_bayFault at h
  refine Con.mk (by decide +kernel) rfl (Nat.le_of_ble_eq_true rfl) ?_
  show WX11_bayFault G l σ (σ, I, J, D, R) (some (vI r9)) (σ, I, J, D, R) 0 _ []
  refine r_aload_n (pc := 0) dX11_bayFault_0 rfl 0 rfl ?_
  refine r_iload_n (pc := 1) dX11_bayFault_1 rfl 1 rfl ?_
  refine r_iload_n (pc := 2) dX11_bayFault_2 rfl 2 rfl ?_
  obtain ⟨r1, hc2, h⟩ := ob h
  refine r_callS1 (pc := 3) (av := [vR x0, vI x1, vI x2]) (S := []) dX11_bayFault_3 (kX11_placeFault hc2) mkX11_149 mwX11_placeFault rfl ⟨Nat.le_of_ble_eq_true rfl, Nat.le_of_ble_eq_true rfl⟩ (Nat.le_of_ble_eq_true rfl) ⟨Nat.le_refl _, Nat.le_refl _⟩ (fun b => b) ?_
  refine r_istore (pc := 6) (L' := [(4, vI r1), (0, vR x0), (1, vI x1), (2, vI x2), (3, vI x3)]) dX11_bayFault_6 (by decide) rfl ?_
  refine r_iload (pc := 8) dX11_bayFault_8 0 rfl ?_
  refine r_if_eq (pc := 10) (tgt := 16) dX11_bayFault_10 rfl (fun c => ?_) (fun c => ?_)
  · have h := it h c
    refine r_aload_n (pc := 16) dX11_bayFault_16 rfl 1 rfl ?_
    refine r_iload_n (pc := 17) dX11_bayFault_17 rfl 3 rfl ?_
    obtain ⟨r3, hc4, h⟩ := ob h
    refine r_callS1 (pc := 18) (av := [vR x0, vI x2]) (S := []) dX11_bayFault_18 (kX11_placeOf hc4) mkX11_152 mwX11_placeOf rfl ⟨Nat.le_of_ble_eq_true rfl, Nat.le_of_ble_eq_true rfl⟩ (Nat.le_of_ble_eq_true rfl) ⟨Nat.le_refl _, Nat.le_refl _⟩ (fun b => b) ?_
    refine r_iload_n (pc := 21) dX11_bayFault_21 rfl 2 rfl ?_
    refine r_callS1 (pc := 22) (av := [vI x1]) (S := [vR r3]) dX11_bayFault_22 (kX11_laneOfGrid rfl) mkX11_106 mwX11_laneOfGrid rfl ⟨Nat.le_of_ble_eq_true rfl, Nat.le_of_ble_eq_true rfl⟩ (Nat.le_of_ble_eq_true rfl) ⟨Nat.le_refl _, Nat.le_refl _⟩ (fun b => b) ?_
    refine r_iload_n (pc := 25) dX11_bayFault_25 rfl 4 rfl ?_
    obtain ⟨r5, hc6, h⟩ := ob h
    refine r_callS1 (pc := 26) (av := [vR r3, vI (fX11_laneOfGrid x1), vI x3]) (S := []) dX11_bayFault_26 (kX11_cellFault hc6) mkX11_130 mwX11_cellFault rfl ⟨Nat.le_of_ble_eq_true rfl, Nat.le_of_ble_eq_true rfl⟩ (Nat.le_of_ble_eq_true rfl) ⟨Nat.le_refl _, Nat.le_refl _⟩ (fun b => b) ?_
    cases h
    exact r_iret dX11_bayFault_29
  · have h := ie h c
    refine r_iload (pc := 13) dX11_bayFault_13 0 rfl ?_
    cases h
    exact r_iret dX11_bayFault_15
abbrev WX11_bed (G : Gx) (l : Launch) (σ0 : Shp) (X1 : Stt) (rv : Option SV) : Stt → Nat → List (Nat × SV) → List SV → Prop := Wm G l yX11_bed cX11_bed 7 (some .long) (fun _ => True) (rmx 4 89 σ0 X1.1) σ0 (Qmx G σ0 X1 rv)
def fX11_bed (σ : Shp) (I : Nat → Nat → Int32) (J : Nat → Nat → Int64) (R : Nat → Nat → Option Nat) (t : Nat) (x1 : Int32) (x2 : Int32) (x3 : Int32) (x4 : Int32) : Option ((Nat → Nat → Int32) × (Int64)) :=
  if (fX11_isBin x1) = 0 then
    some (I, (0 : Int64))
  else
    if (fX11_isGridForm x2) = 0 then
      some (I, (0 : Int64))
    else
      if kdx σ t = 12 then
      ((R t 1) : Option Nat).bind fun a2 =>
      if kdx σ a2 = 26 then
      if ¬ (x1 < 0 ∨ lnx σ a2 ≤ Int32.toNatClampNeg x1) then
      (fX11_bayAt σ I R (R a2 (Int32.toNatClampNeg x1)) x2 x3).bind fun r5 =>
      (fX11_bayFault σ I R (R a2 (Int32.toNatClampNeg x1)) x2 x3 x4).bind fun r7 =>
      if r7 = 0 then
        onl r5
          (
            (fX11_fail σ I t r7).bind fun (I13, r14) =>
            some (I13, (0 : Int64)))
          (fun a12 =>
            if kdx σ a12 = 11 then
            ((R a12 1) : Option Nat).bind fun a17 =>
            if kdx σ a17 = 21 then
            if ¬ (x4 < 0 ∨ lnx σ a17 ≤ Int32.toNatClampNeg x4) then
            some (I, (J a17 (Int32.toNatClampNeg x4)))
            else none
            else none
            else none)
      else
        (fX11_fail σ I t r7).bind fun (I9, r10) =>
        some (I9, (0 : Int64))
      else none
      else none
      else none
theorem kX11_bed {G : Gx} {l : Launch} {σ : Shp} {I : Nat → Nat → Int32} {J : Nat → Nat → Int64} {D : Nat → Nat → UInt64} {R : Nat → Nat → Option Nat} {t : Nat} {x1 : Int32} {x2 : Int32} {x3 : Int32} {x4 : Int32} {I9 : Nat → Nat → Int32} {r9 : Int64} (h : fX11_bed σ I J R t x1 x2 x3 x4 = some (I9, r9)) : Con G l yX11_bed cX11_bed 7 (some .long) 4 89 [vR (some t), vI x1, vI x2, vI x3, vI x4] (σ, I, J, D, R) (σ, I9, J, D, R) (some (vL r9)) := by
  unfold fX11_bed at h
  refine Con.mk (by decide +kernel) rfl (Nat.le_of_ble_eq_true rfl) ?_
  show WX11_bed G l σ (σ, I9, J, D, R) (some (vL r9)) (σ, I, J, D, R) 0 _ []
  refine r_iload_n (pc := 0) dX11_bed_0 rfl 1 rfl ?_
  refine r_callS1 (pc := 1) (av := [vI x1]) (S := []) dX11_bed_1 (kX11_isBin rfl) mkX11_76 mwX11_isBin rfl ⟨Nat.le_of_ble_eq_true rfl, Nat.le_of_ble_eq_true rfl⟩ (Nat.le_of_ble_eq_true rfl) ⟨Nat.le_refl _, Nat.le_refl _⟩ (fun b => b) ?_
  refine r_if_eq (pc := 4) (tgt := 14) dX11_bed_4 rfl (fun c => ?_) (fun c => ?_)
  · have h := it h c
    refine r_lconst (pc := 14) dX11_bed_14 kc_lconst_0 ?_
    cases h
    exact r_lret dX11_bed_15
  · have h := ie h c
    refine r_iload_n (pc := 7) dX11_bed_7 rfl 2 rfl ?_
    refine r_callS1 (pc := 8) (av := [vI x2]) (S := []) dX11_bed_8 (kX11_isGridForm rfl) mkX11_95 mwX11_isGridForm rfl ⟨Nat.le_of_ble_eq_true rfl, Nat.le_of_ble_eq_true rfl⟩ (Nat.le_of_ble_eq_true rfl) ⟨Nat.le_refl _, Nat.le_refl _⟩ (fun b => b) ?_
    refine r_ifne (pc := 11) (tgt := 16) dX11_bed_11 rfl (fun c => ?_) (fun c => ?_)
    · have h := ie h c
      refine r_aload_n (pc := 16) dX11_bed_16 rfl 0 rfl ?_
      obtain ⟨g1, h⟩ := gd h
      obtain ⟨a2, ha2, h⟩ := ob h
      refine r_getS (pc := 17) dX11_bed_17 fgX11_20 rfl g1 ha2 ?_
      refine r_iload_n (pc := 20) dX11_bed_20 rfl 1 rfl ?_
      obtain ⟨g3, h⟩ := gd h
      obtain ⟨g4, h⟩ := gd h
      refine r_aaload (pc := 21) dX11_bed_21 g3 (by decide) g4 ?_
      refine r_iload_n (pc := 22) dX11_bed_22 rfl 2 rfl ?_
      refine r_iload_n (pc := 23) dX11_bed_23 rfl 3 rfl ?_
      obtain ⟨r5, hc6, h⟩ := ob h
      refine r_callS1 (pc := 24) (av := [vR (R a2 (Int32.toNatClampNeg x1)), vI x2, vI x3]) (S := []) dX11_bed_24 (kX11_bayAt hc6) mkX11_141 mwX11_bayAt rfl ⟨Nat.le_of_ble_eq_true rfl, Nat.le_of_ble_eq_true rfl⟩ (Nat.le_of_ble_eq_true rfl) ⟨Nat.le_refl _, Nat.le_refl _⟩ (fun b => b) ?_
      refine r_astore (pc := 27) (L' := [(5, vR r5), (0, vR (some t)), (1, vI x1), (2, vI x2), (3, vI x3), (4, vI x4)]) dX11_bed_27 (by decide) rfl ?_
      refine r_aload_n (pc := 29) dX11_bed_29 rfl 1 rfl ?_
      refine r_getS (pc := 30) dX11_bed_30 fgX11_20 rfl g1 ha2 ?_
      refine r_iload_n (pc := 33) dX11_bed_33 rfl 2 rfl ?_
      refine r_aaload (pc := 34) dX11_bed_34 g3 (by decide) g4 ?_
      refine r_iload_n (pc := 35) dX11_bed_35 rfl 3 rfl ?_
      refine r_iload_n (pc := 36) dX11_bed_36 rfl 4 rfl ?_
      refine r_iload (pc := 37) dX11_bed_37 5 rfl ?_
      obtain ⟨r7, hc8, h⟩ := ob h
      refine r_callS1 (pc := 39) (av := [vR (R a2 (Int32.toNatClampNeg x1)), vI x2, vI x3, vI x4]) (S := []) dX11_bed_39 (kX11_bayFault hc8) mkX11_145 mwX11_bayFault rfl ⟨Nat.le_of_ble_eq_true rfl, Nat.le_of_ble_eq_true rfl⟩ (Nat.le_of_ble_eq_true rfl) ⟨Nat.le_refl _, Nat.le_refl _⟩ (fun b => b) ?_
      refine r_istore (pc := 42) (L' := [(6, vI r7), (5, vR r5), (0, vR (some t)), (1, vI x1), (2, vI x2), (3, vI x3), (4, vI x4)]) dX11_bed_42 (by decide) rfl ?_
      refine r_iload (pc := 44) dX11_bed_44 0 rfl ?_
      refine r_ifne (pc := 46) (tgt := 54) dX11_bed_46 rfl (fun c => ?_) (fun c => ?_)
      · have h := ie h c
        refine r_aload_n (pc := 54) dX11_bed_54 rfl 2 rfl ?_
        refine r_iload (pc := 55) dX11_bed_55 0 rfl ?_
        obtain ⟨⟨I9, r10⟩, hc11, h⟩ := ob h
        refine r_callV1 (pc := 57) (av := [vI r7]) (S := []) dX11_bed_57 (kX11_fail hc11) g1 rfl mkX11_87 mwX11_fail rfl ⟨Nat.le_of_ble_eq_true rfl, Nat.le_of_ble_eq_true rfl⟩ (Nat.le_of_ble_eq_true rfl) ⟨Nat.le_refl _, Nat.le_refl _⟩ (fun b => b) ?_
        refine r_pop (pc := 60) dX11_bed_60 rfl ?_
        refine r_lconst (pc := 61) dX11_bed_61 kc_lconst_0 ?_
        cases h
        exact r_lret dX11_bed_62
      · have h := it h c
        refine r_aload (pc := 49) dX11_bed_49 1 rfl ?_
        rcases onl_c h with ⟨ea12, h⟩ | ⟨a12, ha12, h⟩
        · refine r_ref0n ea12 ?_
          refine r_ifnonnull_n (pc := 51) dX11_bed_51 ?_
          refine r_aload_n (pc := 54) dX11_bed_54 rfl 2 rfl ?_
          refine r_iload (pc := 55) dX11_bed_55 0 rfl ?_
          obtain ⟨⟨I13, r14⟩, hc15, h⟩ := ob h
          refine r_callV1 (pc := 57) (av := [vI r7]) (S := []) dX11_bed_57 (kX11_fail hc15) g1 rfl mkX11_87 mwX11_fail rfl ⟨Nat.le_of_ble_eq_true rfl, Nat.le_of_ble_eq_true rfl⟩ (Nat.le_of_ble_eq_true rfl) ⟨Nat.le_refl _, Nat.le_refl _⟩ (fun b => b) ?_
          refine r_pop (pc := 60) dX11_bed_60 rfl ?_
          refine r_lconst (pc := 61) dX11_bed_61 kc_lconst_0 ?_
          cases h
          exact r_lret dX11_bed_62
        · refine r_ref0 ha12 ?_
          refine r_ifnonnull_s (pc := 51) (tgt := 63) dX11_bed_51 rfl ?_
          refine r_aload (pc := 63) dX11_bed_63 1 rfl ?_
          refine r_ref0 ha12 ?_
          obtain ⟨g16, h⟩ := gd h
          obtain ⟨a17, ha17, h⟩ := ob h
          refine r_getS (pc := 65) dX11_bed_65 fgX11_134 rfl g16 ha17 ?_
          refine r_iload (pc := 68) dX11_bed_68 6 rfl ?_
          obtain ⟨g18, h⟩ := gd h
          obtain ⟨g19, h⟩ := gd h
          refine r_laload (pc := 70) dX11_bed_70 g18 g19 ?_
          cases h
          exact r_lret dX11_bed_71
    · have h := it h c
      refine r_lconst (pc := 14) dX11_bed_14 kc_lconst_0 ?_
      cases h
      exact r_lret dX11_bed_15
abbrev WX11_setBed (G : Gx) (l : Launch) (σ0 : Shp) (X1 : Stt) (rv : Option SV) : Stt → Nat → List (Nat × SV) → List SV → Prop := Wm G l yX11_setBed cX11_setBed 9 (some .int) (fun _ => True) (rmx 4 89 σ0 X1.1) σ0 (Qmx G σ0 X1 rv)
def fX11_setBed (σ : Shp) (I : Nat → Nat → Int32) (J : Nat → Nat → Int64) (R : Nat → Nat → Option Nat) (t : Nat) (x1 : Int32) (x2 : Int32) (x3 : Int32) (x4 : Int32) (x5 : Int64) : Option ((Nat → Nat → Int32) × (Nat → Nat → Int64) × (Int32)) :=
  if (fX11_isBin x1) = 0 then
    some (I, J, (-2 : Int32))
  else
    if (fX11_isGridForm x2) = 0 then
      some (I, J, (-2 : Int32))
    else
      if kdx σ t = 12 then
      ((R t 1) : Option Nat).bind fun a2 =>
      if kdx σ a2 = 26 then
      if ¬ (x1 < 0 ∨ lnx σ a2 ≤ Int32.toNatClampNeg x1) then
      (fX11_bayAt σ I R (R a2 (Int32.toNatClampNeg x1)) x2 x3).bind fun r5 =>
      (fX11_bayFault σ I R (R a2 (Int32.toNatClampNeg x1)) x2 x3 x4).bind fun r7 =>
      if r7 = 0 then
        onl r5
          (
            (fX11_fail σ I t r7).bind fun (I13, r14) =>
            some (I13, J, r14))
          (fun a12 =>
            if kdx σ a12 = 11 then
            ((R a12 1) : Option Nat).bind fun a17 =>
            if kdx σ a17 = 21 then
            if ¬ (x4 < 0 ∨ lnx σ a17 ≤ Int32.toNatClampNeg x4) then
            let J20 := u2 J a17 (Int32.toNatClampNeg x4) (fX11_cellOf (fX11_laneOfGrid x2) x5)
            some (I, J20, (1 : Int32))
            else none
            else none
            else none)
      else
        (fX11_fail σ I t r7).bind fun (I9, r10) =>
        some (I9, J, r10)
      else none
      else none
      else none
theorem kX11_setBed {G : Gx} {l : Launch} {σ : Shp} {I : Nat → Nat → Int32} {J : Nat → Nat → Int64} {D : Nat → Nat → UInt64} {R : Nat → Nat → Option Nat} {t : Nat} {x1 : Int32} {x2 : Int32} {x3 : Int32} {x4 : Int32} {x5 : Int64} {I9 : Nat → Nat → Int32} {J9 : Nat → Nat → Int64} {r9 : Int32} (h : fX11_setBed σ I J R t x1 x2 x3 x4 x5 = some (I9, J9, r9)) : Con G l yX11_setBed cX11_setBed 9 (some .int) 4 89 [vR (some t), vI x1, vI x2, vI x3, vI x4, vL x5] (σ, I, J, D, R) (σ, I9, J9, D, R) (some (vI r9)) := by
  unfold fX11_setBed at h
  refine Con.mk (by decide +kernel) rfl (Nat.le_of_ble_eq_true rfl) ?_
  show WX11_setBed G l σ (σ, I9, J9, D, R) (some (vI r9)) (σ, I, J, D, R) 0 _ []
  refine r_iload_n (pc := 0) dX11_setBed_0 rfl 1 rfl ?_
  refine r_callS1 (pc := 1) (av := [vI x1]) (S := []) dX11_setBed_1 (kX11_isBin rfl) mkX11_76 mwX11_isBin rfl ⟨Nat.le_of_ble_eq_true rfl, Nat.le_of_ble_eq_true rfl⟩ (Nat.le_of_ble_eq_true rfl) ⟨Nat.le_refl _, Nat.le_refl _⟩ (fun b => b) ?_
  refine r_if_eq (pc := 4) (tgt := 14) dX11_setBed_4 rfl (fun c => ?_) (fun c => ?_)
  · have h := it h c
    refine r_bipush (pc := 14) dX11_setBed_14 kc_bipush_m2 ?_
    cases h
    exact r_iret dX11_setBed_16
  · have h := ie h c
    refine r_iload_n (pc := 7) dX11_setBed_7 rfl 2 rfl ?_
    refine r_callS1 (pc := 8) (av := [vI x2]) (S := []) dX11_setBed_8 (kX11_isGridForm rfl) mkX11_95 mwX11_isGridForm rfl ⟨Nat.le_of_ble_eq_true rfl, Nat.le_of_ble_eq_true rfl⟩ (Nat.le_of_ble_eq_true rfl) ⟨Nat.le_refl _, Nat.le_refl _⟩ (fun b => b) ?_
    refine r_ifne (pc := 11) (tgt := 17) dX11_setBed_11 rfl (fun c => ?_) (fun c => ?_)
    · have h := ie h c
      refine r_aload_n (pc := 17) dX11_setBed_17 rfl 0 rfl ?_
      obtain ⟨g1, h⟩ := gd h
      obtain ⟨a2, ha2, h⟩ := ob h
      refine r_getS (pc := 18) dX11_setBed_18 fgX11_20 rfl g1 ha2 ?_
      refine r_iload_n (pc := 21) dX11_setBed_21 rfl 1 rfl ?_
      obtain ⟨g3, h⟩ := gd h
      obtain ⟨g4, h⟩ := gd h
      refine r_aaload (pc := 22) dX11_setBed_22 g3 (by decide) g4 ?_
      refine r_iload_n (pc := 23) dX11_setBed_23 rfl 2 rfl ?_
      refine r_iload_n (pc := 24) dX11_setBed_24 rfl 3 rfl ?_
      obtain ⟨r5, hc6, h⟩ := ob h
      refine r_callS1 (pc := 25) (av := [vR (R a2 (Int32.toNatClampNeg x1)), vI x2, vI x3]) (S := []) dX11_setBed_25 (kX11_bayAt hc6) mkX11_141 mwX11_bayAt rfl ⟨Nat.le_of_ble_eq_true rfl, Nat.le_of_ble_eq_true rfl⟩ (Nat.le_of_ble_eq_true rfl) ⟨Nat.le_refl _, Nat.le_refl _⟩ (fun b => b) ?_
      refine r_astore (pc := 28) (L' := [(7, vR r5), (0, vR (some t)), (1, vI x1), (2, vI x2), (3, vI x3), (4, vI x4), (5, vL x5)]) dX11_setBed_28 (by decide) rfl ?_
      refine r_aload_n (pc := 30) dX11_setBed_30 rfl 1 rfl ?_
      refine r_getS (pc := 31) dX11_setBed_31 fgX11_20 rfl g1 ha2 ?_
      refine r_iload_n (pc := 34) dX11_setBed_34 rfl 2 rfl ?_
      refine r_aaload (pc := 35) dX11_setBed_35 g3 (by decide) g4 ?_
      refine r_iload_n (pc := 36) dX11_setBed_36 rfl 3 rfl ?_
      refine r_iload_n (pc := 37) dX11_setBed_37 rfl 4 rfl ?_
      refine r_iload (pc := 38) dX11_setBed_38 5 rfl ?_
      obtain ⟨r7, hc8, h⟩ := ob h
      refine r_callS1 (pc := 40) (av := [vR (R a2 (Int32.toNatClampNeg x1)), vI x2, vI x3, vI x4]) (S := []) dX11_setBed_40 (kX11_bayFault hc8) mkX11_145 mwX11_bayFault rfl ⟨Nat.le_of_ble_eq_true rfl, Nat.le_of_ble_eq_true rfl⟩ (Nat.le_of_ble_eq_true rfl) ⟨Nat.le_refl _, Nat.le_refl _⟩ (fun b => b) ?_
      refine r_istore (pc := 43) (L' := [(8, vI r7), (7, vR r5), (0, vR (some t)), (1, vI x1), (2, vI x2), (3, vI x3), (4, vI x4), (5, vL x5)]) dX11_setBed_43 (by decide) rfl ?_
      refine r_iload (pc := 45) dX11_setBed_45 0 rfl ?_
      refine r_ifne (pc := 47) (tgt := 55) dX11_setBed_47 rfl (fun c => ?_) (fun c => ?_)
      · have h := ie h c
        refine r_aload_n (pc := 55) dX11_setBed_55 rfl 2 rfl ?_
        refine r_iload (pc := 56) dX11_setBed_56 0 rfl ?_
        obtain ⟨⟨I9, r10⟩, hc11, h⟩ := ob h
        refine r_callV1 (pc := 58) (av := [vI r7]) (S := []) dX11_setBed_58 (kX11_fail hc11) g1 rfl mkX11_87 mwX11_fail rfl ⟨Nat.le_of_ble_eq_true rfl, Nat.le_of_ble_eq_true rfl⟩ (Nat.le_of_ble_eq_true rfl) ⟨Nat.le_refl _, Nat.le_refl _⟩ (fun b => b) ?_
        cases h
        exact r_iret dX11_setBed_61
      · have h := it h c
        refine r_aload (pc := 50) dX11_setBed_50 1 rfl ?_
        rcases onl_c h with ⟨ea12, h⟩ | ⟨a12, ha12, h⟩
        · refine r_ref0n ea12 ?_
          refine r_ifnonnull_n (pc := 52) dX11_setBed_52 ?_
          refine r_aload_n (pc := 55) dX11_setBed_55 rfl 2 rfl ?_
          refine r_iload (pc := 56) dX11_setBed_56 0 rfl ?_
          obtain ⟨⟨I13, r14⟩, hc15, h⟩ := ob h
          refine r_callV1 (pc := 58) (av := [vI r7]) (S := []) dX11_setBed_58 (kX11_fail hc15) g1 rfl mkX11_87 mwX11_fail rfl ⟨Nat.le_of_ble_eq_true rfl, Nat.le_of_ble_eq_true rfl⟩ (Nat.le_of_ble_eq_true rfl) ⟨Nat.le_refl _, Nat.le_refl _⟩ (fun b => b) ?_
          cases h
          exact r_iret dX11_setBed_61
        · refine r_ref0 ha12 ?_
          refine r_ifnonnull_s (pc := 52) (tgt := 62) dX11_setBed_52 rfl ?_
          refine r_aload (pc := 62) dX11_setBed_62 1 rfl ?_
          refine r_ref0 ha12 ?_
          obtain ⟨g16, h⟩ := gd h
          obtain ⟨a17, ha17, h⟩ := ob h
          refine r_getS (pc := 64) dX11_setBed_64 fgX11_134 rfl g16 ha17 ?_
          refine r_iload (pc := 67) dX11_setBed_67 6 rfl ?_
          refine r_iload_n (pc := 69) dX11_setBed_69 rfl 4 rfl ?_
          refine r_callS1 (pc := 70) (av := [vI x2]) (S := [vI x4, vR (some a17)]) dX11_setBed_70 (kX11_laneOfGrid rfl) mkX11_106 mwX11_laneOfGrid rfl ⟨Nat.le_of_ble_eq_true rfl, Nat.le_of_ble_eq_true rfl⟩ (Nat.le_of_ble_eq_true rfl) ⟨Nat.le_refl _, Nat.le_refl _⟩ (fun b => b) ?_
          refine r_lload (pc := 73) dX11_setBed_73 7 rfl ?_
          refine r_callS1 (pc := 75) (av := [vI (fX11_laneOfGrid x2), vL x5]) (S := [vI x4, vR (some a17)]) dX11_setBed_75 (kX11_cellOf rfl) mkX11_137 mwX11_cellOf rfl ⟨Nat.le_of_ble_eq_true rfl, Nat.le_of_ble_eq_true rfl⟩ (Nat.le_of_ble_eq_true rfl) ⟨Nat.le_refl _, Nat.le_refl _⟩ (fun b => b) ?_
          obtain ⟨g18, h⟩ := gd h
          obtain ⟨g19, h⟩ := gd h
          refine r_lastore (pc := 78) dX11_setBed_78 g18 g19 ?_
          refine r_iconst (pc := 79) dX11_setBed_79 kc_iconst_1 ?_
          cases h
          exact r_iret dX11_setBed_80
    · have h := it h c
      refine r_bipush (pc := 14) dX11_setBed_14 kc_bipush_m2 ?_
      cases h
      exact r_iret dX11_setBed_16
abbrev WX11_countUp (G : Gx) (l : Launch) (σ0 : Shp) (X1 : Stt) (rv : Option SV) : Stt → Nat → List (Nat × SV) → List SV → Prop := Wm G l yX11_countUp cX11_countUp 11 (some .int) (fun _ => True) (rmx 4 89 σ0 X1.1) σ0 (Qmx G σ0 X1 rv)
def fX11_countUp_b78  (σ : Shp) (R : Nat → Nat → Option Nat) (t : Nat) (I : Nat → Nat → Int32) (J : Nat → Nat → Int64) (x4 : Int32) (x5 : Int32) (x7 : Int32) (s0 : Option Nat) : Option ((Nat → Nat → Int32) × (Nat → Nat → Int64) × (Int32)) :=
  onl s0
    (
      if kdx σ t = 12 then
      (fX11_fail σ I t x7).bind fun (I10, r11) =>
      some (I10, J, (0 : Int32))
      else none)
    (fun a8 =>
      if kdx σ a8 = 11 then
      ((R a8 1) : Option Nat).bind fun a14 =>
      if kdx σ a14 = 21 then
      if ¬ (x4 < 0 ∨ lnx σ a14 ≤ Int32.toNatClampNeg x4) then
      let v17 := (Int64.toInt32 (J a14 (Int32.toNatClampNeg x4)))
      let J18 := u2 J a14 (Int32.toNatClampNeg x4) (Int32.toInt64 (v17 + (1 : Int32)))
      if x5 = 0 then
        some (I, J18, v17)
      else
        some (I, J18, (v17 + (1 : Int32)))
      else none
      else none
      else none)
theorem wX11_countUp_b78 {G : Gx} {l : Launch} {σ : Shp} {I : Nat → Nat → Int32} {J : Nat → Nat → Int64} {D : Nat → Nat → UInt64} {R : Nat → Nat → Option Nat} {t : Nat} {I9 : Nat → Nat → Int32} {J9 : Nat → Nat → Int64} {r9 : Int32} {x4 : Int32} {x5 : Int32} {x7 : Int32} {s0 : Option Nat} (h : fX11_countUp_b78 σ R t I J x4 x5 x7 s0 = some (I9, J9, r9)) : WX11_countUp G l σ (σ, I9, J9, D, R) (some (vI r9)) (σ, I, J, D, R) 78 [(0, vR (some t)), (4, vI x4), (5, vI x5), (7, vI x7)] [vR s0] := by
  unfold fX11_countUp_b78 at h
  refine r_astore (pc := 78) (L' := [(9, vR s0), (0, vR (some t)), (4, vI x4), (5, vI x5), (7, vI x7)]) dX11_countUp_78 (by decide) rfl ?_
  refine r_aload (pc := 80) dX11_countUp_80 0 rfl ?_
  rcases onl_c h with ⟨ea8, h⟩ | ⟨a8, ha8, h⟩
  · refine r_ref0n ea8 ?_
    refine r_ifnonnull_n (pc := 82) dX11_countUp_82 ?_
    refine r_aload_n (pc := 85) dX11_countUp_85 rfl 1 rfl ?_
    refine r_iload (pc := 86) dX11_countUp_86 4 rfl ?_
    obtain ⟨g9, h⟩ := gd h
    obtain ⟨⟨I10, r11⟩, hc12, h⟩ := ob h
    refine r_callV1 (pc := 88) (av := [vI x7]) (S := []) dX11_countUp_88 (kX11_fail hc12) g9 rfl mkX11_87 mwX11_fail rfl ⟨Nat.le_of_ble_eq_true rfl, Nat.le_of_ble_eq_true rfl⟩ (Nat.le_of_ble_eq_true rfl) ⟨Nat.le_refl _, Nat.le_refl _⟩ (fun b => b) ?_
    refine r_pop (pc := 91) dX11_countUp_91 rfl ?_
    refine r_iconst (pc := 92) dX11_countUp_92 kc_iconst_0 ?_
    cases h
    exact r_iret dX11_countUp_93
  · refine r_ref0 ha8 ?_
    refine r_ifnonnull_s (pc := 82) (tgt := 94) dX11_countUp_82 rfl ?_
    refine r_aload (pc := 94) dX11_countUp_94 0 rfl ?_
    refine r_ref0 ha8 ?_
    obtain ⟨g13, h⟩ := gd h
    obtain ⟨a14, ha14, h⟩ := ob h
    refine r_getS (pc := 96) dX11_countUp_96 fgX11_134 rfl g13 ha14 ?_
    refine r_iload (pc := 99) dX11_countUp_99 2 rfl ?_
    obtain ⟨g15, h⟩ := gd h
    obtain ⟨g16, h⟩ := gd h
    refine r_laload (pc := 101) dX11_countUp_101 g15 g16 ?_
    refine r_l2i (pc := 102) dX11_countUp_102 ?_
    refine r_istore (pc := 103) (L' := [(10, vI (Int64.toInt32 (J a14 (Int32.toNatClampNeg x4)))), (9, vR s0), (0, vR (some t)), (4, vI x4), (5, vI x5), (7, vI x7)]) dX11_countUp_103 (by decide) rfl ?_
    refine r_aload (pc := 105) dX11_countUp_105 1 rfl ?_
    refine r_ref0 ha8 ?_
    refine r_getS (pc := 107) dX11_countUp_107 fgX11_134 rfl g13 ha14 ?_
    refine r_iload (pc := 110) dX11_countUp_110 3 rfl ?_
    refine r_iload (pc := 112) dX11_countUp_112 0 rfl ?_
    refine r_iconst (pc := 114) dX11_countUp_114 kc_iconst_1 ?_
    refine r_iadd (pc := 115) dX11_countUp_115 ?_
    refine r_i2l (pc := 116) dX11_countUp_116 ?_
    refine r_lastore (pc := 117) dX11_countUp_117 g15 g16 ?_
    refine r_iload (pc := 118) dX11_countUp_118 4 rfl ?_
    refine r_if_eq (pc := 120) (tgt := 130) dX11_countUp_120 rfl (fun c => ?_) (fun c => ?_)
    · have h := it h c
      refine r_iload (pc := 130) dX11_countUp_130 0 rfl ?_
      cases h
      exact r_iret dX11_countUp_132
    · have h := ie h c
      refine r_iload (pc := 123) dX11_countUp_123 0 rfl ?_
      refine r_iconst (pc := 125) dX11_countUp_125 kc_iconst_1 ?_
      refine r_iadd (pc := 126) dX11_countUp_126 ?_
      refine r_goto (pc := 127) (tgt := 132) dX11_countUp_127 rfl ?_
      cases h
      exact r_iret dX11_countUp_132
def fX11_countUp_b42  (σ : Shp) (R : Nat → Nat → Option Nat) (t : Nat) (I : Nat → Nat → Int32) (J : Nat → Nat → Int64) (x3 : Int32) (x4 : Int32) (x5 : Int32) (x7 : Int32) (s0 : Option Nat) : Option ((Nat → Nat → Int32) × (Nat → Nat → Int64) × (Int32)) :=
  if x7 = 0 then
    (fX11_bayFault σ I R s0 (9 : Int32) x3 x4).bind fun r21 =>
    if r21 = 0 then
      (fX11_bayAt σ I R s0 (9 : Int32) x3).bind fun r23 =>
      fX11_countUp_b78 σ R t I J x4 x5 r21 r23
    else
      fX11_countUp_b78 σ R t I J x4 x5 r21 none
  else
    if x7 = 0 then
      (fX11_bayAt σ I R s0 (9 : Int32) x3).bind fun r19 =>
      fX11_countUp_b78 σ R t I J x4 x5 x7 r19
    else
      fX11_countUp_b78 σ R t I J x4 x5 x7 none
theorem wX11_countUp_b42 {G : Gx} {l : Launch} {σ : Shp} {I : Nat → Nat → Int32} {J : Nat → Nat → Int64} {D : Nat → Nat → UInt64} {R : Nat → Nat → Option Nat} {t : Nat} {I9 : Nat → Nat → Int32} {J9 : Nat → Nat → Int64} {r9 : Int32} {x3 : Int32} {x4 : Int32} {x5 : Int32} {x7 : Int32} {s0 : Option Nat} (h : fX11_countUp_b42 σ R t I J x3 x4 x5 x7 s0 = some (I9, J9, r9)) : WX11_countUp G l σ (σ, I9, J9, D, R) (some (vI r9)) (σ, I, J, D, R) 42 [(0, vR (some t)), (3, vI x3), (4, vI x4), (5, vI x5), (7, vI x7)] [vR s0] := by
  unfold fX11_countUp_b42 at h
  refine r_astore (pc := 42) (L' := [(8, vR s0), (0, vR (some t)), (3, vI x3), (4, vI x4), (5, vI x5), (7, vI x7)]) dX11_countUp_42 (by decide) rfl ?_
  refine r_iload (pc := 44) dX11_countUp_44 5 rfl ?_
  refine r_ifne (pc := 46) (tgt := 61) dX11_countUp_46 rfl (fun c => ?_) (fun c => ?_)
  · have h := ie h c
    refine r_iload (pc := 61) dX11_countUp_61 5 rfl ?_
    refine r_ifne (pc := 63) (tgt := 77) dX11_countUp_63 rfl (fun c => ?_) (fun c => ?_)
    · have h := ie h c
      refine r_null (pc := 77) dX11_countUp_77 ?_
      refine r_sub [1, 3, 4, 5] rfl ?_
      exact wX11_countUp_b78 h
    · have h := it h c
      refine r_aload (pc := 66) dX11_countUp_66 0 rfl ?_
      refine r_bipush (pc := 68) dX11_countUp_68 kc_bipush_9 ?_
      refine r_iload_n (pc := 70) dX11_countUp_70 rfl 2 rfl ?_
      obtain ⟨r19, hc20, h⟩ := ob h
      refine r_callS1 (pc := 71) (av := [vR s0, vI (9 : Int32), vI x3]) (S := []) dX11_countUp_71 (kX11_bayAt hc20) mkX11_141 mwX11_bayAt rfl ⟨Nat.le_of_ble_eq_true rfl, Nat.le_of_ble_eq_true rfl⟩ (Nat.le_of_ble_eq_true rfl) ⟨Nat.le_refl _, Nat.le_refl _⟩ (fun b => b) ?_
      refine r_goto (pc := 74) (tgt := 78) dX11_countUp_74 rfl ?_
      refine r_sub [1, 3, 4, 5] rfl ?_
      exact wX11_countUp_b78 h
  · have h := it h c
    refine r_aload (pc := 49) dX11_countUp_49 0 rfl ?_
    refine r_bipush (pc := 51) dX11_countUp_51 kc_bipush_9 ?_
    refine r_iload_n (pc := 53) dX11_countUp_53 rfl 2 rfl ?_
    refine r_iload (pc := 54) dX11_countUp_54 3 rfl ?_
    obtain ⟨r21, hc22, h⟩ := ob h
    refine r_callS1 (pc := 56) (av := [vR s0, vI (9 : Int32), vI x3, vI x4]) (S := []) dX11_countUp_56 (kX11_bayFault hc22) mkX11_145 mwX11_bayFault rfl ⟨Nat.le_of_ble_eq_true rfl, Nat.le_of_ble_eq_true rfl⟩ (Nat.le_of_ble_eq_true rfl) ⟨Nat.le_refl _, Nat.le_refl _⟩ (fun b => b) ?_
    refine r_istore (pc := 59) (L' := [(7, vI r21), (8, vR s0), (0, vR (some t)), (3, vI x3), (4, vI x4), (5, vI x5)]) dX11_countUp_59 (by decide) rfl ?_
    refine r_iload (pc := 61) dX11_countUp_61 0 rfl ?_
    refine r_ifne (pc := 63) (tgt := 77) dX11_countUp_63 rfl (fun c => ?_) (fun c => ?_)
    · have h := ie h c
      refine r_null (pc := 77) dX11_countUp_77 ?_
      refine r_sub [2, 4, 5, 0] rfl ?_
      exact wX11_countUp_b78 h
    · have h := it h c
      refine r_aload (pc := 66) dX11_countUp_66 1 rfl ?_
      refine r_bipush (pc := 68) dX11_countUp_68 kc_bipush_9 ?_
      refine r_iload_n (pc := 70) dX11_countUp_70 rfl 3 rfl ?_
      obtain ⟨r23, hc24, h⟩ := ob h
      refine r_callS1 (pc := 71) (av := [vR s0, vI (9 : Int32), vI x3]) (S := []) dX11_countUp_71 (kX11_bayAt hc24) mkX11_141 mwX11_bayAt rfl ⟨Nat.le_of_ble_eq_true rfl, Nat.le_of_ble_eq_true rfl⟩ (Nat.le_of_ble_eq_true rfl) ⟨Nat.le_refl _, Nat.le_refl _⟩ (fun b => b) ?_
      refine r_goto (pc := 74) (tgt := 78) dX11_countUp_74 rfl ?_
      refine r_sub [2, 4, 5, 0] rfl ?_
      exact wX11_countUp_b78 h
def fX11_countUp (σ : Shp) (I : Nat → Nat → Int32) (J : Nat → Nat → Int64) (R : Nat → Nat → Option Nat) (t : Nat) (x1 : Int32) (x2 : Int32) (x3 : Int32) (x4 : Int32) (x5 : Int32) : Option ((Nat → Nat → Int32) × (Nat → Nat → Int64) × (Int32)) :=
  if (fX11_isBin x1) = 0 then
    some (I, J, (0 : Int32))
  else
    if kdx σ t = 12 then
    ((R t 1) : Option Nat).bind fun a2 =>
    if kdx σ a2 = 26 then
    if ¬ (x1 < 0 ∨ lnx σ a2 ≤ Int32.toNatClampNeg x1) then
    let v5 := (R a2 (Int32.toNatClampNeg x1))
    (fX11_placeFault σ I R v5 (11 : Int32) x2).bind fun r6 =>
    if r6 = 0 then
      (fX11_placeOf σ R v5 x2).bind fun r25 =>
      fX11_countUp_b42 σ R t I J x3 x4 x5 r6 r25
    else
      fX11_countUp_b42 σ R t I J x3 x4 x5 r6 none
    else none
    else none
    else none
theorem kX11_countUp {G : Gx} {l : Launch} {σ : Shp} {I : Nat → Nat → Int32} {J : Nat → Nat → Int64} {D : Nat → Nat → UInt64} {R : Nat → Nat → Option Nat} {t : Nat} {x1 : Int32} {x2 : Int32} {x3 : Int32} {x4 : Int32} {x5 : Int32} {I9 : Nat → Nat → Int32} {J9 : Nat → Nat → Int64} {r9 : Int32} (h : fX11_countUp σ I J R t x1 x2 x3 x4 x5 = some (I9, J9, r9)) : Con G l yX11_countUp cX11_countUp 11 (some .int) 4 89 [vR (some t), vI x1, vI x2, vI x3, vI x4, vI x5] (σ, I, J, D, R) (σ, I9, J9, D, R) (some (vI r9)) := by
  unfold fX11_countUp at h
  refine Con.mk (by decide +kernel) rfl (Nat.le_of_ble_eq_true rfl) ?_
  show WX11_countUp G l σ (σ, I9, J9, D, R) (some (vI r9)) (σ, I, J, D, R) 0 _ []
  refine r_iload_n (pc := 0) dX11_countUp_0 rfl 1 rfl ?_
  refine r_callS1 (pc := 1) (av := [vI x1]) (S := []) dX11_countUp_1 (kX11_isBin rfl) mkX11_76 mwX11_isBin rfl ⟨Nat.le_of_ble_eq_true rfl, Nat.le_of_ble_eq_true rfl⟩ (Nat.le_of_ble_eq_true rfl) ⟨Nat.le_refl _, Nat.le_refl _⟩ (fun b => b) ?_
  refine r_ifne (pc := 4) (tgt := 9) dX11_countUp_4 rfl (fun c => ?_) (fun c => ?_)
  · have h := ie h c
    refine r_aload_n (pc := 9) dX11_countUp_9 rfl 0 rfl ?_
    obtain ⟨g1, h⟩ := gd h
    obtain ⟨a2, ha2, h⟩ := ob h
    refine r_getS (pc := 10) dX11_countUp_10 fgX11_20 rfl g1 ha2 ?_
    refine r_iload_n (pc := 13) dX11_countUp_13 rfl 1 rfl ?_
    obtain ⟨g3, h⟩ := gd h
    obtain ⟨g4, h⟩ := gd h
    refine r_aaload (pc := 14) dX11_countUp_14 g3 (by decide) g4 ?_
    refine r_astore (pc := 15) (L' := [(6, vR (R a2 (Int32.toNatClampNeg x1))), (0, vR (some t)), (1, vI x1), (2, vI x2), (3, vI x3), (4, vI x4), (5, vI x5)]) dX11_countUp_15 (by decide) rfl ?_
    refine r_aload (pc := 17) dX11_countUp_17 0 rfl ?_
    refine r_bipush (pc := 19) dX11_countUp_19 kc_bipush_11 ?_
    refine r_iload_n (pc := 21) dX11_countUp_21 rfl 3 rfl ?_
    obtain ⟨r6, hc7, h⟩ := ob h
    refine r_callS1 (pc := 22) (av := [vR (R a2 (Int32.toNatClampNeg x1)), vI (11 : Int32), vI x2]) (S := []) dX11_countUp_22 (kX11_placeFault hc7) mkX11_149 mwX11_placeFault rfl ⟨Nat.le_of_ble_eq_true rfl, Nat.le_of_ble_eq_true rfl⟩ (Nat.le_of_ble_eq_true rfl) ⟨Nat.le_refl _, Nat.le_refl _⟩ (fun b => b) ?_
    refine r_istore (pc := 25) (L' := [(7, vI r6), (6, vR (R a2 (Int32.toNatClampNeg x1))), (0, vR (some t)), (1, vI x1), (2, vI x2), (3, vI x3), (4, vI x4), (5, vI x5)]) dX11_countUp_25 (by decide) rfl ?_
    refine r_iload (pc := 27) dX11_countUp_27 0 rfl ?_
    refine r_ifne (pc := 29) (tgt := 41) dX11_countUp_29 rfl (fun c => ?_) (fun c => ?_)
    · have h := ie h c
      refine r_null (pc := 41) dX11_countUp_41 ?_
      refine r_sub [2, 5, 6, 7, 0] rfl ?_
      exact wX11_countUp_b42 h
    · have h := it h c
      refine r_aload (pc := 32) dX11_countUp_32 1 rfl ?_
      refine r_iload_n (pc := 34) dX11_countUp_34 rfl 4 rfl ?_
      obtain ⟨r25, hc26, h⟩ := ob h
      refine r_callS1 (pc := 35) (av := [vR (R a2 (Int32.toNatClampNeg x1)), vI x2]) (S := []) dX11_countUp_35 (kX11_placeOf hc26) mkX11_152 mwX11_placeOf rfl ⟨Nat.le_of_ble_eq_true rfl, Nat.le_of_ble_eq_true rfl⟩ (Nat.le_of_ble_eq_true rfl) ⟨Nat.le_refl _, Nat.le_refl _⟩ (fun b => b) ?_
      refine r_goto (pc := 38) (tgt := 42) dX11_countUp_38 rfl ?_
      refine r_sub [2, 5, 6, 7, 0] rfl ?_
      exact wX11_countUp_b42 h
  · have h := it h c
    refine r_iconst (pc := 7) dX11_countUp_7 kc_iconst_0 ?_
    cases h
    exact r_iret dX11_countUp_8
